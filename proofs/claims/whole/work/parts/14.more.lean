section ZMO
variable {l : Launch} {Xi : zXi} {M : zM} {d kc ks pc : Nat} {Ls : List (Option Value)} {S : List Value} {h : zH} {post : zR → zH → Prop}
theorem zJ_iinc1 {i k : Nat} (hd : decode M.2.2.1 pc = .ok (.iinc i 1, 3)) (hx : Ls[i]? = some (some (.int (nI k)))) (hL : i < M.2.2.2.1) (kk : zJ l Xi M d kc ks (pc + 3) (Ls.set i (some (.int (nI (k + 1))))) S h post) : zJ l Xi M d kc ks pc Ls S h post := zJ_iinc (v := nI (k + 1)) hd hx hL (nI_1 k) kk
/-- locals, stack by equals -/
theorem zJ_eq {Ls' : List (Option Value)} {S' : List Value} {h' : zH} (e1 : Ls = Ls') (e2 : S = S') (e3 : h = h') (k : zJ l Xi M d kc ks pc Ls' S' h' post) : zJ l Xi M d kc ks pc Ls S h post := by
  subst e1 e2 e3
  exact k
end ZMO
theorem zup_row {I : zI} {a j b : Nat} {x : Int32} (h : b ≠ a) : zup I a j x b = I b := by simp [zup, va_up, h]
theorem zup_same {I : zI} {a j : Nat} {x : Int32} : zup I a j x a = upd (I a) j x := by simp [zup, va_up]
theorem va_up_row {I : zI} {a b : Nat} {f : Nat → Int32} (h : b ≠ a) : va_up I a f b = I b := by simp [va_up, h]
theorem va_up_same {I : zI} {a : Nat} {f : Nat → Int32} : va_up I a f a = f := by simp [va_up]
