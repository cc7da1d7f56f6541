import java.util.ArrayList;
import java.util.HashMap;
import java.util.HashSet;
import java.util.List;
import java.util.Map;
import java.util.NoSuchElementException;
import java.util.Set;
import java.util.TreeMap;

/**
 * The document once more, written as naively as it can be, to be asked beside the program:
 * tokens first, laws as trees, places as names (100 y + x), distances by sweeping until nothing changes,
 * fewest places by trying all meeting places.
 */
final class Model {
    static final class Fault extends RuntimeException {
        private static final long serialVersionUID = 1L;
        final int kind;
        final int at;

        Fault(int kind, int at) {
            this.kind = kind;
            this.at = at;
        }
    }

    static final class Token {
        final char kind;
        final String text;
        final int at;

        Token(char kind, String text, int at) {
            this.kind = kind;
            this.text = text;
            this.at = at;
        }
    }

    interface Value {
        int of(Map<String, Integer> names);
    }

    static final class Net {
        int limit;
        final List<Integer> pins = new ArrayList<>();
    }

    static final class Sheet {
        final List<Map<Integer, Integer>> trees = new ArrayList<>();
        final Map<Integer, Integer> history = new HashMap<>();
        final Set<Integer> walls = new HashSet<>();
        final List<Integer> crits = new ArrayList<>();
        int round;

        Sheet copy() {
            Sheet s = new Sheet();
            for (Map<Integer, Integer> t : trees) {
                s.trees.add(new TreeMap<>(t));
            }
            s.history.putAll(history);
            s.walls.addAll(walls);
            s.crits.addAll(crits);
            s.round = round;
            return s;
        }
    }

    static final class Picture {
        Sheet sheet;
        List<Sheet> works;
    }

    static final class Step {
        String word;
        int a;
        int b;
        List<Step> inner;
    }

    private static final int[] DX = {0, 1, 0, -1};
    private static final int[] DY = {-1, 0, 1, 0};
    private static final String WITHOUT = "1 + (past + over * (round + 3)) * (10 - crit) / 10";

    private byte[] tape = new byte[0];
    private int faultAt = -1;
    private int w = 4;
    private int h = 4;
    private int gain = 1;
    private Map<Integer, Integer> wide = new HashMap<>();
    private List<Net> nets = new ArrayList<>();
    private Value law = lawOf(WITHOUT.getBytes());
    private Map<Integer, Integer> book = new HashMap<>();
    private Sheet now = new Sheet();
    private List<Sheet> works = new ArrayList<>();
    private final List<Picture> pictures = new ArrayList<>();
    private int refused;
    private int noSuch;
    private int wrong;

    // ---- texts

    private static List<Token> tokens(byte[] text) {
        List<Token> all = new ArrayList<>();
        int i = 0;
        while (i < text.length) {
            int c = text[i] & 255;
            if (c == 32) {
                i++;
                continue;
            }
            char kind = c >= '0' && c <= '9' ? 'n' : c >= 'a' && c <= 'z' ? 'w' : 's';
            int to = i + 1;
            while (kind != 's' && to < text.length && sameKind(kind, text[to] & 255)) {
                to++;
            }
            StringBuilder s = new StringBuilder();
            for (int k = i; k < to; k++) {
                s.append((char) (text[k] & 255));
            }
            all.add(new Token(kind, s.toString(), i));
            i = to;
        }
        all.add(new Token('e', "", text.length));
        return all;
    }

    private static boolean sameKind(char kind, int c) {
        return kind == 'n' ? c >= '0' && c <= '9' : c >= 'a' && c <= 'z';
    }

    static final class Reader {
        final List<Token> all;
        int at;

        Reader(byte[] text) {
            all = tokens(text);
        }

        Token peek() {
            return all.get(at);
        }

        Token next() {
            Token t = all.get(at);
            if (t.kind != 'e') {
                at++;
            }
            return t;
        }

        boolean ended() {
            return peek().kind == 'e';
        }

        int number(int low, int high) {
            Token t = next();
            if (t.kind != 'n') {
                throw new Fault(1, t.at);
            }
            java.math.BigInteger v = new java.math.BigInteger(t.text);
            if (v.compareTo(java.math.BigInteger.valueOf(low)) < 0 || v.compareTo(java.math.BigInteger.valueOf(high)) > 0) {
                throw new Fault(2, t.at);
            }
            return v.intValue();
        }

        void sign(String s) {
            Token t = next();
            if (t.kind != 's' || !t.text.equals(s)) {
                throw new Fault(1, t.at);
            }
        }

        boolean isSign(String s) {
            return peek().kind == 's' && peek().text.equals(s);
        }
    }

    private static int name(int x, int y) {
        return 100 * y + x;
    }

    private static final class BoardTold {
        int w = 4;
        int h = 4;
        int gain = 1;
        final List<int[]> walls = new ArrayList<>();
        final List<int[]> wides = new ArrayList<>();
        final List<int[]> netsTold = new ArrayList<>();
        final List<List<int[]>> pins = new ArrayList<>();
    }

    private static BoardTold boardOf(byte[] text) {
        Reader r = new Reader(text);
        BoardTold b = new BoardTold();
        int clauses = 0;
        while (!r.ended()) {
            Token t = r.next();
            if (t.kind != 'w' || !List.of("size", "wall", "wide", "net", "pin", "gain").contains(t.text)) {
                throw new Fault(1, t.at);
            }
            if (++clauses > 60) {
                throw new Fault(3, t.at);
            }
            switch (t.text) {
                case "size" -> {
                    b.w = r.number(2, 8);
                    b.h = r.number(2, 8);
                }
                case "wall" -> b.walls.add(new int[] {r.number(0, 7), r.number(0, 7)});
                case "wide" -> b.wides.add(new int[] {r.number(0, 7), r.number(0, 7), r.number(1, 3)});
                case "net" -> {
                    if (b.netsTold.size() == 6) {
                        throw new Fault(3, t.at);
                    }
                    b.netsTold.add(new int[] {r.number(0, 9), r.number(0, 60)});
                    b.pins.add(new ArrayList<>());
                }
                case "pin" -> {
                    int at = r.peek().at;
                    int n = r.number(0, b.netsTold.size() - 1);
                    if (b.pins.get(n).size() == 4) {
                        throw new Fault(3, at);
                    }
                    b.pins.get(n).add(new int[] {r.number(0, 7), r.number(0, 7)});
                }
                default -> b.gain = r.number(0, 9);
            }
            r.sign(";");
        }
        return b;
    }

    private static Value lawOf(byte[] text) {
        Reader r = new Reader(text);
        Value v = sum(r, 0);
        if (!r.ended()) {
            throw new Fault(1, r.peek().at);
        }
        return v;
    }

    private static Value sum(Reader r, int open) {
        Value left = product(r, open);
        while (r.isSign("+") || r.isSign("-")) {
            boolean plus = r.next().text.equals("+");
            Value a = left;
            Value b = product(r, open);
            left = plus ? n -> a.of(n) + b.of(n) : n -> a.of(n) - b.of(n);
        }
        return left;
    }

    private static Value product(Reader r, int open) {
        Value left = unit(r, open);
        while (r.isSign("*") || r.isSign("/") || r.isSign("%")) {
            String op = r.next().text;
            Value a = left;
            Value b = unit(r, open);
            left = n -> {
                int x = a.of(n);
                int y = b.of(n);
                if (op.equals("*")) {
                    return (int) ((long) x * y);
                }
                if (y == 0) {
                    return 0;
                }
                return (int) (op.equals("/") ? (long) x / y : (long) x % y);
            };
        }
        return left;
    }

    private static Value unit(Reader r, int open) {
        Token t = r.peek();
        if (t.kind == 'n') {
            int v = r.number(0, 999);
            return n -> v;
        }
        r.next();
        if (t.kind == 's' && t.text.equals("(")) {
            if (open == 6) {
                throw new Fault(3, t.at);
            }
            Value v = sum(r, open + 1);
            r.sign(")");
            return v;
        }
        if (t.kind == 'w' && (t.text.equals("least") || t.text.equals("most"))) {
            if (open == 6) {
                throw new Fault(3, t.at);
            }
            r.sign("[");
            Value a = sum(r, open + 1);
            r.sign(",");
            Value b = sum(r, open + 1);
            r.sign("]");
            return t.text.equals("least") ? n -> Math.min(a.of(n), b.of(n)) : n -> Math.max(a.of(n), b.of(n));
        }
        if (t.kind == 'w' && List.of("past", "over", "crit", "round", "wide", "col", "row", "pins").contains(t.text)) {
            return n -> n.get(t.text);
        }
        throw new Fault(1, t.at);
    }

    private List<Step> steps(Reader r, int open) {
        List<Step> all = new ArrayList<>();
        while (open == 0 ? !r.ended() : !r.isSign("]")) {
            Token t = r.next();
            if (t.kind != 'w') {
                throw new Fault(1, t.at);
            }
            Step s = new Step();
            s.word = t.text;
            switch (t.text) {
                case "round" -> { }
                case "lay", "rip" -> s.a = r.number(0, nets.size() - 1);
                case "crit" -> {
                    s.a = r.number(0, nets.size() - 1);
                    s.b = r.number(0, 9);
                }
                case "block" -> {
                    s.a = r.number(0, w - 1);
                    s.b = r.number(0, h - 1);
                }
                case "ease" -> s.a = r.number(1, 99);
                case "again" -> {
                    if (open == 6) {
                        throw new Fault(3, t.at);
                    }
                    s.a = r.number(0, 40);
                    r.sign("[");
                    s.inner = steps(r, open + 1);
                    r.sign("]");
                }
                default -> throw new Fault(1, t.at);
            }
            r.sign(";");
            all.add(s);
        }
        return all;
    }

    private Map<Integer, Integer> bookOf(byte[] text) {
        Reader r = new Reader(text);
        Map<Integer, Integer> lines = new HashMap<>();
        while (!r.ended()) {
            int atX = r.peek().at;
            int x = r.number(0, w - 1);
            if (lines.size() == 8) {
                throw new Fault(3, atX);
            }
            int atY = r.peek().at;
            int y = r.number(0, h - 1);
            if (lines.containsKey(name(x, y))) {
                throw new Fault(2, atY);
            }
            lines.put(name(x, y), r.number(0, 6));
            r.sign(";");
        }
        return lines;
    }

    // ---- the board and its trees

    private List<Integer> places() {
        List<Integer> all = new ArrayList<>();
        for (int y = 0; y < h; y++) {
            for (int x = 0; x < w; x++) {
                all.add(name(x, y));
            }
        }
        return all;
    }

    private int beside(int p, int way) {
        int x = p % 100 + DX[way];
        int y = p / 100 + DY[way];
        return x < 0 || x >= w || y < 0 || y >= h ? -1 : name(x, y);
    }

    private int uses(Sheet s, int p) {
        int n = 0;
        for (Map<Integer, Integer> t : s.trees) {
            n += t.containsKey(p) ? 1 : 0;
        }
        return n;
    }

    private int width(int p) {
        return wide.getOrDefault(p, 1);
    }

    private int over(Sheet s, int p) {
        return Math.max(0, uses(s, p) - width(p));
    }

    private int priceBy(Map<String, Integer> names) {
        return Math.max(1, Math.min(999, law.of(names)));
    }

    private int price(Sheet s, int net, int p) {
        int others = 0;
        int pins = 0;
        for (int n = 0; n < nets.size(); n++) {
            others += n != net && s.trees.get(n).containsKey(p) ? 1 : 0;
            pins += n != net && nets.get(n).pins.contains(p) ? 1 : 0;
        }
        Map<String, Integer> names = new HashMap<>();
        names.put("past", s.history.getOrDefault(p, 0));
        names.put("over", Math.max(0, others + 1 - width(p)));
        names.put("crit", s.crits.get(net));
        names.put("round", s.round);
        names.put("wide", width(p));
        names.put("col", p % 100);
        names.put("row", p / 100);
        names.put("pins", pins);
        return priceBy(names);
    }

    private boolean joined(Sheet s, int net) {
        return s.trees.get(net).keySet().containsAll(nets.get(net).pins);
    }

    private boolean done(Sheet s) {
        for (int n = 0; n < nets.size(); n++) {
            if (!joined(s, n)) {
                return false;
            }
        }
        return overs(s) == 0;
    }

    private int overs(Sheet s) {
        int n = 0;
        for (int p : places()) {
            n += over(s, p) > 0 ? 1 : 0;
        }
        return n;
    }

    private Map<Integer, Integer> distances(Sheet s, int net) {
        Map<Integer, Integer> d = new HashMap<>();
        Map<Integer, Integer> prices = new HashMap<>();
        for (int p : places()) {
            prices.put(p, price(s, net, p));
        }
        for (int p : s.trees.get(net).keySet()) {
            d.put(p, 0);
        }
        boolean changed = true;
        while (changed) {
            changed = false;
            for (int p : places()) {
                if (s.walls.contains(p)) {
                    continue;
                }
                for (int way = 0; way < 4; way++) {
                    int q = beside(p, way);
                    if (q >= 0 && d.containsKey(q)) {
                        int v = d.get(q) + prices.get(p);
                        if (v < d.getOrDefault(p, Integer.MAX_VALUE)) {
                            d.put(p, v);
                            changed = true;
                        }
                    }
                }
            }
        }
        return d;
    }

    private void grow(Sheet s, int net) {
        Map<Integer, Integer> tree = s.trees.get(net);
        while (!joined(s, net)) {
            Map<Integer, Integer> d = distances(s, net);
            int pin = -1;
            for (int p : nets.get(net).pins) {
                if (!tree.containsKey(p) && d.containsKey(p) && (pin < 0 || d.get(p) < d.get(pin))) {
                    pin = p;
                }
            }
            if (pin < 0) {
                return;
            }
            int p = pin;
            while (!tree.containsKey(p)) {
                int cost = price(s, net, p);
                for (int way = 0; way < 4; way++) {
                    int q = beside(p, way);
                    if (q >= 0 && d.containsKey(q) && d.get(q) == d.get(p) - cost) {
                        tree.put(p, way);
                        p = q;
                        break;
                    }
                }
            }
        }
    }

    private boolean lay(Sheet s, int net) {
        if (nets.get(net).pins.isEmpty()) {
            return false;
        }
        s.trees.get(net).clear();
        s.trees.get(net).put(nets.get(net).pins.get(0), 4);
        grow(s, net);
        return true;
    }

    private boolean rip(Sheet s, int net) {
        if (s.trees.get(net).isEmpty()) {
            return false;
        }
        s.trees.get(net).clear();
        return true;
    }

    private int wayUp(int p, int way) {
        return name(p % 100 + DX[way], p / 100 + DY[way]);
    }

    private Map<Integer, Integer> kept(Sheet s, int net) {
        Map<Integer, Integer> tree = s.trees.get(net);
        Map<Integer, Integer> kept = new TreeMap<>();
        kept.put(nets.get(net).pins.get(0), 4);
        for (int p : tree.keySet()) {
            boolean clear = true;
            int q = p;
            while (tree.get(q) != 4) {
                clear &= over(s, q) == 0;
                q = wayUp(q, tree.get(q));
            }
            if (clear) {
                kept.put(p, tree.get(p));
            }
        }
        return kept;
    }

    private void round(Sheet s) {
        for (int n = 0; n < nets.size(); n++) {
            if (nets.get(n).pins.isEmpty()) {
                continue;
            }
            boolean shares = false;
            for (int p : s.trees.get(n).keySet()) {
                shares |= over(s, p) > 0;
            }
            if (joined(s, n) && !shares) {
                continue;
            }
            s.trees.set(n, kept(s, n));
            grow(s, n);
        }
        for (int p : places()) {
            s.history.put(p, Math.min(9999, s.history.getOrDefault(p, 0) + over(s, p) * gain));
        }
        s.round++;
    }

    private void ease(Sheet s, int v) {
        for (int p : places()) {
            s.history.put(p, Math.max(0, s.history.getOrDefault(p, 0) - v));
        }
    }

    private boolean perform(Sheet s, Step step) {
        switch (step.word) {
            case "round":
                if (s.round >= 400) {
                    return false;
                }
                round(s);
                return true;
            case "lay":
                return lay(s, step.a);
            case "rip":
                return rip(s, step.a);
            case "crit":
                if (s.crits.get(step.a) == step.b) {
                    return false;
                }
                s.crits.set(step.a, step.b);
                return true;
            case "block": {
                int p = name(step.a, step.b);
                boolean pin = false;
                for (Net n : nets) {
                    pin |= n.pins.contains(p);
                }
                if (pin || uses(s, p) > 0) {
                    return false;
                }
                if (!s.walls.remove(p)) {
                    s.walls.add(p);
                }
                return true;
            }
            default:
                ease(s, step.a);
                return true;
        }
    }

    private int begun;
    private int stepsDone;

    private void perform(List<Step> steps) {
        for (Step step : steps) {
            if (begun == 200) {
                return;
            }
            begun++;
            if (step.word.equals("again")) {
                for (int i = 0; i < step.a; i++) {
                    perform(step.inner);
                }
            } else if (perform(now, step)) {
                stepsDone++;
            } else {
                refused++;
            }
        }
    }

    private int stepsUp(Sheet s, int net, int p) {
        int n = 0;
        Map<Integer, Integer> tree = s.trees.get(net);
        while (tree.get(p) != 4) {
            p = wayUp(p, tree.get(p));
            n++;
        }
        return n;
    }

    private int delay(Sheet s, int net) {
        int most = 0;
        for (int p : nets.get(net).pins) {
            if (s.trees.get(net).containsKey(p)) {
                most = Math.max(most, stepsUp(s, net, p));
            }
        }
        return most;
    }

    private int joinedBits(Sheet s) {
        int bits = 0;
        for (int n = 0; n < nets.size(); n++) {
            bits |= joined(s, n) ? 1 << n : 0;
        }
        return bits;
    }

    private int together(Sheet s) {
        int sum = 0;
        for (Map<Integer, Integer> t : s.trees) {
            sum += t.size();
        }
        return sum;
    }

    private int seed;

    private int drawn(int by) {
        seed = (int) (seed * 1103515245L + 12345L);
        int bits = 0;
        for (int b = 16; b <= 30; b++) {
            bits |= (seed >> b & 1) << (b - 16);
        }
        return bits % by;
    }

    private Sheet seasonSheet(int from, int many, int q) {
        Sheet s = now.copy();
        seed = from;
        for (int i = 0; i < many; i++) {
            if (!nets.isEmpty()) {
                int n = drawn(nets.size());
                int deed = drawn(8);
                if (deed == 0) {
                    rip(s, n);
                } else if (deed <= 2) {
                    lay(s, n);
                } else if (deed == 3) {
                    s.crits.set(n, drawn(10));
                } else {
                    round(s);
                }
            }
            if (drawn(16) < q) {
                ease(s, 1);
            }
        }
        return s;
    }

    // ---- the face

    private void needNet(int n) {
        if (n < 0 || n >= nets.size()) {
            noSuch++;
            throw new NoSuchElementException();
        }
    }

    private void needPlace(int x, int y) {
        if (x < 0 || y < 0 || x >= w || y >= h) {
            noSuch++;
            throw new NoSuchElementException();
        }
    }

    private void need(boolean fine) {
        if (!fine) {
            wrong++;
            throw new IllegalArgumentException();
        }
    }

    int feed(int... five) {
        if (tape.length + 20 > 600) {
            return -1;
        }
        java.nio.ByteBuffer b = java.nio.ByteBuffer.allocate(tape.length + 20);
        b.put(tape);
        for (int v : five) {
            b.putInt(v);
        }
        tape = b.array();
        return tape.length;
    }

    private byte[] take(int n) {
        byte[] text = java.util.Arrays.copyOf(tape, n);
        tape = new byte[0];
        faultAt = -1;
        return text;
    }

    private int failed(Fault f) {
        faultAt = f.at;
        return f.kind - 10;
    }

    int board(int n) {
        need(n >= 0 && n <= tape.length);
        try {
            BoardTold b = boardOf(take(n));
            w = b.w;
            h = b.h;
            gain = b.gain;
            nets = new ArrayList<>();
            wide = new HashMap<>();
            now = new Sheet();
            for (int i = 0; i < b.netsTold.size(); i++) {
                Net net = new Net();
                net.limit = b.netsTold.get(i)[1];
                for (int[] xy : b.pins.get(i)) {
                    if (xy[0] < w && xy[1] < h && !net.pins.contains(name(xy[0], xy[1]))) {
                        net.pins.add(name(xy[0], xy[1]));
                    }
                }
                nets.add(net);
                now.crits.add(b.netsTold.get(i)[0]);
                now.trees.add(new TreeMap<>());
            }
            for (int[] v : b.wides) {
                wide.put(name(v[0], v[1]), v[2]);
            }
            for (int[] v : b.walls) {
                int p = name(v[0], v[1]);
                boolean pin = false;
                for (Net net : nets) {
                    pin |= net.pins.contains(p);
                }
                if (!pin && v[0] < w && v[1] < h) {
                    now.walls.add(p);
                }
            }
            law = lawOf(WITHOUT.getBytes());
            book = new HashMap<>();
            works = new ArrayList<>();
            pictures.clear();
            refused = 0;
            return nets.size();
        } catch (Fault f) {
            return failed(f);
        }
    }

    int law(int n) {
        need(n >= 0 && n <= tape.length && n <= 150);
        try {
            law = lawOf(take(n));
            return 1;
        } catch (Fault f) {
            return failed(f);
        }
    }

    int work(int n) {
        need(n >= 0 && n <= tape.length && n <= 150);
        byte[] text = take(n);
        if (works.size() == 16) {
            return -20;
        }
        try {
            List<Step> steps = steps(new Reader(text), 0);
            works.add(now.copy());
            begun = 0;
            stepsDone = 0;
            refused = 0;
            perform(steps);
            return stepsDone;
        } catch (Fault f) {
            return failed(f);
        }
    }

    int book(int n) {
        need(n >= 0 && n <= tape.length && n <= 60);
        try {
            book = bookOf(take(n));
            return book.size();
        } catch (Fault f) {
            return failed(f);
        }
    }

    int fault() {
        return faultAt;
    }

    int undo() {
        if (works.isEmpty()) {
            return -1;
        }
        now = works.remove(works.size() - 1);
        refused = 0;
        return works.size();
    }

    int told(int what) {
        need(what >= 0 && what <= 12);
        int late = 0;
        for (int n = 0; n < nets.size(); n++) {
            late |= !joined(now, n) || delay(now, n) > nets.get(n).limit ? 1 << n : 0;
        }
        return new int[] {w, h, nets.size(), now.round, joinedBits(now), overs(now), done(now) ? 1 : 0, late,
            together(now), gain, book.size(), refused, now.walls.size()}[what];
    }

    int net(int net, int what) {
        needNet(net);
        need(what >= 0 && what <= 10);
        Map<Integer, Integer> tree = now.trees.get(net);
        Map<Integer, Integer> children = new HashMap<>();
        int overs = 0;
        int deep = 0;
        for (int p : tree.keySet()) {
            overs += over(now, p) > 0 ? 1 : 0;
            deep = Math.max(deep, stepsUp(now, net, p));
            if (tree.get(p) != 4) {
                children.merge(wayUp(p, tree.get(p)), 1, Integer::sum);
            }
        }
        int forks = 0;
        for (int c : children.values()) {
            forks += c > 1 ? 1 : 0;
        }
        Net n = nets.get(net);
        return new int[] {now.crits.get(net), n.limit, n.pins.size(), tree.size(), overs, delay(now, net),
            n.limit - delay(now, net), tree.size() - children.size(), forks, deep, joined(now, net) ? 1 : 0}[what];
    }

    int place(int x, int y, int what) {
        needPlace(x, y);
        need(what >= 0 && what <= 6);
        int p = name(x, y);
        int having = 0;
        int pinned = 0;
        for (int n = 0; n < nets.size(); n++) {
            having |= now.trees.get(n).containsKey(p) ? 1 << n : 0;
            pinned |= nets.get(n).pins.contains(p) ? 1 << n : 0;
        }
        return new int[] {width(p), uses(now, p), now.history.getOrDefault(p, 0), now.walls.contains(p) ? 1 : 0,
            having, pinned, over(now, p)}[what];
    }

    int cost(int net, int x, int y) {
        needNet(net);
        needPlace(x, y);
        return price(now, net, name(x, y));
    }

    int would(int... v) {
        int[] low = {0, 0, 0, 0, 1, 0, 0, 0};
        int[] high = {9999, 6, 9, 400, 3, 7, 7, 6};
        String[] called = {"past", "over", "crit", "round", "wide", "col", "row", "pins"};
        Map<String, Integer> names = new HashMap<>();
        for (int i = 0; i < 8; i++) {
            need(v[i] >= low[i] && v[i] <= high[i]);
            names.put(called[i], v[i]);
        }
        return priceBy(names);
    }

    int parent(int net, int x, int y) {
        needNet(net);
        needPlace(x, y);
        return now.trees.get(net).getOrDefault(name(x, y), -1);
    }

    int dist(int net, int x, int y) {
        needNet(net);
        needPlace(x, y);
        return distances(now, net).getOrDefault(name(x, y), -1);
    }

    int spared(int net, int x, int y) {
        int far = dist(net, x, y);
        if (far < 0) {
            return -1;
        }
        Map<Integer, Integer> d = distances(now, net);
        int many = 0;
        for (int p : d.keySet()) {
            int steps = Math.abs(p % 100 - x) + Math.abs(p / 100 - y);
            many += d.get(p) < far && d.get(p) + steps >= far ? 1 : 0;
        }
        return many;
    }

    int settled() {
        Sheet s = now.copy();
        for (int i = 0; i <= 40; i++) {
            if (done(s)) {
                return i;
            }
            round(s);
        }
        return -1;
    }

    private Sheet later(int rounds) {
        Sheet s = now.copy();
        for (int i = 0; i < rounds; i++) {
            round(s);
        }
        return s;
    }

    int jam(int y) {
        needPlace(0, y);
        Sheet s = later(40);
        int bits = 0;
        for (int x = 0; x < w; x++) {
            bits |= over(s, name(x, y)) > 0 ? 1 << x : 0;
        }
        return bits;
    }

    int ahead(int n, int what) {
        need(n >= 0 && n <= 40 && what >= 0 && what <= 3);
        Sheet s = later(n);
        int sum = 0;
        for (int v : s.history.values()) {
            sum += v;
        }
        return new int[] {overs(s), joinedBits(s), together(s), sum}[what];
    }

    private Map<Integer, Integer> stepsFrom(int start) {
        Map<Integer, Integer> d = new HashMap<>();
        List<Integer> queue = new ArrayList<>(List.of(start));
        d.put(start, 0);
        for (int i = 0; i < queue.size(); i++) {
            for (int way = 0; way < 4; way++) {
                int q = beside(queue.get(i), way);
                if (q >= 0 && !now.walls.contains(q) && !d.containsKey(q)) {
                    d.put(q, d.get(queue.get(i)) + 1);
                    queue.add(q);
                }
            }
        }
        return d;
    }

    int fewest(int net) {
        needNet(net);
        List<Integer> pins = nets.get(net).pins;
        if (pins.isEmpty()) {
            return 0;
        }
        List<Map<Integer, Integer>> from = new ArrayList<>();
        for (int i = 0; i < 4; i++) {
            from.add(stepsFrom(pins.get(Math.min(i, pins.size() - 1))));
        }
        if (!from.get(0).keySet().containsAll(pins)) {
            return -1;
        }
        int[][] pairings = {{0, 1, 2, 3}, {0, 2, 1, 3}, {0, 3, 1, 2}};
        int best = Integer.MAX_VALUE;
        for (int u : from.get(0).keySet()) {
            Map<Integer, Integer> fromU = stepsFrom(u);
            for (int v : from.get(0).keySet()) {
                for (int[] p : pairings) {
                    best = Math.min(best, from.get(p[0]).get(u) + from.get(p[1]).get(u) + fromU.get(v)
                            + from.get(p[2]).get(v) + from.get(p[3]).get(v));
                }
            }
        }
        return best + 1;
    }

    int tree(int net, int y) {
        needNet(net);
        needPlace(0, y);
        int bits = 0;
        for (int x = 0; x < w; x++) {
            bits |= now.trees.get(net).containsKey(name(x, y)) ? 1 << x : 0;
        }
        return bits;
    }

    int meet(int net, int other) {
        needNet(net);
        needNet(other);
        Set<Integer> both = new HashSet<>(now.trees.get(net).keySet());
        both.retainAll(now.trees.get(other).keySet());
        return both.size();
    }

    int dear(int net) {
        needNet(net);
        int sum = 0;
        for (Map.Entry<Integer, Integer> e : now.trees.get(net).entrySet()) {
            sum += e.getValue() == 4 ? 0 : price(now, net, e.getKey());
        }
        return sum;
    }

    int shed(int net) {
        needNet(net);
        return nets.get(net).pins.isEmpty() ? 0 : kept(now, net).size();
    }

    private List<Integer> pairs(List<Sheet> behind) {
        List<Integer> all = new ArrayList<>();
        for (int n = 0; n < nets.size(); n++) {
            for (int deed = 0; deed < 2; deed++) {
                Sheet s = now.copy();
                boolean right = deed == 0 ? rip(s, n) : lay(s, n);
                for (Map.Entry<Integer, Integer> line : book.entrySet()) {
                    right &= uses(s, line.getKey()) == line.getValue();
                }
                if (right) {
                    all.add(10 * n + deed);
                    behind.add(s);
                }
            }
        }
        return all;
    }

    int fits(int what) {
        need(what == 0 || what == 1);
        List<Integer> all = pairs(new ArrayList<>());
        return what == 0 ? all.size() : all.isEmpty() ? -1 : all.get(0);
    }

    int look(int what) {
        need(what == 0 || what == 1);
        List<Sheet> behind = new ArrayList<>();
        pairs(behind);
        int best = -1;
        int least = -1;
        for (int p : places()) {
            if (book.containsKey(p)) {
                continue;
            }
            int worst = 0;
            for (int u = 0; u <= 6; u++) {
                int left = 0;
                for (Sheet s : behind) {
                    left += uses(s, p) == u ? 1 : 0;
                }
                worst = Math.max(worst, left);
            }
            if (best < 0 || worst < least) {
                best = p / 100 * 10 + p % 100;
                least = worst;
            }
        }
        return what == 0 ? best : least;
    }

    int crowd(int what) {
        need(what == 0 || what == 1);
        int best = 0;
        for (int p : places()) {
            best = uses(now, p) > uses(now, best) ? p : best;
        }
        return what == 0 ? best / 100 * 10 + best % 100 : uses(now, best);
    }

    int tight(int what) {
        need(what == 0 || what == 1);
        int who = -1000;
        int least = -1000;
        for (int n = 0; n < nets.size(); n++) {
            int slack = nets.get(n).limit - delay(now, n);
            if (joined(now, n) && !nets.get(n).pins.isEmpty() && (who == -1000 || slack < least)) {
                who = n;
                least = slack;
            }
        }
        return what == 0 ? who : least;
    }

    int season(int from, int many, int q, int what) {
        need(many >= 1 && many <= 40 && q >= 0 && q <= 16 && what >= 0 && what <= 3);
        Sheet s = seasonSheet(from, many, q);
        return new int[] {overs(s), joinedBits(s), s.round, together(s)}[what];
    }

    int span(int from, int seeds, int many, int q, int what, int net) {
        needNet(net);
        need(seeds >= 1 && seeds <= 5 && many >= 1 && many <= 40 && q >= 0 && q <= 16 && what >= 0 && what <= 2);
        int least = 100;
        int most = -1;
        int times = 0;
        for (int i = 0; i < seeds; i++) {
            Sheet s = seasonSheet(from + i, many, q);
            least = Math.min(least, overs(s));
            most = Math.max(most, overs(s));
            times += joined(s, net) ? 1 : 0;
        }
        return new int[] {least, most, times}[what];
    }

    int image() {
        if (pictures.size() == 3) {
            return -1;
        }
        Picture p = new Picture();
        p.sheet = now.copy();
        p.works = new ArrayList<>();
        for (Sheet s : works) {
            p.works.add(s.copy());
        }
        pictures.add(p);
        return pictures.size();
    }

    int restore() {
        if (pictures.isEmpty()) {
            return -1;
        }
        Picture p = pictures.remove(pictures.size() - 1);
        now = p.sheet;
        works = p.works;
        refused = 0;
        return pictures.size();
    }

    int status(int what) {
        return what == 0 ? noSuch : what == 1 ? wrong : -1;
    }

    int count(int what) {
        return what == 0 ? pictures.size() : what == 1 ? tape.length : what == 2 ? works.size() : -1;
    }
}
