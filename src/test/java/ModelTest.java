import java.util.Random;

/** Runs of drawn calls, the program and the naive model asked side by side. */
public final class ModelTest {
    private static final int OBJECTS = 600;
    private static final int CALLS = 500;

    private final Random random;
    private final NegotiatedWires wires = new NegotiatedWires();
    private final Model model = new Model();
    private final StringBuilder trail = new StringBuilder();
    private int differing;
    private int calls;

    private ModelTest(long seed) {
        random = new Random(seed);
    }

    private void same(String call, Kit.Ask program, Kit.Ask due) {
        calls++;
        int got = Kit.answer(program);
        int want = Kit.answer(due);
        trail.append(call).append(" -> ").append(want).append('\n');
        if (got != want) {
            differing++;
            System.out.println(call + " answered " + got + ", due is " + want + "\n" + trail);
        }
    }

    private int r(int n) {
        return random.nextInt(n);
    }

    /** Mostly within 0 to n - 1, now and then beyond, also far beyond. */
    private int about(int n) {
        if (r(400) == 0) {
            return r(2) == 0 ? random.nextInt() : r(2) == 0 ? Integer.MIN_VALUE : Integer.MAX_VALUE;
        }
        return r(25) == 0 ? r(3) == 0 ? -1 - r(3) : n + r(3) : r(Math.max(1, n));
    }

    private String num(int low, int high) {
        if (r(150) == 0) {
            return String.valueOf(r(2) == 0 ? high + 1 : Math.max(0, low - 1));
        }
        String zeros = r(60) == 0 ? "000000000000".substring(r(12)) : "";
        return zeros + (low + r(high - low + 1));
    }

    private String blank() {
        return r(12) == 0 ? " ".repeat(1 + r(2)) : "";
    }

    private String spaced(String... parts) {
        StringBuilder s = new StringBuilder();
        for (String p : parts) {
            boolean both = s.length() > 0 && Character.isLetterOrDigit(s.charAt(s.length() - 1))
                    && Character.isLetterOrDigit(p.charAt(0));
            s.append(both ? " " : "").append(blank()).append(p);
        }
        return s.toString();
    }

    // The board that is there now.
    private int columns = 4;
    private int rows = 4;
    private int nets;

    private String boardText() {
        StringBuilder s = new StringBuilder();
        int wide = r(3) == 0 ? 8 : 2 + r(5);
        int high = r(3) == 0 ? 8 : 2 + r(5);
        if (r(6) > 0) {
            s.append(spaced("size", num(wide, wide), num(high, high), ";"));
        } else {
            wide = 4;
            high = 4;
        }
        int told = r(9) == 0 ? 0 : r(40) == 0 ? 7 : 1 + r(6);
        for (int i = 0; i < told; i++) {
            s.append(spaced("net", num(0, 9), r(2) == 0 ? num(0, 9) : num(0, 60), ";"));
        }
        for (int i = 0; i < told && told < 7; i++) {
            int pins = r(9) == 0 ? r(2) : r(60) == 0 ? 5 : 2 + r(3);
            for (int k = 0; k < pins; k++) {
                s.append(spaced("pin", num(i, i), coordinate(wide), coordinate(high), ";"));
            }
        }
        int clauses = r(60) == 0 ? 61 : r(14);
        for (int i = 0; i < clauses; i++) {
            s.append(clauseText(coordinate(wide), coordinate(high)));
        }
        if (r(20) == 0) {
            s.append(spaced("size", num(2, 8), num(2, 8), ";"));
        }
        return s + blank();
    }

    private String coordinate(int side) {
        return num(0, r(12) == 0 ? 7 : side - 1);
    }

    private String clauseText(String x, String y) {
        switch (r(6)) {
            case 0:
                return spaced("gain", num(0, 9), ";");
            case 1:
            case 2:
                return spaced("wide", x, y, num(1, 3), ";");
            default:
                return spaced("wall", x, y, ";");
        }
    }

    private String lawText(int depth) {
        int size = 1 + r(3);
        StringBuilder s = new StringBuilder(unitText(depth));
        for (int i = 1; i < size; i++) {
            s.append(blank()).append("+-*/%".charAt(r(5))).append(blank()).append(unitText(depth));
        }
        return s.toString();
    }

    private String unitText(int depth) {
        switch (r(depth > 0 ? 9 : 6)) {
            case 0:
            case 1:
                return r(3) == 0 ? num(0, 999) : num(0, 12);
            case 6:
                return spaced("(", lawText(depth - 1), ")");
            case 7:
                return spaced("least", "[", lawText(depth - 1), ",", lawText(depth - 1), "]");
            case 8:
                return spaced("most", "[", lawText(depth - 1), ",", lawText(depth - 1), "]");
            default:
                return new String[] {"past", "over", "crit", "round", "wide", "col", "row", "pins", "over", "over"}[r(10)];
        }
    }

    private String workText(int depth, int most) {
        StringBuilder s = new StringBuilder();
        int steps = r(most);
        for (int i = 0; i < steps; i++) {
            s.append(stepText(depth));
        }
        return s + blank();
    }

    private String stepText(int depth) {
        String net = num(0, Math.max(0, nets - 1));
        switch (r(depth > 0 ? 12 : 10)) {
            case 0:
                return spaced("rip", net, ";");
            case 1:
            case 2:
            case 3:
                return spaced("lay", net, ";");
            case 4:
                return spaced("crit", net, num(0, 9), ";");
            case 5:
                return spaced("block", num(0, columns - 1), num(0, rows - 1), ";");
            case 6:
                return spaced("ease", r(2) == 0 ? num(1, 99) : num(1, 3), ";");
            case 10:
            case 11:
                return "again " + num(0, r(4) == 0 ? 40 : 4) + blank() + "[" + workText(depth - 1, 4) + "]" + blank() + ";";
            default:
                return spaced("round", ";");
        }
    }

    /** Now and then a work that goes far towards the last round. */
    private String anyWorkText() {
        if (r(40) == 0) {
            return "again 40[round;round;again 4[round;];];";
        }
        return workText(r(20) == 0 ? 7 : 2, 9);
    }

    private String bookText() {
        StringBuilder s = new StringBuilder();
        int lines = r(4) == 0 ? r(10) : r(3);
        for (int i = 0; i < lines; i++) {
            s.append(spaced(num(0, columns - 1), num(0, rows - 1), r(6) == 0 ? num(0, 6) : num(0, 2), ";"));
        }
        return s + blank();
    }

    private String mutate(String text) {
        if (r(8) > 0 || text.isEmpty()) {
            return text;
        }
        int at = r(text.length());
        char sign = " ;[](),+-0159azABlpr\u0000\u00ff\t".charAt(r(23));
        switch (r(4)) {
            case 0:
                return text.substring(0, at);
            case 1:
                return text.substring(0, at) + text.substring(at + 1);
            case 2:
                return text.substring(0, at) + sign + text.substring(at);
            default:
                return text.substring(0, at) + sign + text.substring(at + 1);
        }
    }

    private int tell(String text) {
        for (int i = 0; i < text.length(); i += 20) {
            int[] five = new int[5];
            for (int k = 0; k < 20; k++) {
                int b = i + k < text.length() ? text.charAt(i + k) : r(256);
                five[k / 4] |= b << (24 - 8 * (k % 4));
            }
            same("feed", () -> wires.feed(five[0], five[1], five[2], five[3], five[4]), () -> model.feed(five));
        }
        return r(60) == 0 ? r(9) == 0 ? random.nextInt() : text.length() + r(40) - 20 : text.length();
    }

    private void text(int kind) {
        String text = mutate(kind == 0 ? boardText() : kind == 1 ? lawText(r(20) == 0 ? 7 : 2)
                : kind == 2 ? anyWorkText() : bookText());
        int n = tell(text);
        trail.append("  text ").append(text).append('\n');
        switch (kind) {
            case 0:
                same("board " + n, () -> wires.board(n), () -> model.board(n));
                columns = model.told(0);
                rows = model.told(1);
                nets = model.told(2);
                break;
            case 1:
                same("law " + n, () -> wires.law(n), () -> model.law(n));
                break;
            case 2:
                same("work " + n, () -> wires.work(n), () -> model.work(n));
                break;
            default:
                same("book " + n, () -> wires.book(n), () -> model.book(n));
                break;
        }
        same("fault", wires::fault, model::fault);
    }

    private void run() {
        text(0);
        while (calls < CALLS && differing == 0) {
            int draw = r(100);
            if (draw < 1) {
                text(0);
            } else if (draw < 3) {
                text(1);
            } else if (draw < 12) {
                text(2);
            } else if (draw < 14) {
                text(3);
            } else if (draw < 18) {
                keep();
            } else {
                ask();
            }
        }
    }

    private void keep() {
        switch (r(4)) {
            case 0:
                same("image", wires::image, model::image);
                break;
            case 1:
                same("restore", wires::restore, model::restore);
                break;
            default:
                same("undo", wires::undo, model::undo);
                break;
        }
    }

    private void ask() {
        int n = about(nets);
        int x = about(columns);
        int y = about(rows);
        switch (r(20)) {
            case 0:
            case 1: {
                int what = about(13);
                same("told " + what, () -> wires.told(what), () -> model.told(what));
                break;
            }
            case 2:
            case 3: {
                int what = about(11);
                same("net " + n + " " + what, () -> wires.net(n, what), () -> model.net(n, what));
                break;
            }
            case 4:
            case 5: {
                int what = about(7);
                same("place " + x + " " + y + " " + what, () -> wires.place(x, y, what), () -> model.place(x, y, what));
                break;
            }
            case 6:
                same("cost " + n + " " + x + " " + y, () -> wires.cost(n, x, y), () -> model.cost(n, x, y));
                break;
            case 7:
                would();
                break;
            case 8:
                same("parent " + n + " " + x + " " + y, () -> wires.parent(n, x, y), () -> model.parent(n, x, y));
                break;
            case 9:
                same("dist " + n + " " + x + " " + y, () -> wires.dist(n, x, y), () -> model.dist(n, x, y));
                same("spared " + n + " " + x + " " + y, () -> wires.spared(n, x, y), () -> model.spared(n, x, y));
                break;
            case 10:
                same("fewest " + n, () -> wires.fewest(n), () -> model.fewest(n));
                break;
            case 11:
                same("tree " + n + " " + y, () -> wires.tree(n, y), () -> model.tree(n, y));
                break;
            case 12: {
                int other = about(nets);
                same("meet " + n + " " + other, () -> wires.meet(n, other), () -> model.meet(n, other));
                break;
            }
            case 13:
                same("dear " + n, () -> wires.dear(n), () -> model.dear(n));
                break;
            case 14:
                same("shed " + n, () -> wires.shed(n), () -> model.shed(n));
                break;
            default:
                askBook(n, y);
                break;
        }
    }

    private void would() {
        int[] v = {about(10000), about(7), about(10), about(401), 1 + about(3), about(8), about(8), about(7)};
        same("would " + java.util.Arrays.toString(v),
                () -> wires.would(v[0], v[1], v[2], v[3], v[4], v[5], v[6], v[7]), () -> model.would(v));
    }

    private void askBook(int n, int y) {
        int what = about(2);
        switch (r(9)) {
            case 0:
                same("fits " + what, () -> wires.fits(what), () -> model.fits(what));
                break;
            case 1:
                same("look " + what, () -> wires.look(what), () -> model.look(what));
                break;
            case 2:
                same("crowd " + what, () -> wires.crowd(what), () -> model.crowd(what));
                break;
            case 3:
                same("tight " + what, () -> wires.tight(what), () -> model.tight(what));
                break;
            case 4: {
                int of = about(3);
                same("status " + of, () -> wires.status(of), () -> model.status(of));
                same("count " + of, () -> wires.count(of), () -> model.count(of));
                break;
            }
            default:
                if (r(5) == 0) {
                    askAhead(n, y);
                }
                break;
        }
    }

    private void askAhead(int n, int y) {
        int seed = random.nextInt();
        int many = r(3) == 0 ? 1 + about(40) : 1 + about(12);
        int q = about(17);
        switch (r(6)) {
            case 0:
                same("settled", wires::settled, model::settled);
                break;
            case 1:
                same("jam " + y, () -> wires.jam(y), () -> model.jam(y));
                break;
            case 2:
            case 3: {
                int rounds = r(3) == 0 ? about(41) : about(9);
                int what = about(4);
                same("ahead " + rounds + " " + what, () -> wires.ahead(rounds, what), () -> model.ahead(rounds, what));
                break;
            }
            case 4: {
                int what = about(4);
                same("season " + seed + " " + many + " " + q + " " + what,
                        () -> wires.season(seed, many, q, what), () -> model.season(seed, many, q, what));
                break;
            }
            default: {
                int what = about(3);
                int seeds = 1 + about(5);
                same("span " + seed + " " + seeds + " " + many + " " + q + " " + what + " " + n,
                        () -> wires.span(seed, seeds, many, q, what, n), () -> model.span(seed, seeds, many, q, what, n));
                break;
            }
        }
    }

    public static void main(String[] args) {
        int objects = args.length > 0 ? Integer.parseInt(args[0]) : OBJECTS;
        long first = args.length > 1 ? Long.parseLong(args[1]) : 1;
        int calls = 0;
        for (int i = 0; i < objects; i++) {
            ModelTest test = new ModelTest(first + i);
            test.run();
            calls += test.calls;
            if (test.differing > 0) {
                System.out.println("object of seed " + (first + i) + " differs");
                System.exit(1);
            }
        }
        System.out.println(calls + " calls on " + objects + " objects answered as by the model");
    }
}
