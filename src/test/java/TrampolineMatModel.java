import java.math.BigInteger;
import java.util.ArrayList;
import java.util.Arrays;
import java.util.HashSet;
import java.util.List;
import java.util.NoSuchElementException;
import java.util.Random;
import java.util.Set;
import java.util.TreeMap;
import java.util.function.LongSupplier;
import java.util.function.ToIntFunction;

/** Random calls on objects, each answer against a second, plain telling of the document (Model, below). */
public final class TrampolineMatModel {
    private static int wrong = 0;

    public static void main(String[] args) {
        int runs = args.length > 0 ? Integer.parseInt(args[0]) : 250;
        long seed = args.length > 1 ? Long.parseLong(args[1]) : 1;
        Set<Integer> faultsSeen = new HashSet<>();
        for (int run = 0; run < runs && wrong < 20; run++) {
            oneRun(run, new Random(seed * 1000003 + run), faultsSeen);
        }
        for (int fault = 0; fault <= 5; fault++) {
            if (!faultsSeen.contains(fault)) {
                wrong++;
                System.out.println("no text had the fault " + fault + ": the texts are too tame");
            }
        }
        System.out.println(wrong == 0 ? "the model agrees" : wrong + " answers are not the model's");
        if (wrong != 0) System.exit(1);
    }

    private static void oneRun(int run, Random random, Set<Integer> faultsSeen) {
        TrampolineMat x = new TrampolineMat();
        Model m = new Model();
        Texts texts = new Texts(random);
        StringBuilder log = new StringBuilder();
        for (int call = 0; call < 100; call++) {
            if (call % 50 == 0 || random.nextInt(12) == 0) {
                byte[] text = texts.garden();
                if (random.nextInt(3) == 0) text = texts.spoiled(text);
                log.append("  text: ").append(new String(text, java.nio.charset.StandardCharsets.ISO_8859_1)).append('\n');
                feedBoth(run, x, m, text, log);
                int n = text.length;
                due(run, "garden(" + n + ")", () -> x.garden(n), () -> m.garden(n), log);
                due(run, "fault()", x::fault, () -> m.faultAt, log);
                faultsSeen.add(m.lastFault);
            } else {
                oneCall(run, x, m, random, log);
            }
        }
        for (int what = 0; what <= 18; what++) {
            int w = what;
            due(run, "count(" + w + ")", () -> x.count(w), () -> m.count(w), log);
        }
    }

    private static void feedBoth(int run, TrampolineMat x, Model m, byte[] text, StringBuilder log) {
        for (int at = 0; at < text.length; at += 20) {
            int[] w = new int[5];
            for (int i = 0; i < 20; i++) {
                int b = at + i < text.length ? text[at + i] & 255 : 32;
                w[i / 4] = w[i / 4] << 8 | b;
            }
            due(run, "feed", () -> x.feed(w[0], w[1], w[2], w[3], w[4]), () -> m.feed(w), log);
        }
    }

    private static int any(Random r, int least, int most) {
        switch (r.nextInt(12)) {
            case 0: return least - 1;
            case 1: return most + 1;
            case 2: return r.nextInt(3) == 0 ? r.nextInt() : r.nextBoolean() ? Integer.MIN_VALUE : Integer.MAX_VALUE;
            case 3: return least;
            case 4: return most;
            default: return least + r.nextInt(most - least + 1);
        }
    }

    private static int ok(Random r, int least, int most) {
        return r.nextInt(25) == 0 ? any(r, least, most) : least + r.nextInt(most - least + 1);
    }

    private static int who(Random r, Model m) {
        return ok(r, 0, Math.max(0, m.jumpers.size() - 1));
    }

    private static void oneCall(int run, TrampolineMat x, Model m, Random r, StringBuilder log) {
        int j = who(r, m);
        int k = who(r, m);
        int edge = m.edge;
        switch (r.nextInt(37)) {
            case 0: { int w = any(r, 0, 18); due(run, "count(" + w + ")", () -> x.count(w), () -> m.count(w), log); return; }
            case 1: { int w = ok(r, 0, 5); due(run, "jumper(" + j + "," + w + ")", () -> x.jumper(j, w), () -> m.jumper(j, w), log); return; }
            case 2: case 3: {
                int w = ok(r, 0, 2);
                int v = any(r, 0, w == 0 ? 99 : w == 1 ? 60 : 9);
                due(run, "become(" + j + "," + w + "," + v + ")", () -> x.become(j, w, v), () -> m.become(j, w, v), log);
                return;
            }
            case 4: case 5: { int v = ok(r, -1, Math.max(0, m.rules.size() - 1)); due(run, "obey(" + v + ")", () -> x.obey(v) ? 1 : 0, () -> m.obey(v) ? 1 : 0, log); return; }
            case 6: { int n = any(r, 1, 600); due(run, "last(" + n + ")", () -> x.last(n) ? 1 : 0, () -> m.last(n) ? 1 : 0, log); return; }
            case 7: due(run, "undo()", x::undo, m::undo, log); return;
            case 8: case 9: { int w = ok(r, 0, 6); due(run, "ran(" + j + "," + w + ")", () -> x.ran(j, w), () -> m.ran(j, w), log); return; }
            case 10: { int w = ok(r, 0, 5); due(run, "lands(" + j + "," + w + ")", () -> x.lands(j, w), () -> m.lands(j, w), log); return; }
            case 11: { int t = any(r, 0, m.n - 1); due(run, "film(" + j + "," + t + ")", () -> x.film(j, t), () -> m.film(j, t), log); return; }
            case 12: { int w = ok(r, 0, 4); due(run, "mat(" + w + ")", () -> x.mat(w), () -> m.mat(w), log); return; }
            case 13: case 14: {
                int i = any(r, -1, Math.max(1, m.play().landings.size()));
                int w = ok(r, 0, 4);
                due(run, "landing(" + i + "," + w + ")", () -> x.landing(i, w), () -> m.landing(i, w), log);
                return;
            }
            case 15: { int w = ok(r, 0, 2); due(run, "moment(" + j + "," + w + ")", () -> x.moment(j, w), () -> m.moment(j, w), log); return; }
            case 16: { int w = ok(r, 0, 3); due(run, "step(" + j + "," + k + "," + w + ")", () -> x.step(j, k, w), () -> m.step(j, k, w), log); return; }
            case 17: due(run, "danger(" + j + ")", () -> x.danger(j), () -> m.danger(j), log); return;
            case 18: due(run, "pairs()", x::pairs, m::pairs, log); return;
            case 19: due(run, "apart()", x::apart, m::apart, log); return;
            case 20: due(run, "without(" + j + "," + k + ")", () -> x.without(j, k), () -> m.without(j, k), log); return;
            case 21: {
                int p = ok(r, -edge, edge), h = ok(r, 0, 60), c = ok(r, 0, 9), n = ok(r, 0, 12), w = ok(r, 0, 1);
                due(run, "falls(" + p + "," + h + "," + c + "," + n + "," + w + ")", () -> x.falls(p, h, c, n, w), () -> m.falls(p, h, c, n, w), log);
                return;
            }
            case 22: {
                int p = ok(r, -edge, edge), h = ok(r, 0, 60), c = ok(r, 0, 9), n = ok(r, 0, 12), at = any(r, -edge - 2, edge + 2), w = ok(r, 0, 1);
                due(run, "wanders(" + p + "," + h + "," + c + "," + n + "," + at + "," + w + ")", () -> x.wanders(p, h, c, n, at, w), () -> m.wanders(p, h, c, n, at, w), log);
                return;
            }
            case 23: {
                int p = ok(r, -edge, edge), h = ok(r, 0, 60), n = ok(r, 0, 12);
                due(run, "correct(" + p + "," + h + "," + n + ")", () -> x.correct(p, h, n), () -> m.correct(p, h, n), log);
                return;
            }
            case 24: case 25: {
                int last = m.places.isEmpty() ? r.nextInt(9) - 4 : m.places.get(m.places.size() - 1);
                int p = r.nextInt(4) == 0 ? any(r, -99, 99) : last + last * 20 / 40 + r.nextInt(3) - 1;
                due(run, "find(" + p + ")", () -> x.find(p), () -> m.find(p), log);
                return;
            }
            case 26: due(run, "forget()", x::forget, m::forget, log); return;
            case 27: { int h = r.nextBoolean() ? 20 : any(r, 0, 60); due(run, "broken(" + h + ")", () -> x.broken(h), () -> m.broken(h), log); return; }
            case 28: {
                if (r.nextInt(4) != 0) return;
                int t = ok(r, 0, m.n - 1), w = ok(r, 0, 1);
                Model.Play p = m.play();
                int high = j >= 0 && j < m.jumpers.size() && r.nextBoolean() ? p.heights.get(Math.floorMod(t, m.n))[j] : ok(r, 0, 30);
                int high2 = k >= 0 && k < m.jumpers.size() && r.nextBoolean() ? p.heights.get(Math.floorMod(t, m.n))[k] : 0;
                due(run, "second(" + j + "," + k + "," + t + "," + high + "," + high2 + "," + w + ")",
                    () -> x.second(j, k, t, high, high2, w), () -> m.second(j, k, t, high, high2, w), log);
                return;
            }
            case 29: { int v = ok(r, -1, Math.max(0, m.rules.size() - 1)), w = ok(r, 0, 1); due(run, "compare(" + v + "," + w + ")", () -> x.compare(v, w), () -> m.compare(v, w), log); return; }
            case 30: due(run, "best()", x::best, m::best, log); return;
            case 31: { int w = ok(r, 0, 2); due(run, "egg(" + w + ")", () -> x.egg(w), () -> m.egg(w), log); return; }
            case 32: {
                int s = r.nextInt(), n = any(r, 0, 40), w = ok(r, 0, 2);
                due(run, "afternoons(" + s + "," + n + "," + w + ")", () -> x.afternoons(s, n, w), () -> m.afternoons(s, n, w), log);
                return;
            }
            case 33: {
                int h = ok(r, 0, 60), c = ok(r, 0, 9), n = ok(r, 0, 100);
                due(run, "safe(" + h + "," + c + "," + n + ")", () -> x.safe(h, c, n), () -> m.safe(h, c, n), log);
                return;
            }
            case 34: due(run, "atOnce()", x::atOnce, m::atOnce, log); return;
            case 35: {
                int w = ok(r, 0, 1), h = r.nextBoolean() ? ok(r, 0, 40) : any(r, 0, 999);
                if (r.nextBoolean()) due(run, "stop(" + w + ")", () -> x.stop(w), () -> m.stop(w), log);
                else due(run, "over(" + j + "," + h + "," + w + ")", () -> x.over(j, h, w), () -> m.over(j, h, w), log);
                return;
            }
            default:
                if (r.nextBoolean()) {
                    x.image();
                    m.image();
                    log.append("  image()\n");
                } else {
                    due(run, "restore()", () -> x.restore() ? 1 : 0, () -> m.restore() ? 1 : 0, log);
                }
        }
    }

    private static void due(int run, String call, LongSupplier got, LongSupplier want, StringBuilder log) {
        String g = answer(got);
        String w = answer(want);
        log.append("  ").append(call).append(" -> ").append(g).append('\n');
        if (!g.equals(w)) {
            wrong++;
            System.out.println("run " + run + ": " + call + " answered " + g + ", the model " + w);
            if (wrong <= 2) System.out.println(log);
        }
    }

    private static String answer(LongSupplier call) {
        try {
            return Long.toString(call.getAsLong());
        } catch (RuntimeException e) {
            return e.getClass().getSimpleName();
        }
    }

    /** Texts of gardens, and spoiled ones. */
    private static final class Texts {
        private final Random r;

        Texts(Random r) {
            this.r = r;
        }

        private int in(int least, int most) {
            return least + r.nextInt(most - least + 1);
        }

        byte[] garden() {
            StringBuilder b = new StringBuilder();
            int edge = 9;
            if (r.nextInt(3) != 0) {
                edge = in(3, 20);
                b.append("mat ").append(in(1, r.nextBoolean() ? 3 : 9)).append(' ').append(edge).append(' ').append(in(10, 100)).append(';');
            }
            if (r.nextBoolean()) b.append("broken ").append(in(-3, 3)).append(';');
            if (r.nextBoolean()) b.append("near ").append(in(0, 9)).append(";\n");
            if (r.nextBoolean()) b.append("slips ").append(in(0, 9)).append(' ').append(in(1, 9)).append(' ').append(in(0, 9)).append(';');
            int jumpers = in(0, 8);
            for (int i = 0; i < jumpers && i < 4; i++) {
                b.append("jumper ").append(r.nextInt(3) == 0 ? in(1, 5) : in(1, 99)).append(' ').append(r.nextInt(4) == 0 ? 0 : in(0, 30)).append(' ');
                b.append(in(-edge, edge)).append(' ').append(r.nextInt(6) == 0 ? in(0, 99) : in(0, 20)).append(' ').append(in(0, r.nextBoolean() ? 20 : 60));
                if (r.nextBoolean()) b.append(" corrects ").append(in(0, 9));
                b.append(';');
            }
            int rules = in(0, 4);
            for (int i = 0; i < rules && b.length() < 400; i++) b.append("rule ").append(expr(in(0, 3))).append(';');
            if (r.nextBoolean()) {
                b.append("egg");
                int pushes = in(0, 8);
                int most = r.nextInt(3) == 0 ? 5 : 99;
                for (int i = 0; i < pushes; i++) b.append(' ').append(in(1, most));
                b.append(';');
            }
            return bytes(b.toString());
        }

        private String expr(int depth) {
            String[] values = {"me", "weight", "height", "place", "tick", "up", "on", "heavier"};
            if (depth <= 0) return r.nextInt(3) == 0 ? Integer.toString(r.nextInt(3) == 0 ? in(0, 9999) : in(0, 20)) : values[r.nextInt(8)];
            switch (r.nextInt(12)) {
                case 0: return expr(depth - 1) + " or " + expr(depth - 1);
                case 1: return expr(depth - 1) + " and " + expr(depth - 1);
                case 2: return "not " + expr(depth - 1);
                case 3: return "(" + expr(depth - 1) + ")<(" + expr(depth - 1) + ")";
                case 4: return "(" + expr(depth - 1) + ")=" + expr(0);
                case 5: return expr(0) + "+" + expr(0) + " < " + expr(0) + "*" + expr(0);
                case 6: return expr(0) + "-" + expr(0) + "-" + expr(0);
                case 7: return expr(0) + "/" + expr(0) + "*" + expr(0) + "=" + expr(0);
                case 8: return "(" + expr(depth - 1) + ")*(" + expr(depth - 1) + ")";
                case 9: return "not not(" + expr(depth - 1) + ")";
                case 10: return "tick/" + in(1, 9) + "=" + "tick/" + in(1, 9);
                default: return expr(0) + "<" + expr(0);
            }
        }

        byte[] spoiled(byte[] text) {
            String[] bits = {"mat", "mat 3 9 80;", "broken", "broken 1;", "near 1;", "slips 1 1 1;", "slips 0 0 0;", "jumper", "jumper 5 5 0 0 0;", "corrects", "rule",
                "rule 1;", "egg", "egg 1;", "not", "not not not not not not ", "not not not not not not not ", "or", "and", "deep", "me", "(", ")", "((((((", "((((((not", "((((((zz", "((((((;", "((((((12345",
                "(((((1)))))", "+", "-", "*", "/", "<", "=", ";", "0", "1", "10", "100", "00001", "12345", "0009", " ", "\n", "\t", "A", "#", "\u00e9", "up", "rule deep;", "rule 1+not 1;", "rule 1<2<3;"};
            String s = new String(text, java.nio.charset.StandardCharsets.ISO_8859_1);
            int many = in(1, 2);
            for (int i = 0; i < many; i++) {
                int at = r.nextInt(s.length() + 1);
                if (r.nextBoolean()) {
                    int line = s.lastIndexOf(';', at);
                    at = line + 1;
                }
                switch (r.nextInt(4)) {
                    case 0: s = s.substring(0, at); break;
                    case 1: s = s.substring(0, at) + s.substring(Math.min(s.length(), at + in(1, 4))); break;
                    default: s = s.substring(0, at) + bits[r.nextInt(bits.length)] + s.substring(at);
                }
            }
            return bytes(s);
        }

        private static byte[] bytes(String s) {
            return s.substring(0, Math.min(600, s.length())).getBytes(java.nio.charset.StandardCharsets.ISO_8859_1);
        }
    }

    /** The document told a second time, plainly: tick by tick, by lists and trees. */
    private static final class Model {
        int sinks = 3, edge = 9, kept = 80, broken = 0, near = 1;
        int[] slips = {0, 1, 0};
        List<int[]> jumpers = new ArrayList<>();
        List<ToIntFunction<int[]>> rules = new ArrayList<>();
        List<Integer> pushes = new ArrayList<>();
        int rule = -1, n = 200;
        List<int[]> acts = new ArrayList<>();
        List<Integer> places = new ArrayList<>();
        List<Integer> tape = new ArrayList<>();
        int[] status = new int[3];
        int faultAt = -1;
        int lastFault = 0;
        Object[] image = null;

        int feed(int[] w) {
            if (tape.size() + 20 > 600) return -1;
            for (int v : w) for (int s = 24; s >= 0; s -= 8) tape.add(v >>> s & 255);
            return tape.size();
        }

        int garden(int len) {
            if (len < 0 || len > tape.size()) throw new IllegalArgumentException();
            List<Integer> text = new ArrayList<>(tape.subList(0, len));
            tape.clear();
            Parse p = new Parse(text);
            try {
                p.garden();
            } catch (Fault f) {
                faultAt = f.at;
                lastFault = f.which;
                status[0]++;
                return f.which;
            }
            faultAt = -1;
            lastFault = 0;
            Model g = p.g;
            sinks = g.sinks; edge = g.edge; kept = g.kept; broken = g.broken; near = g.near; slips = g.slips;
            jumpers = g.jumpers; rules = g.rules; pushes = g.pushes;
            rule = -1;
            n = 200;
            acts = new ArrayList<>();
            places = new ArrayList<>();
            image = null;
            return 0;
        }

        void need(boolean b) {
            if (!b) throw new NoSuchElementException();
        }

        void right(boolean b) {
            if (!b) throw new IllegalArgumentException();
        }

        boolean in(int v, int least, int most) {
            return least <= v && v <= most;
        }

        boolean one(int j) {
            return in(j, 0, jumpers.size() - 1);
        }

        int count(int what) {
            need(in(what, 0, 18));
            return new int[] {sinks, edge, kept, broken, near, slips[0], slips[1], slips[2], jumpers.size(), rules.size(), rule, n,
                pushes.size(), acts.size(), places.size(), tape.size(), status[0], status[1], status[2]}[what];
        }

        int jumper(int j, int what) {
            need(one(j) && in(what, 0, 5));
            return jumpers.get(j)[what];
        }

        void keep(int[] act) {
            acts.add(act);
            if (acts.size() > 40) acts.remove(0);
        }

        int become(int j, int what, int v) {
            need(one(j) && in(what, 0, 2));
            if (!in(v, 0, new int[] {99, 60, 9}[what])) {
                status[1]++;
                return -1;
            }
            int was = jumpers.get(j)[3 + what];
            keep(new int[] {0, j, 3 + what, was});
            jumpers.get(j)[3 + what] = v;
            return was;
        }

        boolean obey(int v) {
            if (!in(v, -1, rules.size() - 1)) {
                status[1]++;
                return false;
            }
            keep(new int[] {1, rule});
            rule = v;
            return true;
        }

        boolean last(int v) {
            if (!in(v, 1, 600)) {
                status[1]++;
                return false;
            }
            keep(new int[] {2, n});
            n = v;
            return true;
        }

        int undo() {
            if (acts.isEmpty()) return -1;
            int[] a = acts.remove(acts.size() - 1);
            if (a[0] == 0) jumpers.get(a[1])[a[2]] = a[3];
            if (a[0] == 1) rule = a[1];
            if (a[0] == 2) n = a[1];
            return acts.size();
        }

        void image() {
            image = new Object[] {copy(jumpers), rule, n, copy(acts), new ArrayList<>(places)};
        }

        @SuppressWarnings("unchecked")
        boolean restore() {
            if (image == null) return false;
            jumpers = copy((List<int[]>) image[0]);
            rule = (Integer) image[1];
            n = (Integer) image[2];
            acts = copy((List<int[]>) image[3]);
            places = new ArrayList<>((List<Integer>) image[4]);
            return true;
        }

        static List<int[]> copy(List<int[]> l) {
            List<int[]> c = new ArrayList<>();
            for (int[] a : l) c.add(a.clone());
            return c;
        }

        Play play() {
            return new Play(jumpers, (1 << jumpers.size()) - 1, rule, n);
        }

        Play with(int j, int what, int v) {
            List<int[]> c = copy(jumpers);
            c.get(j)[what] = v;
            return new Play(c, (1 << jumpers.size()) - 1, rule, n);
        }

        Play only(int bits) {
            return new Play(jumpers, bits, rule, n);
        }

        Play by(int r) {
            return new Play(jumpers, (1 << jumpers.size()) - 1, r, n);
        }

        int ran(int j, int what) {
            need(one(j) && in(what, 0, 6));
            Play p = play();
            return new int[] {p.ups[j], p.top[j], p.fun[j], p.hurt[j], p.jar[j], p.place[j], p.state[j]}[what];
        }

        int lands(int j, int kind) {
            need(one(j) && in(kind, 0, 5));
            return play().kinds[j][kind];
        }

        int film(int j, int t) {
            need(one(j) && in(t, 0, n - 1));
            return play().heights.get(t)[j];
        }

        int mat(int what) {
            need(in(what, 0, 4));
            Play p = play();
            return new int[] {p.allStored, p.allJarred, p.allHad, p.rises, p.stored}[what];
        }

        int landing(int i, int what) {
            Play p = play();
            if (i == -1 && what == 0) return p.landings.size();
            need(in(i, 0, p.landings.size() - 1) && in(what, 0, 4));
            return p.landings.get(i)[what];
        }

        int moment(int j, int what) {
            need(one(j) && in(what, 0, 2));
            TreeMap<Integer, Integer> byWorth = new TreeMap<>();
            for (int s = 0; s <= 39; s++) {
                Play p = with(j, 3, s);
                byWorth.putIfAbsent(what == 0 ? p.top[j] : what == 1 ? p.fun[j] : -p.jar[j], s);
            }
            return byWorth.lastEntry().getValue();
        }

        int step(int a, int b, int what) {
            need(one(a) && one(b) && in(what, 0, 3));
            right(a != b);
            List<Integer> x = new ArrayList<>(), y = new ArrayList<>(), gaps = new ArrayList<>();
            for (int[] l : play().landings) if (l[2] != 4) {
                if (l[1] == a) x.add(l[0]);
                if (l[1] == b) y.add(l[0]);
            }
            for (int k = 0; k < x.size() && k < y.size(); k++) gaps.add(Math.abs(x.get(k) - y.get(k)));
            if (gaps.isEmpty()) return what == 2 ? 0 : -1;
            int first = gaps.get(0), last = gaps.get(gaps.size() - 1);
            if (what == 0) return first;
            if (what == 1) return last;
            if (what == 2) return last < first ? -1 : last > first ? 1 : 0;
            int k = gaps.size();
            while (k > 0 && gaps.get(k - 1) == 0) k--;
            return k == gaps.size() ? -1 : k;
        }

        int danger(int j) {
            need(one(j));
            for (int d = 0; d <= 60; d++) if (with(j, 4, d).hurts() > 0) return d;
            return -1;
        }

        int pairs() {
            int bits = 0;
            for (int i = 0; i < jumpers.size(); i++) for (int k = i + 1; k < jumpers.size(); k++) if (only(1 << i | 1 << k).hurts() > 0) bits |= 1 << 4 * i + k;
            return bits;
        }

        int apart() {
            int bits = pairs();
            law:
            for (int l = 0; l <= 99; l++) {
                for (int i = 0; i < jumpers.size(); i++) for (int k = i + 1; k < jumpers.size(); k++) {
                    boolean far = Math.abs(jumpers.get(i)[0] - jumpers.get(k)[0]) >= l;
                    if (far != ((bits >> 4 * i + k & 1) == 1)) continue law;
                }
                return l;
            }
            return -1;
        }

        int without(int j, int o) {
            need(one(j) && one(o));
            right(j != o);
            return only((1 << jumpers.size()) - 1 - (1 << o)).top[j] - play().top[j];
        }

        int down(int p, int h, int c) {
            int q = p + p * h / 40 + broken;
            for (int i = 0; i < c; i++) q -= Integer.signum(q);
            return q;
        }

        /** Every row of slips, one by one, with its weights. */
        BigInteger ways(int p, int h, int c, int jumps, Integer at) {
            TreeMap<Integer, BigInteger> now = new TreeMap<>();
            now.put(p, BigInteger.ONE);
            BigInteger fallen = BigInteger.ZERO;
            BigInteger sum = BigInteger.valueOf(slips[0] + slips[1] + slips[2]);
            for (int i = 0; i < jumps; i++) {
                TreeMap<Integer, BigInteger> next = new TreeMap<>();
                fallen = fallen.multiply(sum);
                for (int q : now.keySet()) for (int s = -1; s <= 1; s++) {
                    BigInteger w = now.get(q).multiply(BigInteger.valueOf(slips[s + 1]));
                    int to = down(q, h, c) + s;
                    if (Math.abs(to) > edge) fallen = fallen.add(w);
                    else next.merge(to, w, BigInteger::add);
                }
                now = next;
            }
            return at == null ? fallen : now.getOrDefault(at, BigInteger.ZERO);
        }

        long part(BigInteger up, BigInteger low, int what) {
            BigInteger g = up.gcd(low);
            return (what == 0 ? up : low).divide(g).longValueExact();
        }

        BigInteger whole(int jumps) {
            return BigInteger.valueOf(slips[0] + slips[1] + slips[2]).pow(jumps);
        }

        void mayWander(int p, int h, int c, int jumps) {
            right(in(jumps, 0, 12) && in(h, 0, 60) && in(p, -edge, edge) && in(c, 0, 9));
        }

        long falls(int p, int h, int c, int jumps, int what) {
            need(in(what, 0, 1));
            mayWander(p, h, c, jumps);
            return part(ways(p, h, c, jumps, null), whole(jumps), what);
        }

        long wanders(int p, int h, int c, int jumps, int at, int what) {
            need(in(what, 0, 1));
            mayWander(p, h, c, jumps);
            return part(ways(p, h, c, jumps, at), whole(jumps), what);
        }

        int correct(int p, int h, int jumps) {
            mayWander(p, h, 0, jumps);
            int best = 0;
            for (int c = 1; c <= 9; c++) if (ways(p, h, c, jumps, null).compareTo(ways(p, h, best, jumps, null)) < 0) best = c;
            return best;
        }

        int find(int p) {
            if (places.size() == 20 || !in(p, -99, 99)) {
                status[2]++;
                return -1;
            }
            places.add(p);
            return places.size();
        }

        int forget() {
            if (places.isEmpty()) return -1;
            places.remove(places.size() - 1);
            return places.size();
        }

        int broken(int h) {
            right(in(h, 0, 60));
            int bits = 0;
            next:
            for (int b = -3; b <= 3; b++) {
                for (int i = 1; i < places.size(); i++) {
                    int p = places.get(i - 1);
                    if (places.get(i) != p + p * h / 40 + b) continue next;
                }
                bits |= 1 << 3 + b;
            }
            return bits;
        }

        int second(int a, int b, int t, int high, int high2, int what) {
            need(one(a) && one(b) && in(t, 0, n - 1) && in(what, 0, 1));
            right(a != b);
            int many = 0, later = 0;
            for (int s = 0; s <= 23; s++) for (int u = 0; u <= 23; u++) {
                List<int[]> c = copy(jumpers);
                c.get(a)[3] = s;
                c.get(b)[3] = u;
                Play p = new Play(c, (1 << jumpers.size()) - 1, rule, t + 1);
                int[] h = p.heights.get(t);
                if (h[a] == high && h[b] == high2) {
                    many++;
                    if (s > u) later++;
                }
            }
            return what == 0 ? many : later;
        }

        int compare(int r, int what) {
            need(in(r, -1, rules.size() - 1) && in(what, 0, 1));
            return what == 0 ? by(r).hurts() : by(r).funs();
        }

        int best() {
            int best = -1;
            for (int r = 0; r < rules.size(); r++) {
                Play p = by(r), q = by(best);
                if (p.hurts() < q.hurts() || p.hurts() == q.hurts() && p.funs() > q.funs()) best = r;
            }
            return best;
        }

        long egg(int what) {
            need(in(what, 0, 2));
            if (pushes.size() < 2) return what == 1 ? 1 : 0;
            List<Integer> s = new ArrayList<>(pushes);
            s.sort((a, b) -> b - a);
            BigInteger up = BigInteger.ZERO, low = BigInteger.ONE;
            int best = 0;
            for (int m = 2; m <= s.size(); m++) {
                BigInteger product = BigInteger.ONE, sum = BigInteger.ZERO;
                for (int v : s.subList(0, m)) product = product.multiply(BigInteger.valueOf(v));
                for (int v : s.subList(0, m)) sum = sum.add(product.divide(BigInteger.valueOf(v)));
                BigInteger u = product.multiply(BigInteger.valueOf(m - 1));
                if (u.multiply(low).compareTo(up.multiply(sum)) > 0) {
                    up = u;
                    low = sum;
                    best = m;
                }
            }
            return what == 2 ? best : part(up, low, what);
        }

        int afternoons(int seed, int many, int what) {
            need(in(what, 0, 2));
            right(in(many, 0, 40));
            int hurts = 0, most = 0, nobody = 0;
            long s = seed;
            for (int i = 0; i < many; i++) {
                List<int[]> c = copy(jumpers);
                for (int[] j : c) {
                    s = (int) (s * 1103515245L + 12345L);
                    j[3] = (int) ((s & 0x7fff0000L) >> 16) % 40;
                }
                Play p = new Play(c, (1 << jumpers.size()) - 1, rule, n);
                hurts += p.hurts();
                most = Math.max(most, p.funs());
                if (p.hurts() == 0) nobody++;
            }
            return new int[] {hurts, most, nobody}[what];
        }

        long safe(int h, int c, int jumps) {
            right(in(h, 0, 60) && in(c, 0, 9) && in(jumps, 0, 100));
            long bits = 0;
            for (int p = -Math.min(20, edge); p <= Math.min(20, edge); p++) {
                int q = p;
                for (int i = 0; i < jumps && Math.abs(q) <= edge; i++) q = down(q, h, c);
                if (Math.abs(q) <= edge) bits |= 1L << 20 + p;
            }
            return bits;
        }

        int atOnce() {
            int best = 0;
            for (int bits = (1 << jumpers.size()) - 1; bits >= 0; bits--) {
                if (Integer.bitCount(bits) >= Integer.bitCount(best) && only(bits).hurts() == 0) best = bits;
            }
            return best;
        }

        int stop(int what) {
            need(in(what, 0, 1));
            Play p = play();
            return what == 0 ? p.stopTick : p.stopBits;
        }

        int over(int j, int h, int what) {
            need(one(j) && in(what, 0, 1));
            right(in(h, 0, 999));
            int many = 0, first = -1;
            Play p = play();
            for (int t = n - 1; t >= 0; t--) if (p.heights.get(t)[j] >= h) {
                many++;
                first = t;
            }
            return what == 0 ? many : first;
        }

        /** One run, every tick of it. */
        final class Play {
            int[] ups, top, fun, hurt, jar, place, state, comes, from, since;
            int[][] kinds;
            int allStored, allJarred, allHad, rises, stored, stopTick = -1, stopBits;
            int began = -1, taker = -1;
            List<int[]> landings = new ArrayList<>();
            List<int[]> heights = new ArrayList<>();
            List<int[]> js;
            int bits, inForce;

            Play(List<int[]> js, int bits, int inForce, int ticks) {
                this.js = js;
                this.bits = bits;
                this.inForce = inForce;
                int m = js.size();
                ups = new int[m]; top = new int[m]; fun = new int[m]; hurt = new int[m]; jar = new int[m];
                place = new int[m]; state = new int[m]; comes = new int[m]; from = new int[m]; since = new int[m];
                kinds = new int[m][6];
                for (int j = 0; j < m; j++) {
                    place[j] = js.get(j)[2];
                    comes[j] = js.get(j)[3];
                    from[j] = js.get(j)[4];
                }
                for (int t = 0; t < ticks; t++) tick(t);
            }

            boolean here(int j) {
                return (bits >> j & 1) == 1;
            }

            void tick(int t) {
                for (int j = 0; j < js.size(); j++) if (here(j) && state[j] <= 1 && comes[j] == t) land(j, t);
                if (began >= 0 && t == began + 2 * sinks) {
                    int w = js.get(taker)[0];
                    int had = stored * kept / 100 / w;
                    int h = Math.min(999, had + js.get(taker)[1]);
                    rises++;
                    stored = 0;
                    began = -1;
                    if (holds(taker, h, t)) {
                        allHad += had * w;
                        up(taker, h, t);
                    }
                }
                if (began < 0) {
                    for (int j = 0; j < js.size(); j++) {
                        int legs = js.get(j)[1];
                        if (here(j) && state[j] == 2 && t - since[j] >= 2 * sinks && legs > 0 && holds(j, legs, t)) up(j, legs, t);
                    }
                }
                int[] h = new int[js.size()];
                for (int j = 0; j < js.size(); j++) {
                    int f = 2 + from[j] / 2;
                    int k = t - since[j];
                    h[j] = state[j] == 0 ? js.get(j)[4] : state[j] == 1 ? 4 * from[j] * k * (f - k) / (f * f) : 0;
                }
                heights.add(h);
            }

            void hurt(int j, int t) {
                hurt[j]++;
                if (stopTick < 0 || stopTick == t) {
                    stopTick = t;
                    stopBits |= 1 << j;
                }
            }

            void land(int j, int t) {
                int power = js.get(j)[0] * from[j];
                int kind;
                if (Math.abs(place[j]) > edge) {
                    kind = 4;
                    state[j] = 3;
                    hurt(j, t);
                } else {
                    Set<Integer> struck = new HashSet<>();
                    for (int o = 0; o < js.size(); o++) if (o != j && here(o) && state[o] == 2 && Math.abs(place[o] - place[j]) <= near) struck.add(o);
                    if (!struck.isEmpty()) struck.add(j);
                    for (int o : struck) {
                        hurt(o, t);
                        kinds[o][5]++;
                    }
                    state[j] = 2;
                    since[j] = t;
                    if (began < 0) {
                        began = t;
                        kind = 0;
                    } else {
                        kind = t - began < sinks ? 1 : 3;
                    }
                    if (kind == 1) kinds[taker][2]++;
                    if (kind == 3) {
                        jar[j] += power;
                        allJarred += power;
                    } else {
                        taker = j;
                        stored += power;
                        allStored += power;
                    }
                }
                kinds[j][kind]++;
                landings.add(new int[] {t, j, kind, place[j], power});
            }

            boolean holds(int j, int h, int t) {
                if (inForce < 0) return true;
                int up = 0, on = 0, heavier = 0;
                for (int o = 0; o < js.size(); o++) if (o != j && here(o)) {
                    if (state[o] == 1) up++;
                    if (state[o] == 2) on++;
                    if (state[o] == 2 && js.get(o)[0] > js.get(j)[0]) heavier++;
                }
                return rules.get(inForce).applyAsInt(new int[] {j, js.get(j)[0], h, place[j], t, up, on, heavier}) != 0;
            }

            void up(int j, int h, int t) {
                ups[j]++;
                top[j] = Math.max(top[j], h);
                fun[j] += h;
                from[j] = h;
                since[j] = t;
                comes[j] = t + 2 + h / 2;
                state[j] = 1;
                place[j] = down(place[j], h, js.get(j)[5]);
            }

            int hurts() {
                return Arrays.stream(hurt).sum();
            }

            int funs() {
                return Arrays.stream(fun).sum();
            }
        }

        static final class Fault extends RuntimeException {
            private static final long serialVersionUID = 1;
            final int which;
            final int at;

            Fault(int which, int at) {
                this.which = which;
                this.at = at;
            }
        }

        /** Tokens first, as texts with places; then by the grammar. */
        static final class Parse {
            private static final List<String> VALUES = List.of("me", "weight", "height", "place", "tick", "up", "on", "heavier");
            final Model g = new Model();
            final List<String> tokens = new ArrayList<>();
            final List<Integer> starts = new ArrayList<>();
            final Set<String> once = new HashSet<>();
            int at = 0;

            Parse(List<Integer> text) {
                int i = 0;
                while (i < text.size()) {
                    int c = text.get(i);
                    int e = i + 1;
                    if (c == 32 || c == 10) {
                        i++;
                        continue;
                    }
                    if (letter(c)) while (e < text.size() && letter(text.get(e))) e++;
                    if (digit(c)) while (e < text.size() && digit(text.get(e))) e++;
                    StringBuilder b = new StringBuilder();
                    for (int k = i; k < e; k++) b.append((char) (int) text.get(k));
                    tokens.add(b.toString());
                    starts.add(i);
                    i = e;
                }
                tokens.add("");
                starts.add(text.size());
            }

            static boolean letter(int c) {
                return c >= 'a' && c <= 'z';
            }

            static boolean digit(int c) {
                return c >= '0' && c <= '9';
            }

            String look() {
                return tokens.get(at);
            }

            boolean number() {
                return !look().isEmpty() && digit(look().charAt(0));
            }

            boolean word() {
                return !look().isEmpty() && letter(look().charAt(0));
            }

            Fault fault(int which) {
                return new Fault(which, starts.get(at));
            }

            void want(String s) {
                if (!look().equals(s)) throw fault(1);
                at++;
            }

            int num(int least, int most) {
                if (!number()) throw fault(1);
                if (look().length() > 4) throw fault(2);
                int v = Integer.parseInt(look());
                if (v < least || v > most) throw fault(2);
                at++;
                return v;
            }

            int signed(int most) {
                if (look().equals("-")) {
                    at++;
                    return -num(0, most);
                }
                return num(0, most);
            }

            void garden() {
                while (!look().isEmpty()) {
                    line();
                    want(";");
                }
            }

            void line() {
                String w = look();
                if (!List.of("mat", "broken", "near", "slips", "jumper", "rule", "egg").contains(w)) throw fault(1);
                if (w.equals("jumper") && g.jumpers.size() == 4 || w.equals("rule") && g.rules.size() == 4) throw fault(2);
                if (w.equals("mat") && !g.jumpers.isEmpty()) throw fault(4);
                if (!w.equals("jumper") && !w.equals("rule") && !once.add(w)) throw fault(5);
                at++;
                switch (w) {
                    case "mat":
                        g.sinks = num(1, 9);
                        g.edge = num(3, 20);
                        g.kept = num(10, 100);
                        break;
                    case "broken": g.broken = signed(3); break;
                    case "near": g.near = num(0, 9); break;
                    case "slips": {
                        int a = num(0, 9), b = num(0, 9), c = num(a + b == 0 ? 1 : 0, 9);
                        g.slips = new int[] {a, b, c};
                        break;
                    }
                    case "jumper": {
                        int[] j = {num(1, 99), num(0, 30), signed(g.edge), num(0, 99), num(0, 60), 0};
                        if (look().equals("corrects")) {
                            at++;
                            j[5] = num(0, 9);
                        }
                        g.jumpers.add(j);
                        break;
                    }
                    case "rule": g.rules.add(expr(0)); break;
                    default:
                        while (number()) {
                            if (g.pushes.size() == 8) throw fault(2);
                            g.pushes.add(num(1, 99));
                        }
                }
            }

            ToIntFunction<int[]> expr(int depth) {
                if (depth == 6 && (number() || word() || look().equals("("))) throw fault(2);
                ToIntFunction<int[]> e = and(depth);
                while (look().equals("or")) {
                    at++;
                    ToIntFunction<int[]> a = e, b = and(depth);
                    e = v -> a.applyAsInt(v) != 0 | b.applyAsInt(v) != 0 ? 1 : 0;
                }
                return e;
            }

            ToIntFunction<int[]> and(int depth) {
                ToIntFunction<int[]> e = not(depth, 0);
                while (look().equals("and")) {
                    at++;
                    ToIntFunction<int[]> a = e, b = not(depth, 0);
                    e = v -> a.applyAsInt(v) != 0 & b.applyAsInt(v) != 0 ? 1 : 0;
                }
                return e;
            }

            ToIntFunction<int[]> not(int depth, int nots) {
                if (look().equals("not")) {
                    if (nots == 6) throw fault(2);
                    at++;
                    ToIntFunction<int[]> a = not(depth, nots + 1);
                    return v -> a.applyAsInt(v) == 0 ? 1 : 0;
                }
                ToIntFunction<int[]> a = sum(depth);
                if (look().equals("<")) {
                    at++;
                    ToIntFunction<int[]> b = sum(depth);
                    return v -> a.applyAsInt(v) < b.applyAsInt(v) ? 1 : 0;
                }
                if (look().equals("=")) {
                    at++;
                    ToIntFunction<int[]> b = sum(depth);
                    return v -> a.applyAsInt(v) == b.applyAsInt(v) ? 1 : 0;
                }
                return a;
            }

            ToIntFunction<int[]> sum(int depth) {
                ToIntFunction<int[]> e = product(depth);
                while (look().equals("+") || look().equals("-")) {
                    boolean plus = look().equals("+");
                    at++;
                    ToIntFunction<int[]> a = e, b = product(depth);
                    e = plus ? v -> a.applyAsInt(v) + b.applyAsInt(v) : v -> a.applyAsInt(v) - b.applyAsInt(v);
                }
                return e;
            }

            ToIntFunction<int[]> product(int depth) {
                ToIntFunction<int[]> e = part(depth);
                while (look().equals("*") || look().equals("/")) {
                    boolean times = look().equals("*");
                    at++;
                    ToIntFunction<int[]> a = e, b = part(depth);
                    e = times ? v -> a.applyAsInt(v) * b.applyAsInt(v) : v -> b.applyAsInt(v) == 0 ? 0 : a.applyAsInt(v) / b.applyAsInt(v);
                }
                return e;
            }

            ToIntFunction<int[]> part(int depth) {
                if (number()) {
                    int n = num(0, 9999);
                    return v -> n;
                }
                if (word()) {
                    int i = VALUES.indexOf(look());
                    if (i < 0) throw fault(3);
                    at++;
                    return v -> v[i];
                }
                want("(");
                ToIntFunction<int[]> e = expr(depth + 1);
                want(")");
                return e;
            }
        }
    }
}
