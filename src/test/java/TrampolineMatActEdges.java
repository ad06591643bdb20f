/** Promises 5 to 10, 25, 26, 37 and 38: every bound of what is counted, of acts, of places, of the image; what is empty, what is full, what is refused. */
public final class TrampolineMatActEdges extends Mats {
    private static final String[] KINDS = {"START", "DROP", "CORRECTS"};
    private static final int[] MOST = {99, 60, 9};

    public static void main(String[] args) {
        counts();
        jumpers();
        becomes();
        becomesRefused();
        obeys();
        lasts();
        undoes();
        fortyActs();
        actsThatChangeNothing();
        finds();
        forgets();
        images();
        fullImages();
        restoresRefused();
        manyCalls();
        end("the edges of acts, places and images hold");
    }

    private static void counts() {
        promise(5, "0 SINKS, 1 EDGE, 2 KEPT, 3 BROKEN, 4 NEAR, 5 to 7 SLIPS, 8 JUMPERS, 9 RULES, 10 the RULE in force (NONE), 11 N, 12 PUSHES, "
            + "13 ACTS that are kept, 14 places, 15 bytes of the tape, 16 to 18 STATUS 0 to 2.");
        int[] full = {2, 8, 70, 1, 2, 1, 2, 3, 3, 2, 1, 150, 4, 6, 3, 20, 1, 2, 3};
        for (int i = 0; i < full.length; i++) {
            int want = full[i];
            int what = i;
            leaves("count(" + i + ")", x -> x.count(what), Integer.toString(want), NONE);
        }
        due("count(10) without a RULE", of("rule 1;").count(10), NONE);
        promise(5, "NoSuchElementException: another what.");
        for (int what : new int[] {-1, -2, 19, 20}) leavesNoSuch("count(" + what + ")", x -> x.count(what));
        for (int what : FAR) leavesNoSuch("count(" + what + ")", x -> x.count(what));
    }

    private static void jumpers() {
        promise(6, "Of a JUMPER: 0 WEIGHT, 1 LEGS, 2 PLACE, 3 START, 4 DROP, 5 CORRECTS.");
        int[][] told = {{10, 5, -3, 5, 9, 2}, {20, 0, 4, 3, 20, 3}, {7, 8, 8, 2, 11, 1}};
        TrampolineMat x = full();
        for (int j = 0; j < 3; j++) for (int i = 0; i < 6; i++) due("jumper(" + j + ", " + i + ")", x.jumper(j, i), told[j][i]);
        promise(6, "NoSuchElementException: no such JUMPER (as everywhere), what.");
        for (int j : new int[] {-1, -2, 3, 4}) leavesNoSuch("jumper(" + j + ", 0)", y -> y.jumper(j, 0));
        for (int w : new int[] {-1, -2, 6, 7}) leavesNoSuch("jumper(0, " + w + ")", y -> y.jumper(0, w));
        for (int f : FAR) {
            leavesNoSuch("jumper(" + f + ", 0)", y -> y.jumper(f, 0));
            leavesNoSuch("jumper(0, " + f + ")", y -> y.jumper(0, f));
        }
        TrampolineMat four = of(times("jumper 5 5 0 0 0;", 4));
        due("jumper(3, 0) of four", four.jumper(3, 0), 5);
        noSuch("jumper(4, 0) of four", () -> four.jumper(4, 0));
        noSuch("jumper(0, 0) of none", () -> of("").jumper(0, 0));
    }

    private static void becomes() {
        promise(7, "An ACT: START (what 0: 0 to 99), DROP (1: 0 to 60), CORRECTS (2: 0 to 9) of a JUMPER becomes v: what it was.");
        for (int what = 0; what < 3; what++) {
            TrampolineMat x = of(times("jumper 5 5 0 1 2 corrects 3;", 4));
            int was = what + 1;
            int kept = 0;
            for (int v : new int[] {0, 1, MOST[what] - 1, MOST[what], 0, MOST[what]}) {
                due(KINDS[what] + " becomes " + v, x.become(3, what, v), was);
                due("count(13)", x.count(13), ++kept);
                for (int i = 0; i < 6; i++) {
                    due("jumper(3, " + i + ")", x.jumper(3, i), i == 3 + what ? v : new int[] {5, 5, 0, 1, 2, 3}[i]);
                    due("jumper(2, " + i + ")", x.jumper(2, i), new int[] {5, 5, 0, 1, 2, 3}[i]);
                }
                was = v;
            }
            due("STATUS 1", x.count(17), 0);
        }
    }

    private static void becomesRefused() {
        promise(7, "NONE (STATUS 1): v is not so.");
        for (int what = 0; what < 3; what++) {
            int w = what;
            for (int v : new int[] {-1, -2, MOST[what] + 1, MOST[what] + 2, 1000}) leaves("become(2, " + w + ", " + v + ")", x -> x.become(2, w, v), "-1", 1);
            for (int v : FAR) leaves("become(0, " + w + ", " + v + ")", x -> x.become(0, w, v), "-1", 1);
        }
        promise(7, "NoSuchElementException (ahead): also another what.");
        // Ahead: also where v is not so, and then STATUS 1 counts it not.
        for (int v : new int[] {0, -1, 100, Integer.MAX_VALUE}) {
            for (int j : new int[] {-1, 3, 4, Integer.MIN_VALUE, Integer.MAX_VALUE}) leavesNoSuch("become(" + j + ", 0, " + v + ")", x -> x.become(j, 0, v));
            for (int w : new int[] {-1, 3, 4, Integer.MIN_VALUE, Integer.MAX_VALUE}) leavesNoSuch("become(0, " + w + ", " + v + ")", x -> x.become(0, w, v));
        }
        TrampolineMat empty = new TrampolineMat();
        noSuch("become of nobody", () -> empty.become(0, 0, 0));
        due("count(13)", empty.count(13), 0);
        due("count(17)", empty.count(17), 0);
    }

    private static void obeys() {
        promise(8, "An ACT: the RULE in force (NONE: none): true.");
        TrampolineMat x = of(times("rule 1;", 4));
        int kept = 0;
        for (int rule : new int[] {0, 1, 2, 3, NONE, 3, 0, NONE}) {
            due("obey(" + rule + ")", x.obey(rule), true);
            due("count(10)", x.count(10), rule);
            due("count(13)", x.count(13), ++kept);
        }
        due("STATUS 1", x.count(17), 0);
        promise(8, "False (STATUS 1): there is no such one.");
        for (int rule : new int[] {-2, -3, 2, 3, 4, 5}) leaves("obey(" + rule + ")", y -> y.obey(rule) ? 1 : 0, "0", 1);
        for (int rule : FAR) leaves("obey(" + rule + ")", y -> y.obey(rule) ? 1 : 0, "0", 1);
        due("obey(4) of four", x.obey(4), false);
        due("count(10)", x.count(10), NONE);
        TrampolineMat none = new TrampolineMat();
        due("obey(0) without RULES", none.obey(0), false);
        due("count(13)", none.count(13), 0);
        due("obey(NONE) without RULES", none.obey(NONE), true);
        due("count(13)", none.count(13), 1);
        due("count(17)", none.count(17), 1);
        // A RULE that a text ahead told is none of this one.
        TrampolineMat later = of(times("rule 1;", 4));
        tell(later, "rule 1;");
        due("obey(1) behind a text with one", later.obey(1), false);
        due("obey(0) behind a text with one", later.obey(0), true);
    }

    private static void lasts() {
        promise(9, "An ACT: N becomes n: true.");
        TrampolineMat x = new TrampolineMat();
        int kept = 0;
        for (int n : new int[] {1, 2, 599, 600, 1, 600}) {
            due("last(" + n + ")", x.last(n), true);
            due("count(11)", x.count(11), n);
            due("count(13)", x.count(13), ++kept);
        }
        promise(9, "False (STATUS 1): it is not 1 to 600.");
        for (int n : new int[] {0, -1, 601, 602}) leaves("last(" + n + ")", y -> y.last(n) ? 1 : 0, "0", 1);
        for (int n : FAR) leaves("last(" + n + ")", y -> y.last(n) ? 1 : 0, "0", 1);
    }

    private static void undoes() {
        promise(10, "The last ACT is UNDONE: how many are left.");
        TrampolineMat x = of("jumper 5 5 0 1 2 corrects 3;jumper 5 5 0 4 5 corrects 6;rule 1;rule 0;");
        x.become(0, 0, 99);
        x.become(1, 1, 60);
        x.become(0, 2, 9);
        x.obey(1);
        x.last(600);
        x.become(1, 0, 0);
        x.obey(NONE);
        x.last(1);
        // Each row: START, DROP, CORRECTS of both, the RULE in force, N behind one undo() more.
        int[][] stood = {{99, 2, 9, 0, 60, 6, NONE, 600}, {99, 2, 9, 0, 60, 6, 1, 600}, {99, 2, 9, 4, 60, 6, 1, 600}, {99, 2, 9, 4, 60, 6, 1, 200},
            {99, 2, 9, 4, 60, 6, NONE, 200}, {99, 2, 3, 4, 60, 6, NONE, 200}, {99, 2, 3, 4, 5, 6, NONE, 200}, {1, 2, 3, 4, 5, 6, NONE, 200}};
        for (int i = 0; i < stood.length; i++) {
            due("undo() " + i, x.undo(), stood.length - 1 - i);
            due("count(13)", x.count(13), stood.length - 1 - i);
            for (int k = 0; k < 6; k++) due("what stands behind undo() " + i, x.jumper(k / 3, 3 + k % 3), stood[i][k]);
            due("the RULE behind undo() " + i, x.count(10), stood[i][6]);
            due("N behind undo() " + i, x.count(11), stood[i][7]);
        }
        promise(10, "NONE: there is none.");
        for (int i = 0; i < 3; i++) due("undo()", x.undo(), NONE);
        due("count(13)", x.count(13), 0);
        due("count(17): that is no refused ACT", x.count(17), 0);
        for (int k = 0; k < 6; k++) due("what stands", x.jumper(k / 3, 3 + k % 3), k + 1);
        due("N stands", x.count(11), 200);
        due("undo() of a new object", new TrampolineMat().undo(), NONE);
        x.last(7);
        due("an ACT behind them", x.undo(), 0);
        due("its N", x.count(11), 200);
        // What was refused is no ACT.
        x.last(8);
        x.last(0);
        x.become(0, 0, 100);
        x.obey(2);
        due("undo() behind refused ones", x.undo(), 0);
        due("its N", x.count(11), 200);
    }

    private static void fortyActs() {
        part(10, "==== 4", "ACTS (at most 40 are kept, the latest ones)");
        for (int many : new int[] {39, 40, 41, 42, 80, 81, 125}) {
            TrampolineMat x = of("jumper 5 5 0 0 0;rule 1;");
            for (int i = 1; i <= many; i++) {
                due("ACT " + i, x.last(i), true);
                due("count(13)", x.count(13), Math.min(i, 40));
            }
            int left = Math.min(many, 40);
            for (int i = 1; i <= left; i++) {
                due("undo " + i, x.undo(), left - i);
                due("N behind it", x.count(11), many - i == 0 ? 200 : many - i);
            }
            due("undo", x.undo(), NONE);
            due("N of the oldest that is kept", x.count(11), many <= 40 ? 200 : many - 40);
        }
        mixedActs();
        // A full row of all kinds, of which the oldest are gone; then some are taken back and others come.
        TrampolineMat x = of("jumper 5 5 0 0 0;rule 1;");
        for (int i = 0; i < 50; i++) {
            if (i % 3 == 0) x.become(0, 0, i);
            else if (i % 3 == 1) x.obey(i % 2 - 1);
            else x.last(i);
        }
        for (int i = 0; i < 15; i++) due("undo", x.undo(), 39 - i);
        due("START", x.jumper(0, 3), 33);
        due("the RULE", x.count(10), -1);
        due("N", x.count(11), 32);
        for (int i = 0; i < 15; i++) x.become(0, 1, i);
        due("full again", x.count(13), 40);
        x.become(0, 1, 60);
        due("and stays so", x.count(13), 40);
        for (int i = 0; i < 16; i++) due("undo", x.undo(), 39 - i);
        due("START", x.jumper(0, 3), 33);
        due("DROP", x.jumper(0, 4), 0);
        for (int i = 0; i < 24; i++) due("undo", x.undo(), 23 - i);
        due("undo", x.undo(), NONE);
        // Of 0 to 34 the ACTS 11 to 34 could be taken back: 10 is the last that stays, an obey.
        due("START", x.jumper(0, 3), 9);
        due("the RULE", x.count(10), -1);
        due("N", x.count(11), 8);
    }

    /** START, DROP, CORRECTS of all four, the RULE in force and N. */
    private static String allThatActsChange(TrampolineMat x) {
        StringBuilder b = new StringBuilder();
        for (int j = 0; j < 4; j++) for (int i = 3; i < 6; i++) b.append(x.jumper(j, i)).append(' ');
        return b.append(x.count(10)).append(' ').append(x.count(11)).toString();
    }

    private static void anyAct(TrampolineMat x, int drawn) {
        int kind = drawn / 7 % 5;
        if (kind == 3) x.obey(drawn % 3 - 1);
        else if (kind == 4) x.last(1 + drawn % 600);
        else x.become(drawn / 64 % 4, kind, drawn % 10);
    }

    private static void mixedActs() {
        // All kinds of all four out of step, each taken back one by one, with an image of the fullest in the midst.
        for (int seed = 1; seed <= 20; seed++) {
            TrampolineMat x = of(times("jumper 5 5 0 1 2 corrects 3;", 4) + "rule 1;rule 0;");
            String[] stood = new String[71];
            int drawn = seed;
            for (int i = 0; i < 70; i++) {
                stood[i] = allThatActsChange(x);
                drawn = (drawn * 1103515245 + 12345) & 0x7fffffff;
                anyAct(x, drawn >> 8);
                due("count(13)", x.count(13), Math.min(i + 1, 40));
            }
            stood[70] = allThatActsChange(x);
            x.image();
            for (int i = 69; i >= 50; i--) x.undo();
            due("what stood ahead of the 51st", allThatActsChange(x), stood[50]);
            for (int i = 0; i < 30; i++) {
                drawn = (drawn * 1103515245 + 12345) & 0x7fffffff;
                anyAct(x, drawn >> 8);
            }
            due("restore()", x.restore(), true);
            due("what stands", allThatActsChange(x), stood[70]);
            for (int i = 69; i >= 30; i--) {
                due("undo()", x.undo(), i - 30);
                due("what stood ahead of ACT " + i, allThatActsChange(x), stood[i]);
            }
            due("undo()", x.undo(), NONE);
            due("what stands", allThatActsChange(x), stood[30]);
        }
    }

    private static void actsThatChangeNothing() {
        part(10, "==== 4", "a JUMPER's START, DROP or CORRECTS becomes another, the RULE in force does, N does. They are UNDONE, the last one first.");
        TrampolineMat x = of("jumper 5 5 0 1 2 corrects 3;");
        due("START becomes what it is", x.become(0, 0, 1), 1);
        due("count(13)", x.count(13), 1);
        due("the RULE becomes what it is", x.obey(NONE), true);
        due("count(13)", x.count(13), 2);
        due("N becomes what it is", x.last(200), true);
        due("count(13)", x.count(13), 3);
        for (int i = 2; i >= 0; i--) due("undo()", x.undo(), i);
        due("START", x.jumper(0, 3), 1);
        due("N", x.count(11), 200);
    }

    private static void finds() {
        promise(25, "FOUND: a place: how many there are.");
        TrampolineMat x = new TrampolineMat();
        int[] places = {-99, -98, 98, 99, 0, -1, 1};
        for (int i = 0; i < 20; i++) {
            due("find", x.find(places[i % 7]), i + 1);
            due("count(14)", x.count(14), i + 1);
        }
        due("STATUS 2", x.count(18), 0);
        promise(25, "NONE (STATUS 2): there are 20, it is beyond -99 to 99.");
        for (int i = 1; i <= 3; i++) {
            due("the 21st", x.find(0), NONE);
            due("count(14)", x.count(14), 20);
            due("STATUS 2", x.count(18), i);
        }
        due("the 21st, and too far: one call is refused", x.find(100), NONE);
        due("STATUS 2", x.count(18), 4);
        due("forget()", x.forget(), 19);
        due("the 20th again", x.find(5), 20);
        for (int p : new int[] {-100, -101, 100, 101}) leaves("find(" + p + ")", y -> y.find(p), "-1", 2);
        for (int p : FAR) leaves("find(" + p + ")", y -> y.find(p), "-1", 2);
        part(25, "==== 4", "FOUND: places (at most 20)");
        TrampolineMat full = new TrampolineMat();
        for (int i = 0; i < 20; i++) full.find(i);
        due("of twenty that go one by one", full.broken(0), 1 << 4);
        full.find(0);
        due("one that is refused tells nothing", full.broken(0), 1 << 4);
        full.forget();
        full.find(0);
        due("the twentieth tells", full.broken(0), 0);
    }

    private static void forgets() {
        promise(26, "The last place is forgotten: how many are left.");
        TrampolineMat x = new TrampolineMat();
        for (int i = 0; i < 20; i++) x.find(i);
        for (int i = 19; i >= 0; i--) {
            due("forget()", x.forget(), i);
            due("count(14)", x.count(14), i);
            due("what the others tell", x.broken(0), i < 2 ? 127 : 1 << 4);
        }
        x.find(3);
        x.find(9);
        x.forget();
        x.find(5);
        due("the last one, not the first", x.broken(0), 1 << 5);
        promise(26, "NONE: there is none.");
        TrampolineMat y = new TrampolineMat();
        for (int i = 0; i < 3; i++) due("forget()", y.forget(), NONE);
        due("count(14)", y.count(14), 0);
        due("STATUS 2: that is no refused place", y.count(18), 0);
        due("find() behind it", y.find(1), 1);
        due("forget()", y.forget(), 0);
        due("forget()", y.forget(), NONE);
    }

    private static void images() {
        promise(37, "JUMPERS, the RULE in force, N, ACTS and places are kept as an image, in place of another one.");
        TrampolineMat x = of("jumper 5 5 0 1 2 corrects 3;rule 1;rule 0;");
        // The image of an object with nothing to keep.
        x.image();
        fill(x);
        due("restore()", x.restore(), true);
        int[] first = {1, 2, 3, NONE, 200, 0, 0};
        stands(x, first);
        due("undo()", x.undo(), NONE);
        due("forget()", x.forget(), NONE);
        fill(x);
        x.image();
        int[] filled = {99, 60, 9, 1, 600, 5, 2};
        stands(x, filled);
        x.become(0, 0, 4);
        for (int i = 0; i < 6; i++) x.undo();
        x.forget();
        x.forget();
        x.find(7);
        stands(x, new int[] {1, 2, 3, NONE, 200, 0, 1});
        due("restore()", x.restore(), true);
        stands(x, filled);
        due("the places that were kept", x.broken(0), 1 << 5);
        due("undo()", x.undo(), 4);
        stands(x, new int[] {99, 60, 9, 1, 200, 4, 2});
        // What happens behind restore() does not touch the image.
        x.become(0, 1, 33);
        x.find(50);
        due("restore() again", x.restore(), true);
        stands(x, filled);
        due("the places again", x.broken(0), 1 << 5);
        int[] starts = {99, 99, 99, 99, 1};
        int[] drops = {60, 60, 60, 2, 2};
        int[] corrects = {9, 9, 3, 3, 3};
        int[] rules = {1, NONE, NONE, NONE, NONE};
        for (int i = 0; i < 5; i++) {
            due("undo()", x.undo(), 4 - i);
            stands(x, new int[] {starts[i], drops[i], corrects[i], rules[i], 200, 4 - i, 2});
        }
        x.image();
        x.last(9);
        x.restore();
        stands(x, new int[] {1, 2, 3, NONE, 200, 0, 2});
        promise(37, "are kept as an image");
        for (int way = 0; way < Looks.WAYS - 1; way++) {
            TrampolineMat z = full();
            z.image();
            due("what is seen behind image()", Looks.at(z, way, NONE), Looks.at(full(), way, NONE));
        }
    }

    private static void fill(TrampolineMat x) {
        x.become(0, 0, 99);
        x.become(0, 1, 60);
        x.become(0, 2, 9);
        x.obey(1);
        x.last(600);
        x.find(8);
        x.find(10);
    }

    private static void stands(TrampolineMat x, int[] want) {
        int[] got = {x.jumper(0, 3), x.jumper(0, 4), x.jumper(0, 5), x.count(10), x.count(11), x.count(13), x.count(14)};
        for (int i = 0; i < got.length; i++) due("what stands, " + i, got[i], want[i]);
    }

    private static void fullImages() {
        promise(37, "ACTS and places are kept as an image");
        TrampolineMat x = of("jumper 5 5 0 1 2 corrects 3;");
        for (int i = 1; i <= 40; i++) x.last(i);
        for (int i = 0; i < 20; i++) x.find(i);
        x.image();
        for (int i = 0; i < 45; i++) x.become(0, 0, i);
        for (int i = 0; i < 20; i++) x.forget();
        due("restore()", x.restore(), true);
        due("count(13)", x.count(13), 40);
        due("count(14)", x.count(14), 20);
        due("START", x.jumper(0, 3), 1);
        due("all twenty places", x.broken(0), 1 << 4);
        due("the twentieth", x.forget(), 19);
        for (int i = 39; i >= 0; i--) {
            due("undo()", x.undo(), i);
            due("its N", x.count(11), i == 0 ? 200 : i);
        }
        due("undo()", x.undo(), NONE);
    }

    private static void manyCalls() {
        part(5, "==== 4", "STATUS: how many calls were refused: 0 of TEXTS with a FAULT, 1 of ACTS, 2 of places that are FOUND.");
        TrampolineMat x = new TrampolineMat();
        for (int i = 1; i <= 40; i++) {
            tell(x, "x");
            x.last(0);
            x.obey(0);
            x.find(100);
            due("count(16)", x.count(16), i);
            due("count(17)", x.count(17), 2 * i);
            due("count(18)", x.count(18), i);
            // What throws is none of these.
            noSuch("become of nobody", () -> x.become(0, 0, 100));
            notRight("garden(-1)", () -> x.garden(-1));
            notRight("broken(61)", () -> x.broken(61));
        }
        part(5, "What it is", "An object is used for at most 512 calls after it has been made");
        TrampolineMat y = new TrampolineMat();
        for (int i = 1; i <= 510; i++) y.find(-100);
        due("the 511th call", y.count(18), 510);
        due("the 512th call", y.find(99), 1);
    }

    private static void restoresRefused() {
        promise(38, "They are as the image again: true.");
        TrampolineMat x = full();
        due("restore()", x.restore(), true);
        due("count(17): STATUS is none of these", x.count(17), 2);
        due("count(18)", x.count(18), 3);
        due("count(16)", x.count(16), 1);
        due("the tape is none of these", x.count(15), 20);
        due("fault() is none of these", x.fault(), 5);
        due("the bytes stand", x.garden(20), 0);
        due("NEAR", x.count(4), 3);
        promise(38, "False: there is none.");
        TrampolineMat y = of("jumper 5 5 0 1 2 corrects 3;rule 1;rule 0;");
        fill(y);
        for (int i = 0; i < 3; i++) due("restore()", y.restore(), false);
        stands(y, new int[] {99, 60, 9, 1, 600, 5, 2});
        due("undo()", y.undo(), 4);
        due("N", y.count(11), 200);
        due("of a new object", new TrampolineMat().restore(), false);
        y.image();
        due("a garden of the same text", tell(y, "jumper 5 5 0 1 2 corrects 3;rule 1;rule 0;"), 0);
        due("the image is gone with it", y.restore(), false);
        y.image();
        due("a FAULT", tell(y, "x"), 1);
        due("the image stays behind a FAULT", y.restore(), true);
    }
}
