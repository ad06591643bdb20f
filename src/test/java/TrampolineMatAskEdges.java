import java.math.BigInteger;
import java.util.Arrays;

/** The document's '==== 3' and '==== 4' and promises 16 to 24 and 27 to 34: every bound of what is asked, and that a question changes nothing. */
public final class TrampolineMatAskEdges extends Mats {
    private static final String ASK = "==== 3";
    private static final String MORE = "==== 4";

    /** Some gardens in which much happens; what is asked of them is told a second time by acts and plainer questions. */
    private static final String[] BUSY = {
        "mat 4 11 85;broken -1;near 2;jumper 30 6 2 0 20 corrects 1;jumper 12 9 -3 5 14;jumper 22 3 6 11 25 corrects 2;rule up=0 or height<9;rule not heavier and on<2;rule tick/20*20=tick;",
        "mat 1 20 100;jumper 6 1 0 7 4;jumper 19 5 5 0 1;rule 0;",
        "mat 2 9 70;near 3;jumper 9 4 -4 3 30 corrects 2;jumper 9 7 0 1 12 corrects 3;jumper 60 2 5 8 7;jumper 3 12 8 0 0 corrects 9;rule on;",
        "mat 9 20 100;near 0;broken 2;jumper 50 30 -20 0 60;jumper 50 0 20 9 60 corrects 9;"};

    public static void main(String[] args) {
        momentEdges();
        moments();
        momentsRefused();
        steps();
        stepsAgain();
        stepsRefused();
        dangerEdges();
        dangers();
        pairsOfAll();
        laws();
        thirds();
        fallsEdges();
        fallsParts();
        wandersEdges();
        corrects();
        wandersRefused();
        brokens();
        secondEdges();
        seconds();
        compares();
        bests();
        eggs();
        draws();
        afternoonsEdges();
        safePlaces();
        safeRefused();
        atOnceEdges();
        end("the edges of questions hold");
    }

    private static int worth(TrampolineMat x, int jumper, int what) {
        return what == 0 ? x.ran(jumper, 1) : what == 1 ? x.ran(jumper, 2) : -x.ran(jumper, 4);
    }

    private static int momentByActs(String text, int n, int jumper, int what) {
        TrampolineMat x = of(text, n);
        int best = 0;
        int most = Integer.MIN_VALUE;
        for (int start = 0; start <= 39; start++) {
            x.become(jumper, 0, start);
            if (worth(x, jumper, what) > most) {
                most = worth(x, jumper, what);
                best = start;
            }
        }
        return best;
    }

    private static void momentDue(String text, int n, int what, int want) {
        TrampolineMat x = of(text, n);
        due("moment(1, " + what + ") of '" + text + "' by N " + n, x.moment(1, what), want);
        due("by acts", momentByActs(text, n, 1, what), want);
    }

    private static void momentEdges() {
        part(16, ASK, "of all STARTS 0 to 39 (others' as they are)");
        momentDue("mat 1 20 100;jumper 6 1 0 7 4;jumper 19 5 5 0 1;", 200, 0, 39);
        momentDue("mat 2 20 100;jumper 15 2 0 6 1;jumper 6 2 5 0 4;", 200, 1, 39);
        momentDue("mat 2 20 100;jumper 9 3 0 19 1;jumper 16 3 5 0 0;", 200, 2, 39);
        // By 40 it would be more.
        momentDue("mat 3 20 100;jumper 20 4 0 23 14;jumper 2 5 5 0 11;", 94, 0, 17);
        momentDue("mat 2 20 100;jumper 9 2 0 7 13;jumper 16 4 5 0 10;", 200, 1, 5);
        momentDue("mat 2 20 100;jumper 3 2 0 8 4;jumper 10 2 5 0 0;", 97, 2, 15);
        // By 0 alone.
        momentDue("mat 2 20 100;jumper 4 2 0 13 7;jumper 18 1 5 0 5;", 55, 0, 0);
        momentDue("mat 2 20 100;jumper 13 4 0 9 17;jumper 2 4 5 0 1;", 76, 1, 0);
        momentDue("mat 3 20 100;jumper 13 1 0 29 4;jumper 13 2 5 0 7;", 200, 2, 0);
        part(16, ASK, "of like ones the least START");
        momentDue("mat 3 20 100;jumper 5 0 0 5 14;jumper 12 2 5 0 1;", 92, 0, 9);
        momentDue("mat 2 20 100;jumper 10 1 0 30 6;jumper 4 1 5 0 13;", 72, 1, 4);
        momentDue("mat 1 20 100;jumper 17 1 0 2 0;jumper 8 3 5 0 0;", 45, 2, 4);
        // All alike: he never goes up, he is never jarred; also if his own START is another.
        TrampolineMat x = of("jumper 10 0 0 77 0;");
        for (int what = 0; what < 3; what++) due("moment(0, " + what + ")", x.moment(0, what), 0);
    }

    private static void moments() {
        promise(16, "THE MOMENT by the greatest height (what 0), FUN (1), jarring (2): the START.");
        for (String text : BUSY) {
            for (int n : new int[] {1, 30, 39, 40, 41, 200, 600}) {
                TrampolineMat x = of(text, n);
                for (int j = 0; j < x.count(8); j++) {
                    for (int what = 0; what < 3; what++) due("moment(" + j + ", " + what + ") by N " + n, x.moment(j, what), momentByActs(text, n, j, what));
                }
            }
        }
    }

    private static void momentsRefused() {
        promise(16, "NoSuchElementException: also another what.");
        for (int what : new int[] {-1, -2, 3, 4}) leavesNoSuch("moment(0, " + what + ")", x -> x.moment(0, what));
        for (int j : new int[] {-1, 3, 4}) leavesNoSuch("moment(" + j + ", 0)", x -> x.moment(j, 0));
        for (int f : FAR) {
            leavesNoSuch("moment(0, " + f + ")", x -> x.moment(0, f));
            leavesNoSuch("moment(" + f + ", 0)", x -> x.moment(f, 0));
        }
        for (int what = 0; what < 3; what++) {
            int w = what;
            leaves("moment(1, " + w + ")", x -> x.moment(1, w), Integer.toString(full().moment(1, w)), NONE);
        }
    }

    private static void stepDue(TrampolineMat x, int one, int two, int... want) {
        for (int what = 0; what < 4; what++) {
            due("step(" + one + ", " + two + ", " + what + ")", x.step(one, two, what), want[what]);
            due("step(" + two + ", " + one + ", " + what + ")", x.step(two, one, what), want[what]);
        }
    }

    private static void steps() {
        promise(17, "how far apart the first are (what 0; NONE: there are none), the last (1; NONE likewise), into or out of it (2; 0 without), "
            + "from which k on never (3; NONE: none)");
        // None of either, of one of them, and one of each: in the same TICK and in two.
        stepDue(of("jumper 10 0 -5 3 0;jumper 10 0 5 3 0;", 3), 0, 1, NONE, NONE, 0, NONE);
        stepDue(of("jumper 10 0 -5 2 0;jumper 10 0 5 3 0;", 3), 0, 1, NONE, NONE, 0, NONE);
        stepDue(of("jumper 10 0 -5 3 0;jumper 10 0 5 3 0;", 4), 0, 1, 0, 0, 0, 0);
        stepDue(of("jumper 10 0 -5 3 0;jumper 10 0 5 4 0;", 5), 0, 1, 1, 1, 0, NONE);
        stepDue(of("jumper 10 0 -5 0 0;jumper 10 0 5 99 0;", 100), 0, 1, 99, 99, 0, NONE);
        part(17, ASK, "into step (-1), if these are less, out of it (1), if more, else 0");
        // 0, 10, 20 and 2, 10, 25.
        TrampolineMat x = of("mat 3 9 100;jumper 10 5 0 0 0;jumper 10 5 5 2 0;", 10);
        stepDue(x, 0, 1, 2, 2, 0, NONE);
        x.last(11);
        stepDue(x, 0, 1, 2, 0, -1, 1);
        x.last(25);
        stepDue(x, 0, 1, 2, 0, -1, 1);
        x.last(26);
        stepDue(x, 0, 1, 2, 5, 1, NONE);
        part(17, ASK, "the k-th of the one and of the other, as far as both go");
        // The first comes every 4 TICKS, the second once.
        TrampolineMat one = of("mat 1 9 10;near 0;jumper 1 1 0 0 0;jumper 1 0 5 1 0;", 60);
        stepDue(one, 0, 1, 1, 1, 0, NONE);
        part(17, ASK, "their LANDINGS but EDGED ones");
        // In 24 the first is EDGED; the second comes in 24, and once more in 28.
        TrampolineMat out = of("mat 1 9 100;jumper 10 30 9 0 10;jumper 10 0 0 24 0;", 40);
        due("EDGED in 24", out.landing(1, 0), 24);
        stepDue(out, 0, 1, 24, 24, 0, NONE);
        TrampolineMat gone = of("mat 1 9 100;jumper 10 30 9 0 10;jumper 10 0 0 0 0;", 60);
        // The second takes 100 by 10: up to 10 in 2, down in 9; the first goes up to 30 in 2, EDGED in 19.
        stepDue(gone, 0, 1, 0, 0, 0, 0);
        part(17, ASK, "STEP of two: their LANDINGS");
        TrampolineMat four = of("jumper 10 0 0 3 10;jumper 10 0 9 1 10;jumper 10 0 -9 7 10;jumper 10 0 4 2 10;", 8);
        int[] starts = {3, 1, 7, 2};
        for (int i = 0; i < 4; i++) for (int k = i + 1; k < 4; k++) stepDue(four, i, k, Math.abs(starts[i] - starts[k]), Math.abs(starts[i] - starts[k]), 0, NONE);
    }

    private static void stepsAgain() {
        part(17, ASK, "from which k on they are never apart (none: the last are)");
        int[] seen = new int[4];
        for (int drop = 0; drop <= 30; drop++) {
            for (int legs = 1; legs <= 9; legs++) {
                TrampolineMat x = of("mat 3 20 80;near 0;jumper 10 5 0 0 " + drop + ";jumper 10 " + legs + " 5 2 0;");
                int[] want = stepByLandings(x);
                for (int what = 0; what < 4; what++) due("step(0, 1, " + what + ") by DROP " + drop + ", LEGS " + legs, x.step(0, 1, what), want[what]);
                seen[want[2] + 1]++;
                if (want[3] > 1) seen[3]++;
            }
        }
        for (int i = 0; i < 4; i++) due("such gardens are there, " + i, seen[i] > 0, true);
    }

    private static int[] stepByLandings(TrampolineMat x) {
        int[][] ticks = new int[2][600];
        int[] many = new int[2];
        for (int i = 0; i < x.landing(NONE, 0); i++) if (x.landing(i, 2) != 4) ticks[x.landing(i, 1)][many[x.landing(i, 1)]++] = x.landing(i, 0);
        int both = Math.min(many[0], many[1]);
        if (both == 0) return new int[] {NONE, NONE, 0, NONE};
        int first = Math.abs(ticks[0][0] - ticks[1][0]);
        int last = Math.abs(ticks[0][both - 1] - ticks[1][both - 1]);
        int from = both;
        while (from > 0 && ticks[0][from - 1] == ticks[1][from - 1]) from--;
        return new int[] {first, last, Integer.compare(last, first), from == both ? NONE : from};
    }

    private static void stepsRefused() {
        promise(17, "NoSuchElementException: also another what. IllegalArgumentException (behind that): both are one.");
        for (int j = 0; j < 3; j++) {
            int both = j;
            for (int w = 0; w < 4; w++) {
                int what = w;
                leavesNotRight("step(" + j + ", " + j + ", " + w + ")", x -> x.step(both, both, what));
            }
        }
        for (int what : new int[] {-1, 4, 5, Integer.MIN_VALUE, Integer.MAX_VALUE}) {
            leavesNoSuch("step(0, 1, " + what + ")", x -> x.step(0, 1, what));
            leavesNoSuch("step(0, 0, " + what + ")", x -> x.step(0, 0, what));
        }
        for (int j : new int[] {-1, 3, 4, Integer.MIN_VALUE, Integer.MAX_VALUE}) {
            leavesNoSuch("step(" + j + ", 0, 0)", x -> x.step(j, 0, 0));
            leavesNoSuch("step(0, " + j + ", 0)", x -> x.step(0, j, 0));
            leavesNoSuch("step(" + j + ", " + j + ", 0)", x -> x.step(j, j, 0));
        }
        for (int w = 0; w < 4; w++) {
            int what = w;
            leaves("step(2, 0, " + w + ")", x -> x.step(2, 0, what), Integer.toString(full().step(2, 0, what)), NONE);
        }
    }

    private static void dangerEdges() {
        part(18, ASK, "the least DROP (0 to 60; all else as it is) by which somebody is hurt in the RUN; none.");
        // From 8 up to 60 he comes to 20 in 50, up to 59 to 19; by SINKS 9 no lesser one comes so far by then.
        TrampolineMat most = of("mat 9 19 100;jumper 10 0 8 0 0;", 51);
        due("60 is the last", most.danger(0), 60);
        most.last(50);
        due("the RUN ends ahead of it", most.danger(0), NONE);
        TrampolineMat none = of("mat 9 20 100;jumper 10 0 8 0 60;", 51);
        due("by 65 it would be", none.danger(0), NONE);
        due("DROP 0", of("jumper 10 0 0 0 60;jumper 10 0 0 0 60;", 1).danger(1), 0);
        // From 9: up to 4 he stays, up to 5 it is one farther.
        TrampolineMat five = of("mat 1 9 100;jumper 10 0 9 0 60;", 7);
        due("by 5, down in 6", five.danger(0), 5);
        five.last(6);
        due("but not in the RUN", five.danger(0), NONE);
        // Somebody: also another one, whatever his DROP is.
        TrampolineMat other = of("mat 1 9 100;jumper 10 0 9 0 60;jumper 10 0 0 99 60;");
        due("another one", other.danger(1), 0);
        due("he himself", other.danger(0), 5);
    }

    private static void dangers() {
        promise(18, "DANGER; NONE: none.");
        for (String text : BUSY) {
            for (int n : new int[] {1, 9, 30, 200, 600}) {
                TrampolineMat x = of(text, n);
                for (int j = 0; j < x.count(8); j++) {
                    TrampolineMat y = of(text, n);
                    int want = NONE;
                    for (int drop = 60; drop >= 0; drop--) {
                        y.become(j, 1, drop);
                        if (y.stop(0) != NONE) want = drop;
                    }
                    due("danger(" + j + ") by N " + n, x.danger(j), want);
                }
            }
        }
        for (int j : new int[] {-1, 3, 4}) leavesNoSuch("danger(" + j + ")", x -> x.danger(j));
        for (int f : FAR) leavesNoSuch("danger(" + f + ")", x -> x.danger(f));
        leaves("danger(2)", x -> x.danger(2), Integer.toString(full().danger(2)), NONE);
    }

    /** Four in a row, each near the next one as told. */
    private static TrampolineMat four(int a, int b, int c, int d) {
        return of("near 0;jumper 10 0 " + a + " 0 0;jumper 20 0 " + b + " 0 0;jumper 30 0 " + c + " 0 0;jumper 40 0 " + d + " 0 0;", 1);
    }

    private static void pairsOfAll() {
        promise(19, "PAIRS, as bits: of i and a greater k 4 by i and k.");
        due("nobody", of("").pairs(), 0);
        due("one alone, who is hurt", of("mat 1 9 100;jumper 10 0 9 0 60;").pairs(), 0);
        due("none", four(0, 1, 2, 3).pairs(), 0);
        due("0 and 1", four(0, 0, 2, 3).pairs(), 1 << 1);
        due("0 and 2", four(0, 1, 0, 3).pairs(), 1 << 2);
        due("0 and 3", four(0, 1, 2, 0).pairs(), 1 << 3);
        due("1 and 2", four(0, 1, 1, 3).pairs(), 1 << 6);
        due("1 and 3", four(0, 1, 2, 1).pairs(), 1 << 7);
        due("2 and 3", four(0, 1, 2, 2).pairs(), 1 << 11);
        due("all", four(0, 0, 0, 0).pairs(), 1 << 1 | 1 << 2 | 1 << 3 | 1 << 6 | 1 << 7 | 1 << 11);
        part(19, ASK, "two JUMPERS by whom alone (no other one being there) somebody is hurt in the RUN");
        // Who goes over the edge by himself does so in each of his PAIRS.
        TrampolineMat out = of("mat 1 9 100;jumper 10 0 -5 0 0;jumper 10 0 9 11 60;jumper 10 0 0 0 0;", 46);
        due("1 hurts himself", out.pairs(), 1 << 1 | 1 << 6);
        out.last(45);
        due("not in the RUN", out.pairs(), 0);
        // By what the first brings the second goes too far; by himself he stays at 9.
        TrampolineMat three = of("mat 2 9 100;jumper 10 0 0 0 10;jumper 10 0 9 1 0;jumper 10 0 -5 99 0;", 60);
        due("0 and 1, who takes what 0 brings", three.pairs(), 1 << 1);
        // Whom a third one drives over the edge is not hurt in a PAIR without that one.
        TrampolineMat driven = of("mat 2 9 100;jumper 10 0 9 1 0;jumper 10 0 -5 99 0;jumper 10 0 0 0 10;", 60);
        due("0 and 2 alone", driven.pairs(), 1 << 2);
        leaves("pairs()", TrampolineMat::pairs, Integer.toString(full().pairs()), NONE);
    }

    /** One at each place, all in TICK 0, nobody near another one, with these WEIGHTS. */
    private static TrampolineMat weighing(int near, int... told) {
        StringBuilder text = new StringBuilder("mat 3 20 80;near " + near + ";");
        for (int i = 0; i < told.length; i += 2) text.append("jumper ").append(told[i]).append(" 0 ").append(told[i + 1]).append(" 0 0;");
        return of(text.toString(), 1);
    }

    private static void laws() {
        part(20, ASK, "the least L (0 to 99) such that somebody is hurt by a PAIR just if their WEIGHTS are L or more apart; none (with fewer than two JUMPERS 0).");
        due("nobody", weighing(0).apart(), 0);
        due("one", weighing(0, 50, 0).apart(), 0);
        due("one who is hurt", of("mat 1 9 100;jumper 10 0 9 0 60;").apart(), 0);
        due("two alike, hurt", weighing(0, 50, 0, 50, 0).apart(), 0);
        due("two alike, not hurt", weighing(0, 50, 0, 50, 5).apart(), 1);
        due("1 and 99, hurt", weighing(0, 1, 0, 99, 0).apart(), 0);
        due("1 and 99, not hurt", weighing(0, 1, 0, 99, 5).apart(), 99);
        due("99 and 1, not hurt", weighing(0, 99, 0, 1, 5).apart(), 99);
        due("1 and 98, not hurt", weighing(0, 1, 0, 98, 5).apart(), 98);
        // 98 apart hurt, 97 apart and 1 apart not.
        due("L 98", weighing(0, 1, 0, 99, 0, 98, 5).apart(), 98);
        // 10 apart hurt, 9 apart and 1 apart not; the other way there is none.
        due("L 10", weighing(0, 10, 0, 20, 0, 19, 5).apart(), 10);
        due("none", weighing(0, 10, 0, 20, 5, 19, 0).apart(), NONE);
        // As far apart, the one hurt and the other not.
        due("none of like ones", weighing(0, 10, 0, 20, 0, 30, 5).apart(), NONE);
        due("all of three hurt", weighing(9, 10, 0, 20, 3, 31, 6).apart(), 0);
        due("two alike of three, not hurt, the others hurt", weighing(4, 10, 0, 10, 8, 11, 4).apart(), 1);
        promise(20, "THE LAW OF WEIGHTS; NONE: none.");
        leaves("apart()", TrampolineMat::apart, Integer.toString(full().apart()), NONE);
    }

    private static void thirds() {
        part(21, ASK, "by how much more one's greatest height would be without another JUMPER (below 0: less)");
        // The second takes what both store: 15 up, by himself 10; the first goes up to 10 by himself, but to nothing as LOSING.
        TrampolineMat x = of("mat 3 9 100;jumper 10 0 0 5 10;jumper 20 0 5 5 10;", 20);
        due("without(0, 1)", x.without(0, 1), 10);
        due("without(1, 0)", x.without(1, 0), -5);
        due("no change", of("jumper 10 0 0 0 0;jumper 10 0 5 99 0;", 50).without(0, 1), 0);
        // The third one lies there either way.
        TrampolineMat three = of("mat 3 9 100;jumper 10 0 0 0 10;jumper 10 0 5 1 10;jumper 10 0 -5 2 10;", 9);
        due("30 less 10", three.without(2, 0), -10);
        due("30 less 10", three.without(2, 1), -10);
        due("still LOSING", three.without(0, 1), 0);
        due("then THE TAKER of 20", three.without(1, 2), 20);
        promise(21, "A THIRD: of one, without another.");
        due("one comes in no RUN so short", of("jumper 10 0 0 5 10;jumper 10 0 5 5 10;", 5).without(0, 1), 0);
        due("THE MAT has no time to rise", of("mat 9 9 100;jumper 10 0 0 0 10;jumper 10 0 5 0 10;", 18).without(1, 0), 0);
        due("it has", of("mat 9 9 100;jumper 10 0 0 0 10;jumper 10 0 5 0 10;", 19).without(1, 0), -10);
        promise(21, "IllegalArgumentException (behind NoSuchElementException): both are one.");
        for (int j = 0; j < 3; j++) {
            int both = j;
            leavesNotRight("without(" + j + ", " + j + ")", y -> y.without(both, both));
        }
        for (int j : new int[] {-1, 3, 4, Integer.MIN_VALUE, Integer.MAX_VALUE}) {
            leavesNoSuch("without(" + j + ", 0)", y -> y.without(j, 0));
            leavesNoSuch("without(0, " + j + ")", y -> y.without(0, j));
            leavesNoSuch("without(" + j + ", " + j + ")", y -> y.without(j, j));
        }
        leaves("without(0, 2)", y -> y.without(0, 2), Integer.toString(full().without(0, 2)), NONE);
    }

    private static void fallsDue(TrampolineMat x, int place, int height, int corrects, int n, long upper, long lower) {
        due("falls(" + place + ", " + height + ", " + corrects + ", " + n + ", 0)", x.falls(place, height, corrects, n, 0), upper);
        due("falls(" + place + ", " + height + ", " + corrects + ", " + n + ", 1)", x.falls(place, height, corrects, n, 1), lower);
    }

    private static void wandersDue(TrampolineMat x, int place, int n, int at, long upper, long lower) {
        due("wanders(" + place + ", 0, 0, " + n + ", " + at + ", 0)", x.wanders(place, 0, 0, n, at, 0), upper);
        due("wanders(" + place + ", 0, 0, " + n + ", " + at + ", 1)", x.wanders(place, 0, 0, n, at, 1), lower);
    }

    private static void fallsEdges() {
        part(22, MORE, "who is beyond EDGE has fallen, and jumps no more");
        TrampolineMat x = of("mat 3 3 100;slips 1 2 3;");
        for (int n = 0; n <= 3; n++) fallsDue(x, 0, 0, 0, n, 0, 1);
        // In four jumps from 0 only by four to the one side.
        fallsDue(x, 0, 0, 0, 4, (1 + 81) / 2, 1296 / 2);
        fallsDue(x, 3, 0, 0, 1, 1, 2);
        fallsDue(x, -3, 0, 0, 1, 1, 6);
        // Without SLIPS one stays at 3, and by BROKEN one falls at once; who has fallen comes not back by correcting.
        TrampolineMat sure = of("mat 3 3 100;broken 1;");
        fallsDue(sure, 3, 0, 0, 1, 1, 1);
        fallsDue(sure, 3, 0, 0, 12, 1, 1);
        fallsDue(sure, 2, 0, 0, 1, 0, 1);
        fallsDue(sure, 2, 0, 0, 2, 1, 1);
        fallsDue(sure, 3, 0, 1, 12, 0, 1);
        fallsDue(sure, -3, 0, 0, 6, 0, 1);
        fallsDue(sure, -3, 0, 0, 7, 1, 1);
        // The slip comes behind all else: 3 and 1, one nearer to 0, then one to the right.
        fallsDue(of("mat 3 3 100;broken 1;slips 0 0 1;"), 3, 0, 1, 1, 1, 1);
        fallsDue(of("mat 3 3 100;slips 0 0 1;"), 0, 0, 9, 12, 0, 1);
        due("and one slips from 0", of("mat 3 3 100;slips 0 0 1;").wanders(0, 0, 9, 12, 1, 0), 1);
    }

    private static void fallsParts() {
        part(22, MORE, "as a fraction in lowest terms");
        TrampolineMat thirds = of("mat 3 3 100;slips 9 9 9;");
        fallsDue(thirds, 3, 0, 0, 1, 1, 3);
        fallsDue(thirds, 0, 0, 0, 0, 0, 1);
        fallsDue(thirds, 0, 0, 0, 12, 174250, 531441);
        fallsDue(of("mat 3 3 100;slips 1 1 1;"), 0, 0, 0, 12, 174250, 531441);
        fallsDue(of("mat 3 3 100;slips 4 0 4;"), 3, 0, 0, 1, 1, 2);
        fallsDue(of("mat 3 3 100;slips 0 9 0;"), 3, 0, 0, 12, 0, 1);
        fallsDue(of("mat 3 3 100;slips 0 0 9;"), 0, 0, 0, 4, 1, 1);
        promise(22, "TO WANDER, CORRECTS as told: fallen (what 0, 1: the upper, the lower part).");
        // The greatest parts there are: 25 to the 12th, of which 9 to the 12th fall, each to the left.
        TrampolineMat most = of("mat 3 20 100;slips 9 9 7;");
        due("the lower part", most.wanders(0, 0, 0, 12, 12, 1), 59604644775390625L);
        due("the upper part", most.wanders(0, 0, 0, 12, 12, 0), 13841287201L);
        due("to the left", most.wanders(0, 0, 0, 12, -12, 0), 282429536481L);
        TrampolineMat all = of("mat 3 20 100;slips 9 8 9;");
        due("26 to the 12th", all.wanders(0, 0, 0, 12, 12, 1), 95428956661682176L);
        due("9 to the 12th", all.wanders(0, 0, 0, 12, 12, 0), 282429536481L);
        part(22, MORE, "TO WANDER by n jumps (0 to 12), all up to a height (0 to 60), from a PLACE, alone, by SLIPS");
        // n, the height, PLACE and CORRECTS up to their bounds.
        for (int height : new int[] {0, 60}) for (int corrects : new int[] {0, 9}) for (int n : new int[] {0, 12}) for (int place : new int[] {-20, 20}) {
            long lower = most.falls(place, height, corrects, n, 1);
            due("a fraction", lower > 0 && most.falls(place, height, corrects, n, 0) <= lower, true);
            if (n == 0) fallsDue(most, place, height, corrects, n, 0, 1);
        }
        // Up to 60 from 8 it is 12 farther: 20; from 9 it is 13: 22.
        fallsDue(of("mat 3 20 100;"), 8, 60, 0, 1, 0, 1);
        fallsDue(of("mat 3 20 100;"), 9, 60, 0, 1, 1, 1);
        fallsDue(of("mat 3 20 100;"), 9, 60, 1, 1, 1, 1);
        fallsDue(of("mat 3 20 100;"), 9, 60, 2, 1, 0, 1);
    }

    private static void wandersEdges() {
        promise(23, "TO WANDER: at a place (what 0, 1; not 0: 0 by 1).");
        TrampolineMat x = of("mat 3 3 100;slips 1 2 3;");
        // At first one is where one is.
        for (int at = -4; at <= 4; at++) wandersDue(x, -3, 0, at, at == -3 ? 1 : 0, 1);
        // One jump from 0: 1, 2, 3 of 6.
        wandersDue(x, 0, 1, -2, 0, 1);
        wandersDue(x, 0, 1, -1, 1, 6);
        wandersDue(x, 0, 1, 0, 1, 3);
        wandersDue(x, 0, 1, 1, 1, 2);
        wandersDue(x, 0, 1, 2, 0, 1);
        // From each edge: who falls is at no place.
        wandersDue(x, 3, 1, 3, 1, 3);
        wandersDue(x, 3, 1, 2, 1, 6);
        wandersDue(x, 3, 1, 4, 0, 1);
        wandersDue(x, -3, 1, -3, 1, 3);
        wandersDue(x, -3, 1, -4, 0, 1);
        wandersDue(x, 3, 2, 3, 7, 36);
        for (int at : new int[] {-100, -21, -20, 20, 21, 41, 100}) wandersDue(x, 0, 12, at, 0, 1);
        for (int at : FAR) wandersDue(x, 0, 12, at, 0, 1);
        TrampolineMat wide = of("mat 3 20 100;slips 1 1 1;");
        for (int side : new int[] {-20, 20}) {
            wandersDue(wide, side, 1, side, 1, 3);
            wandersDue(wide, side, 1, side * 21 / 20, 0, 1);
            wandersDue(wide, side * 19 / 20, 1, side, 1, 3);
        }
        // All places and the fall together are sure.
        for (int n = 0; n <= 12; n++) {
            double sum = (double) x.falls(2, 15, 1, n, 0) / x.falls(2, 15, 1, n, 1);
            for (int at = -3; at <= 3; at++) sum += (double) x.wanders(2, 15, 1, n, at, 0) / x.wanders(2, 15, 1, n, at, 1);
            due("all together by " + n, Math.round(sum * 1000000), 1000000);
        }
    }

    private static void corrects() {
        part(24, MORE, "TO CORRECT: the least CORRECTS (0 to 9) by which falling is least likely.");
        TrampolineMat x = of("mat 3 20 80;");
        // Up to 60 from 11 it is 27, from 12 it is 30: 7 and 10 beyond EDGE.
        due("7", x.correct(11, 60, 1), 7);
        due("by none one stays", x.correct(12, 60, 1), 0);
        due("by none one stays", x.correct(-12, 60, 1), 0);
        TrampolineMat nine = of("mat 3 9 80;");
        due("9 is the last", nine.correct(9, 40, 1), 9);
        due("9 is the last", nine.correct(-9, 40, 1), 9);
        due("10 would be", nine.correct(9, 45, 1), 0);
        due("0 is the first", nine.correct(9, 4, 12), 0);
        due("1", nine.correct(9, 5, 12), 1);
        due("without a jump", nine.correct(9, 60, 0), 0);
        // Falling is never sure by slips: less is less likely, as far as it goes.
        TrampolineMat slips = of("mat 3 3 80;slips 1 1 1;");
        for (int place = -3; place <= 3; place++) for (int n = 0; n <= 12; n += 3) for (int height : new int[] {0, 13, 60}) {
            int best = 0;
            double least = 2;
            for (int c = 0; c <= 9; c++) {
                double likely = (double) slips.falls(place, height, c, n, 0) / slips.falls(place, height, c, n, 1);
                if (likely < least - 1e-12) {
                    least = likely;
                    best = c;
                }
            }
            due("correct(" + place + ", " + height + ", " + n + ")", slips.correct(place, height, n), best);
        }
    }

    private static void wandersRefused() {
        promise(22, "NoSuchElementException: another what. IllegalArgumentException (behind that): n, the height, PLACE beyond EDGE, CORRECTS not 0 to 9.");
        int[][] bad = {{9, 0, 0, 1}, {-9, 0, 0, 1}, {0, 61, 0, 1}, {0, -1, 0, 1}, {0, 0, 10, 1}, {0, 0, -1, 1}, {0, 0, 0, 13}, {0, 0, 0, -1}};
        for (int[] b : bad) leavesNotRight("falls(" + Arrays.toString(b) + ")", x -> x.falls(b[0], b[1], b[2], b[3], 0));
        for (int i = 0; i < 4; i++) {
            for (int f : FAR) {
                int[] b = new int[4];
                b[i] = f;
                leavesNotRight("falls(" + Arrays.toString(b) + ")", x -> x.falls(b[0], b[1], b[2], b[3], 1));
                leavesNotRight("wanders(" + Arrays.toString(b) + ")", x -> x.wanders(b[0], b[1], b[2], b[3], 0, 1));
                if (i != 2) leavesNotRight("correct(" + Arrays.toString(b) + ")", x -> x.correct(b[0], b[1], b[3]));
            }
        }
        for (int what : new int[] {-1, 2, 3, Integer.MIN_VALUE, Integer.MAX_VALUE}) {
            leavesNoSuch("falls what " + what, x -> x.falls(0, 0, 0, 1, what));
            for (int[] b : bad) leavesNoSuch("falls what " + what + ", and not right", x -> x.falls(b[0], b[1], b[2], b[3], what));
        }
        int[][] good = {{8, 60, 9, 12}, {-8, 0, 0, 0}};
        for (int[] g : good) {
            leaves("falls", x -> x.falls(g[0], g[1], g[2], g[3], 1), Long.toString(full().falls(g[0], g[1], g[2], g[3], 1)), NONE);
            leaves("wanders", x -> x.wanders(g[0], g[1], g[2], g[3], g[0], 1), Long.toString(full().wanders(g[0], g[1], g[2], g[3], g[0], 1)), NONE);
            leaves("correct", x -> x.correct(g[0], g[1], g[3]), Integer.toString(full().correct(g[0], g[1], g[3])), NONE);
        }
        promise(23, "Likewise.");
        for (int[] b : bad) leavesNotRight("wanders(" + Arrays.toString(b) + ")", x -> x.wanders(b[0], b[1], b[2], b[3], 0, 0));
        for (int what : new int[] {-1, 2, 3, Integer.MIN_VALUE, Integer.MAX_VALUE}) {
            leavesNoSuch("wanders what " + what, x -> x.wanders(0, 0, 0, 1, 0, what));
            for (int[] b : bad) leavesNoSuch("wanders what " + what + ", and not right", x -> x.wanders(b[0], b[1], b[2], b[3], 99, what));
        }
        promise(24, "IllegalArgumentException: n, the height, PLACE.");
        for (int[] b : bad) if (b[2] == 0) leavesNotRight("correct(" + Arrays.toString(b) + ")", x -> x.correct(b[0], b[1], b[3]));
        // PLACE by EDGE as it is: 9 without, 3 and 20 as told.
        for (int edge : new int[] {3, 9, 20}) {
            TrampolineMat x = of("mat 3 " + edge + " 80;");
            for (int side : new int[] {-1, 1}) {
                due("falls at EDGE", x.falls(side * edge, 0, 0, 1, 0), 0);
                due("wanders at EDGE", x.wanders(side * edge, 0, 0, 1, side * edge, 0), 1);
                due("correct at EDGE", x.correct(side * edge, 0, 1), 0);
                notRight("falls beyond EDGE", () -> x.falls(side * (edge + 1), 0, 0, 1, 0));
                notRight("wanders beyond EDGE", () -> x.wanders(side * (edge + 1), 0, 0, 1, 0, 0));
                notRight("correct beyond EDGE", () -> x.correct(side * (edge + 1), 0, 1));
            }
        }
    }

    private static int fitting(int height, int... places) {
        TrampolineMat x = new TrampolineMat();
        for (int p : places) x.find(p);
        return x.broken(height);
    }

    private static void brokens() {
        part(27, MORE, "which BROKEN (bits: 1 shifted by 3 and BROKEN) fit, each place coming of the one ahead");
        due("no place", fitting(0), 127);
        due("one place", fitting(60, 99), 127);
        for (int b = -4; b <= 4; b++) {
            int want = Math.abs(b) <= 3 ? 1 << 3 + b : 0;
            due("from 0 to " + b, fitting(0, 0, b), want);
            due("from 0 to " + b + " by 60", fitting(60, 0, b), want);
            due("from 99 by 0", fitting(0, 99 - 4, 99 - 4 + b), want);
            due("twice", fitting(0, 5, 5 + b, 5 + 2 * b), want);
            due("twice, not alike", fitting(0, 5, 5 + b, 5 + 2 * b + 1), 0);
            // From 20 up to 40 it is 40; from -20 it is -40.
            due("from 20 by 40", fitting(40, 20, 40 + b), want);
            due("from -20 by 40", fitting(40, -20, -40 + b), want);
            // From 1 up to 39 it is 1, from -1 it is -1: cut down to 0.
            due("from 1 by 39", fitting(39, 1, 1 + b), want);
            due("from -1 by 39", fitting(39, -1, -1 + b), want);
        }
        // So far that the shift would come round to a bit that is there: none fits.
        for (int b : new int[] {28, 29, 32, 35, 61, 64, 67, -29, -32, -35, -64}) due("from 0 to " + b, fitting(0, 0, b), 0);
        due("the farthest", fitting(60, 99, -99), 0);
        due("the farthest", fitting(60, -99, 99), 0);
        // Neither EDGE nor BROKEN nor SLIPS of THE MAT count, nor a JUMPER's CORRECTS.
        TrampolineMat x = of("mat 3 3 100;broken 3;slips 9 1 9;jumper 5 5 0 0 0 corrects 9;");
        x.find(50);
        x.find(51);
        due("beyond EDGE, by another BROKEN", x.broken(0), 1 << 4);
        promise(27, "IllegalArgumentException: the height is not 0 to 60.");
        for (int h : new int[] {-1, -2, 61, 62}) leavesNotRight("broken(" + h + ")", y -> y.broken(h));
        for (int h : FAR) leavesNotRight("broken(" + h + ")", y -> y.broken(h));
        leaves("broken(0)", y -> y.broken(0), "16", NONE);
        leaves("broken(60)", y -> y.broken(60), "0", NONE);
    }

    private static void secondEdges() {
        part(28, MORE, "all STARTS of the two (0 to 23 each, others' as they are) by which they were: how many; in how many of these the first one's START is greater");
        TrampolineMat x = of("jumper 10 0 -5 50 0;jumper 10 0 5 50 0;jumper 10 0 0 0 7;");
        due("all of them, in TICK 0", x.second(0, 1, 0, 0, 0, 0), 576);
        due("the first later", x.second(0, 1, 0, 0, 0, 1), 276);
        due("the other way", x.second(1, 0, 0, 0, 0, 1), 276);
        TrampolineMat y = of("jumper 10 0 -5 0 10;jumper 10 0 5 0 10;", 24);
        // In 23 only who comes in 23 or earlier is below 10; in 0 only who comes in 0.
        due("both are at DROP in 0", y.second(0, 1, 0, 10, 10, 0), 23 * 23);
        due("one of them is", y.second(0, 1, 0, 10, 0, 0), 23);
        due("the first later", y.second(0, 1, 0, 10, 0, 1), 23);
        due("one of them is", y.second(0, 1, 0, 0, 10, 0), 23);
        due("the first later", y.second(0, 1, 0, 0, 10, 1), 0);
        due("both have come", y.second(0, 1, 0, 0, 0, 0), 1);
        due("both at once is not later", y.second(0, 1, 0, 0, 0, 1), 0);
        due("in 22 both at DROP by 23 alone", y.second(0, 1, 22, 10, 10, 0), 1);
        due("in 23 by none", y.second(0, 1, 23, 10, 10, 0), 0);
        for (int f : FAR) {
            due("so high is nobody", y.second(0, 1, 5, f, 0, 0), 0);
            due("so high is nobody", y.second(0, 1, 5, 0, f, 0), 0);
        }
        due("below 0 is nobody", y.second(0, 1, 5, -1, 0, 0), 0);
        promise(28, "NoSuchElementException: also no TICK of the RUN, another what. IllegalArgumentException (behind that): both are one.");
        for (int t : new int[] {-1, 150, 151, Integer.MIN_VALUE, Integer.MAX_VALUE}) {
            leavesNoSuch("second, TICK " + t, z -> z.second(0, 1, t, 0, 0, 0));
            leavesNoSuch("second, TICK " + t + ", both one", z -> z.second(0, 0, t, 0, 0, 0));
        }
        for (int w : new int[] {-1, 2, 3, Integer.MIN_VALUE, Integer.MAX_VALUE}) {
            leavesNoSuch("second, what " + w, z -> z.second(0, 1, 0, 0, 0, w));
            leavesNoSuch("second, what " + w + ", both one", z -> z.second(1, 1, 0, 0, 0, w));
        }
        for (int j : new int[] {-1, 3, 4, Integer.MIN_VALUE, Integer.MAX_VALUE}) {
            leavesNoSuch("second(" + j + ", 0, ..)", z -> z.second(j, 0, 0, 0, 0, 0));
            leavesNoSuch("second(0, " + j + ", ..)", z -> z.second(0, j, 0, 0, 0, 0));
            leavesNoSuch("second(" + j + ", " + j + ", ..)", z -> z.second(j, j, 0, 0, 0, 0));
        }
        for (int j = 0; j < 3; j++) {
            int both = j;
            leavesNotRight("second of one", z -> z.second(both, both, 149, 0, 0, 1));
        }
        leaves("second(0, 1, 149, 0, 0, 0)", z -> z.second(0, 1, 149, 0, 0, 0), Integer.toString(full().second(0, 1, 149, 0, 0, 0)), NONE);
        leaves("second(2, 1, 0, 11, 20, 1)", z -> z.second(2, 1, 0, 11, 20, 1), Integer.toString(full().second(2, 1, 0, 11, 20, 1)), NONE);
    }

    private static void seconds() {
        promise(28, "SECOND: how many (what 0), the first one later (1).");
        for (String text : BUSY) {
            for (int tick : new int[] {0, 23, 24, 40}) {
                TrampolineMat x = of(text);
                int high = x.film(0, tick);
                int high2 = x.film(1, tick);
                TrampolineMat y = of(text);
                int many = 0;
                int later = 0;
                for (int s = 0; s <= 23; s++) {
                    y.become(0, 0, s);
                    for (int s2 = 0; s2 <= 23; s2++) {
                        y.become(1, 0, s2);
                        if (y.film(0, tick) == high && y.film(1, tick) == high2) {
                            many++;
                            later += s > s2 ? 1 : 0;
                        }
                    }
                }
                due("second, TICK " + tick, x.second(0, 1, tick, high, high2, 0), many);
                due("second, TICK " + tick, x.second(0, 1, tick, high, high2, 1), later);
                due("there is one at least", many > 0, true);
            }
        }
    }

    private static void compares() {
        promise(29, "RULES COMPARED: hurts (what 0), FUN (1) of a RULE (NONE: none).");
        for (String text : BUSY) {
            TrampolineMat x = of(text);
            TrampolineMat y = of(text);
            for (int rule = NONE; rule < y.count(9); rule++) {
                y.obey(rule);
                int hurts = 0;
                int fun = 0;
                for (int j = 0; j < y.count(8); j++) {
                    hurts += y.ran(j, 3);
                    fun += y.ran(j, 2);
                }
                due("compare(" + rule + ", 0)", x.compare(rule, 0), hurts);
                due("compare(" + rule + ", 1)", x.compare(rule, 1), fun);
                due("whichever is in force", y.compare(NONE, 1), x.compare(NONE, 1));
            }
        }
        promise(29, "NoSuchElementException: no such RULE, another what.");
        for (int rule : new int[] {-2, -3, 2, 3, 4}) leavesNoSuch("compare(" + rule + ", 0)", x -> x.compare(rule, 0));
        for (int what : new int[] {-1, 2, 3}) leavesNoSuch("compare(0, " + what + ")", x -> x.compare(0, what));
        for (int f : FAR) {
            leavesNoSuch("compare(" + f + ", 0)", x -> x.compare(f, 0));
            leavesNoSuch("compare(0, " + f + ")", x -> x.compare(0, f));
        }
        for (int rule : new int[] {NONE, 0, 1}) {
            for (int w : new int[] {0, 1}) leaves("compare(" + rule + ", " + w + ")", x -> x.compare(rule, w), Integer.toString(full().compare(rule, w)), NONE);
        }
        TrampolineMat four = of(times("rule 1;", 4));
        due("the 4th", four.compare(3, 0), 0);
        noSuch("the 5th", () -> four.compare(4, 0));
        noSuch("of none the first", () -> of("").compare(0, 0));
    }

    private static void bests() {
        part(30, MORE, "THE BEST: the fewest hurts, of like ones the most FUN, then none ahead of RULES in their order.");
        // Alone: up to 10 in 6, down in 13 (0 hurts), or over the edge from 9.
        String safe = "mat 3 9 100;jumper 10 0 0 0 10;";
        String edge = "mat 3 9 100;jumper 10 0 9 0 10;";
        due("without RULES", of(safe).best(), NONE);
        due("all alike", of(safe + "rule 1;rule 1;").best(), NONE);
        due("less FUN", of(safe + "rule 0;rule tick<7;").best(), NONE);
        due("fewer hurts", of(edge + "rule 1;rule 0;").best(), 1);
        due("of like ones the first", of(edge + "rule 1;rule 0;rule 0;rule 0;").best(), 1);
        due("fewer hurts by the last", of(edge + "rule 1;rule 1;rule 1;rule 0;").best(), 3);
        // By LEGS 3 he stays within EDGE: as few hurts as by 'rule 0', and more FUN.
        String legs = "mat 3 9 100;jumper 10 3 9 0 10;";
        due("the most FUN of like ones", of(legs + "rule 0;rule height<4;rule 0;").best(), 1);
        due("the first of the most FUN", of(legs + "rule 0;rule height<4;rule height<4;").best(), 1);
        due("fewer hurts ahead of more FUN", of(edge + "rule 0;rule 1;").best(), 0);
        promise(30, "THE BEST; NONE: none is.");
        TrampolineMat x = of(edge + "rule 1;rule 0;");
        x.obey(0);
        due("whichever is in force", x.best(), 1);
        due("it stays in force", x.count(10), 0);
        due("by the RUN as it is: nobody is hurt by 12 TICKS", bestBy(x, 12), NONE);
        due("of nobody", of("rule 0;rule 1;").best(), NONE);
        leaves("best()", TrampolineMat::best, Integer.toString(full().best()), NONE);
    }

    private static int bestBy(TrampolineMat x, int n) {
        x.last(n);
        return x.best();
    }

    private static void eggDue(String pushes, long upper, long lower, long m) {
        TrampolineMat x = of("egg " + pushes + ";");
        due("egg(0) of " + pushes, x.egg(0), upper);
        due("egg(1) of " + pushes, x.egg(1), lower);
        due("egg(2) of " + pushes, x.egg(2), m);
    }

    private static void eggs() {
        part(31, MORE, "as a fraction in lowest terms (0 by 1 with fewer than two PUSHES); the least such m");
        eggDue("", 0, 1, 0);
        eggDue("1", 0, 1, 0);
        eggDue("99", 0, 1, 0);
        for (int i = 0; i < 3; i++) due("without an egg, " + i, of("").egg(i), i == 1 ? 1 : 0);
        eggDue("1 1", 1, 2, 2);
        eggDue("99 99", 99, 2, 2);
        eggDue("1 99", 99, 100, 2);
        eggDue("99 1", 99, 100, 2);
        eggDue("98 99", 9702, 197, 2);
        part(31, MORE, "of the m greatest PUSHES, m from 2 on, m less 1 by the sum of 1 by each of these: the greatest of these");
        // 4 and 4 give 2: one of 2 gives as much (m 2), one of 3 more, one of 1 less.
        eggDue("4 4 2", 2, 1, 2);
        eggDue("2 4 4", 2, 1, 2);
        eggDue("4 2 4 2", 2, 1, 2);
        eggDue("4 4 3", 12, 5, 3);
        eggDue("4 4 1", 2, 1, 2);
        // Like ones: each more is more, to the last of eight.
        for (int i = 2; i <= 8; i++) eggDue(times("9 ", i).trim(), 9 * (i - 1) / gcd(9 * (i - 1), i), i / gcd(9 * (i - 1), i), i);
        eggDue("99 99 99 99 99 99 99 99", 693, 8, 8);
        // Great parts: eight that share few divisors.
        long[] eight = eight();
        eggDue("83 98 97 95 94 91 89 99", eight[0], eight[1], 8);
        // The sum is 1 by each of the greatest ones, in whatever order they were told.
        eggDue("1 2 3 4 5 6 7 8", 2520, 533, 4);
        eggDue("8 7 6 5 4 3 2 1", 2520, 533, 4);
        eggDue("5 1 8 3 7 2 6 4", 2520, 533, 4);
        promise(31, "AN EGG: the upper part (what 0), the lower one (1), m (2; 0 without). NoSuchElementException: another what.");
        for (int what : new int[] {-1, -2, 3, 4}) leavesNoSuch("egg(" + what + ")", x -> x.egg(what));
        for (int what : FAR) leavesNoSuch("egg(" + what + ")", x -> x.egg(what));
        for (int what = 0; what < 3; what++) {
            int w = what;
            leaves("egg(" + w + ")", x -> x.egg(w), Long.toString(full().egg(w)), NONE);
        }
    }

    private static int gcd(int a, int b) {
        return b == 0 ? a : gcd(b, a % b);
    }

    private static long[] eight() {
        int[] pushes = {99, 98, 97, 95, 94, 91, 89, 83};
        BigInteger product = BigInteger.ONE;
        BigInteger sum = BigInteger.ZERO;
        for (int p : pushes) product = product.multiply(BigInteger.valueOf(p));
        for (int p : pushes) sum = sum.add(product.divide(BigInteger.valueOf(p)));
        BigInteger upper = product.multiply(BigInteger.valueOf(7));
        BigInteger shared = upper.gcd(sum);
        return new long[] {upper.divide(shared).longValueExact(), sum.divide(shared).longValueExact()};
    }

    private static void draws() {
        part(32, MORE, "A seed becomes itself times 1103515245 and 12345 (an int that wraps); a DRAW of n is its bits 16 to 30 MOD n then.");
        for (String text : BUSY) {
            for (int seed : new int[] {0, 1, -1, 2, 12345, 1103515245, Integer.MIN_VALUE, Integer.MAX_VALUE, -1103515245}) {
                int[] want = afternoonsByActs(text, seed, 5);
                TrampolineMat x = of(text);
                for (int what = 0; what < 3; what++) due("afternoons(" + seed + ", 5, " + what + ")", x.afternoons(seed, 5, what), want[what]);
            }
        }
        part(32, MORE, "in each every JUMPER's START is a DRAW of 40, in their order");
        // The draws of seed 1 are 16838, 5758, 10113, 17515: of 40 both come in 38, then in 33 and 35, at one place.
        TrampolineMat two = of("mat 3 9 100;jumper 10 0 0 0 10;jumper 10 0 0 0 10;", 38);
        due("nobody in the first by N 38", two.afternoons(1, 1, 2), 1);
        due("in the second somebody", two.afternoons(1, 2, 2), 1);
        two.last(39);
        due("both in the first by N 39", two.afternoons(1, 1, 0), 2);
        two.last(35);
        due("nobody in the second by N 35", two.afternoons(1, 2, 2), 2);
        two.last(36);
        due("both in the second by N 36", two.afternoons(1, 2, 0), 2);
        part(32, MORE, "how often somebody was hurt, all together; the most heights together in one; in how many nobody was");
        for (String text : BUSY) {
            for (int many : new int[] {0, 1, 2, 39, 40}) {
                int[] want = afternoonsByActs(text, 77, many);
                TrampolineMat x = of(text);
                for (int what = 0; what < 3; what++) due("afternoons(77, " + many + ", " + what + ")", x.afternoons(77, many, what), want[what]);
            }
        }
    }

    private static int[] afternoonsByActs(String text, int seed, int many) {
        TrampolineMat x = of(text);
        long s = seed & 0xffffffffL;
        int hurts = 0;
        int most = 0;
        int nobody = 0;
        for (int i = 0; i < many; i++) {
            for (int j = 0; j < x.count(8); j++) {
                s = s * 1103515245L + 12345L & 0xffffffffL;
                x.become(j, 0, (int) ((s >> 16) % 32768 % 40));
            }
            hurts += x.compare(x.count(10), 0);
            most = Math.max(most, x.compare(x.count(10), 1));
            nobody += x.stop(0) == NONE ? 1 : 0;
        }
        return new int[] {hurts, most, nobody};
    }

    private static void afternoonsEdges() {
        promise(32, "IllegalArgumentException (behind that): how many.");
        for (int many : new int[] {-1, -2, 41, 42}) leavesNotRight("afternoons(1, " + many + ", 0)", x -> x.afternoons(1, many, 0));
        for (int many : FAR) leavesNotRight("afternoons(1, " + many + ", 2)", x -> x.afternoons(1, many, 2));
        promise(32, "AFTERNOONS: hurts (what 0), the most heights (1), nobody hurt (2). NoSuchElementException: another what.");
        for (int what : new int[] {-1, 3, 4, Integer.MIN_VALUE, Integer.MAX_VALUE}) {
            for (int many : new int[] {0, 40, -1, 41}) leavesNoSuch("afternoons(1, " + many + ", " + what + ")", x -> x.afternoons(1, many, what));
        }
        for (int what = 0; what < 3; what++) {
            int w = what;
            leaves("afternoons(9, 0, " + w + ")", x -> x.afternoons(9, 0, w), "0", NONE);
            leaves("afternoons(9, 40, " + w + ")", x -> x.afternoons(9, 40, w), Integer.toString(full().afternoons(9, 40, w)), NONE);
        }
        for (int seed : FAR) due("any seed", of("").afternoons(seed, 40, 2), 40);
    }

    private static long bits(int least, int most) {
        long bits = 0;
        for (int p = least; p <= most; p++) bits |= 1L << 20 + p;
        return bits;
    }

    private static void safePlaces() {
        part(33, MORE, "those from -20 to 20, no farther from 0 than EDGE, from which one who jumps alone, without slipping, never comes down beyond EDGE");
        for (int edge : new int[] {3, 4, 9, 19, 20}) {
            TrampolineMat x = of("mat 3 " + edge + " 80;slips 9 0 9;");
            for (int n : new int[] {0, 1, 100}) due("all within EDGE " + edge, x.safe(0, 0, n), bits(-edge, edge));
            due("without a jump", x.safe(60, 0, 0), bits(-edge, edge));
        }
        promise(33, "SAFE PLACES, as bits: 1 shifted by 20 and the place.");
        TrampolineMat right = of("mat 3 20 80;broken 1;");
        TrampolineMat left = of("mat 3 20 80;broken -1;");
        for (int n = 0; n <= 40; n++) {
            due("one to the right, " + n, right.safe(0, 0, n), bits(-20, 20 - n));
            due("one to the left, " + n, left.safe(0, 0, n), bits(-20 + n, 20));
        }
        due("41 jumps", right.safe(0, 0, 41), 0);
        due("100 jumps", right.safe(0, 0, 100), 0);
        due("corrected", right.safe(0, 1, 100), bits(-20, 20));
        // Up to 60 it is twice and a half: 8 stays by one jump, 3 by two (7, then 17), 1 by three (2, 5, 12), 0 always.
        TrampolineMat x = of("mat 3 20 80;");
        due("by one", x.safe(60, 0, 1), bits(-8, 8));
        due("by two", x.safe(60, 0, 2), bits(-3, 3));
        due("by three", x.safe(60, 0, 3), bits(-1, 1));
        due("by four", x.safe(60, 0, 4), bits(0, 0));
        due("by a hundred", x.safe(60, 0, 100), bits(0, 0));
        // By 9 nearer to 0: up to 11 it is 27 and 18; 18 is 45 and 36.
        due("corrected by 9, one jump", x.safe(60, 9, 1), bits(-11, 11));
        due("corrected by 9, always", x.safe(60, 9, 100), safeByHand(60, 9, 100));
        for (int h = 0; h <= 60; h += 3) for (int c = 0; c <= 9; c += 3) for (int n = 0; n <= 100; n += 10) due("safe(" + h + ", " + c + ", " + n + ")", x.safe(h, c, n), safeByHand(h, c, n));
    }

    private static long safeByHand(int height, int corrects, int n) {
        long bits = 0;
        for (int p = -20; p <= 20; p++) {
            int far = Math.abs(p);
            for (int i = 0; i < n && far <= 20; i++) far = Math.max(0, far + far * height / 40 - corrects);
            if (far <= 20) bits |= 1L << 20 + p;
        }
        return bits;
    }

    private static void safeRefused() {
        part(33, MORE, "SAFE PLACES for a height (0 to 60), CORRECTS (0 to 9) and n jumps (0 to 100)");
        for (int h : new int[] {0, 60}) for (int c : new int[] {0, 9}) for (int n : new int[] {0, 100}) {
            due("safe(" + h + ", " + c + ", " + n + ")", of("mat 3 20 80;").safe(h, c, n), safeByHand(h, c, n));
        }
        promise(33, "IllegalArgumentException: the height, CORRECTS, n.");
        int[][] bad = {{-1, 0, 0}, {61, 0, 0}, {0, -1, 0}, {0, 10, 0}, {0, 0, -1}, {0, 0, 101}};
        for (int[] b : bad) leavesNotRight("safe(" + Arrays.toString(b) + ")", x -> x.safe(b[0], b[1], b[2]));
        for (int i = 0; i < 3; i++) {
            for (int f : FAR) {
                int[] b = new int[3];
                b[i] = f;
                leavesNotRight("safe(" + Arrays.toString(b) + ")", x -> x.safe(b[0], b[1], b[2]));
            }
        }
        leaves("safe(0, 0, 0)", x -> x.safe(0, 0, 0), Long.toString(bits(-8, 8)), NONE);
        leaves("safe(60, 9, 100)", x -> x.safe(60, 9, 100), Long.toString(full().safe(60, 9, 100)), NONE);
    }

    private static void atOnceEdges() {
        part(34, MORE, "AT ONCE: the most JUMPERS by whom, no others being there, nobody is hurt in the RUN; of as many the least as bits.");
        due("nobody", of("").atOnce(), 0);
        due("one", of("jumper 10 0 0 0 0;").atOnce(), 1);
        due("one who is hurt alone", of("mat 1 9 100;jumper 10 0 9 0 60;").atOnce(), 0);
        due("all four", four(0, 1, 2, 3).atOnce(), 15);
        due("any one of four: the first", four(0, 0, 0, 0).atOnce(), 1);
        due("0 and 1 knock: 0, 2, 3", four(0, 0, 2, 3).atOnce(), 13);
        due("0 and 2 knock: 0, 1, 3", four(0, 1, 0, 3).atOnce(), 11);
        due("0 and 3 knock: 0, 1, 2", four(0, 1, 2, 0).atOnce(), 7);
        due("1 and 2 knock: 0, 1, 3", four(0, 1, 1, 3).atOnce(), 11);
        due("2 and 3 knock: 0, 1, 2", four(0, 1, 2, 2).atOnce(), 7);
        due("0 and 1, 2 and 3 knock: 0, 2", four(0, 0, 2, 2).atOnce(), 5);
        due("1, 2 and 3 knock: 0, 1", four(0, 1, 1, 1).atOnce(), 3);
        due("0, 1 and 2 knock: 0, 3", four(0, 0, 0, 1).atOnce(), 9);
        // More ones ahead of less bits: the first alone is less, but two are more.
        due("0 knocks all: 1, 2, 3", of("near 3;mat 3 20 80;jumper 10 0 0 0 0;jumper 10 0 -3 0 0;jumper 10 0 3 0 0;", 1).atOnce(), 6);
        // Who is hurt alone is none of them, whoever else is there.
        due("without who is hurt alone", of("mat 1 9 100;jumper 10 0 9 0 60;jumper 10 0 0 99 0;").atOnce(), 2);
        promise(34, "AT ONCE, as bits.");
        leaves("atOnce()", TrampolineMat::atOnce, Integer.toString(full().atOnce()), NONE);
    }
}
