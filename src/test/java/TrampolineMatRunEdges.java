import java.util.Arrays;

/** The document's '==== 2' and promises 11 to 15, 35 and 36: every bound of a RUN, and of what is asked of it. */
public final class TrampolineMatRunEdges extends Mats {
    private static final String RUN = "==== 2";
    private static final int ALONE = 0;
    private static final int GAINING = 1;
    private static final int LOSING = 2;
    private static final int JARRING = 3;
    private static final int EDGED = 4;
    private static final int KNOCKED = 5;

    public static void main(String[] args) {
        ticks();
        starts();
        orders();
        theEdge();
        outOnes();
        near();
        nearWhom();
        sinking();
        takers();
        rises();
        heights();
        rulesOfRises();
        others();
        othersInOrder();
        flights();
        places();
        corrected();
        highInFlight();
        valuesOfWho();
        valuesOfOthers();
        ofEach();
        rans();
        lands();
        films();
        mats();
        landings();
        stops();
        overs();
        end("the edges of runs hold");
    }

    private static void kindsDue(TrampolineMat x, int jumper, int... want) {
        for (int kind = 0; kind < 6; kind++) due("lands(" + jumper + ", " + kind + ")", x.lands(jumper, kind), want[kind]);
    }

    private static void ticks() {
        part(11, RUN, "A RUN of N TICKS 0, 1 .. (1 to 600; 200 at first).");
        TrampolineMat x = of("jumper 10 1 0 0 0;");
        // Up to 1 in 6, 14, .. 198: he comes down again in 200.
        due("film(0, 199)", x.film(0, 199), 1);
        noSuch("film(0, 200)", () -> x.film(0, 200));
        // TICK 0 is one of them, and by N 1 the only one.
        TrampolineMat one = of("jumper 10 1 0 0 0;jumper 10 1 5 1 0;", 1);
        due("who comes in 0", one.ran(0, 6), 2);
        due("who comes in 1", one.ran(1, 6), 0);
        due("landings", one.landing(NONE, 0), 1);
        one.last(2);
        due("who comes in 1, by N 2", one.ran(1, 6), 2);
        // By SINKS 1, up to 1 each time, he comes down every 4 TICKS: in 0, 4, .. 596.
        TrampolineMat most = of("mat 1 9 10;jumper 1 1 0 0 0;", 597);
        due("landings by N 597", most.landing(NONE, 0), 150);
        most.last(596);
        due("landings by N 596", most.landing(NONE, 0), 149);
        most.last(600);
        due("landings by N 600", most.landing(NONE, 0), 150);
        due("how often he went up", most.ran(0, 0), 150);
        most.last(598);
        due("not yet in 597", most.ran(0, 0), 149);
        most.last(599);
        due("in 598", most.ran(0, 0), 150);
        due("N 200 at first", of("mat 1 9 10;jumper 1 1 0 0 0;").landing(NONE, 0), 50);
    }

    private static void starts() {
        part(15, RUN, "At first nobody is on THE MAT; each JUMPER comes down to it in TICK START, from DROP, at his PLACE.");
        for (int start : new int[] {0, 1, 98, 99}) {
            TrampolineMat x = of("jumper 7 0 -9 " + start + " 60;", start + 1);
            int[] want = {start, 0, ALONE, -9, 420};
            due("landings", x.landing(NONE, 0), 1);
            for (int i = 0; i < 5; i++) due("landing(0, " + i + ")", x.landing(0, i), want[i]);
            due("what he does", x.ran(0, 6), 2);
            if (start == 0) continue;
            x.last(start);
            due("ahead of it what he does", x.ran(0, 6), 0);
            due("ahead of it landings", x.landing(NONE, 0), 0);
            due("ahead of it his place", x.ran(0, 5), -9);
        }
        // From DROP 0 he comes with no POWER, and THE MAT sinks by him all the same.
        TrampolineMat x = of("jumper 7 0 0 0 0;jumper 7 0 5 1 0;", 2);
        due("POWER", x.landing(0, 4), 0);
        kindsDue(x, 1, 0, 1, 0, 0, 0, 0);
    }

    private static void orders() {
        part(15, RUN, "LANDINGS of all who come down in it, in the order of JUMPERS.");
        TrampolineMat x = of("jumper 1 0 -9 2 1;jumper 2 0 -3 2 2;jumper 3 0 3 2 3;jumper 4 0 9 2 4;", 3);
        for (int i = 0; i < 4; i++) {
            due("landing(" + i + ", 1)", x.landing(i, 1), i);
            due("landing(" + i + ", 2)", x.landing(i, 2), i == 0 ? ALONE : GAINING);
            due("landing(" + i + ", 4)", x.landing(i, 4), (i + 1) * (i + 1));
        }
        kindsDue(x, 0, 1, 0, 1, 0, 0, 0);
        kindsDue(x, 1, 0, 1, 1, 0, 0, 0);
        kindsDue(x, 3, 0, 1, 0, 0, 0, 0);
    }

    /** By SINKS 1 and KEPT 100 one who drops from h goes up to h in 2 and comes down in 4 and h by 2, cut down. */
    private static TrampolineMat once(int place, int drop, String more) {
        return of("mat 1 9 100;" + more + "jumper 10 0 " + place + " 0 " + drop + ";", 5 + drop / 2);
    }

    private static void theEdge() {
        part(12, RUN, "Beyond EDGE (farther from 0 than it): EDGED: he is OUT from now on, and hurt.");
        for (int side : new int[] {-1, 1}) {
            // From 8 up to 5 it is one farther, up to 10 it is two.
            TrampolineMat on = once(8 * side, 5, "");
            due("his place", on.ran(0, 5), 9 * side);
            due("on THE MAT", on.ran(0, 6), 2);
            due("not hurt", on.ran(0, 3), 0);
            kindsDue(on, 0, 2, 0, 0, 0, 0, 0);
            TrampolineMat off = once(8 * side, 10, "");
            due("his place", off.ran(0, 5), 10 * side);
            due("OUT", off.ran(0, 6), 3);
            due("hurt", off.ran(0, 3), 1);
            kindsDue(off, 0, 1, 0, 0, 0, 1, 0);
            due("stop(0)", off.stop(0), 9);
            off.last(9);
            due("in the air ahead of it", off.ran(0, 6), 1);
            due("his place is where he comes down", off.ran(0, 5), 10 * side);
            due("not hurt ahead of it", off.ran(0, 3), 0);
            TrampolineMat broken = once(9 * side, 0, "broken " + side + ";");
            due("one farther by BROKEN", broken.ran(0, 6), 3);
            due("one nearer by BROKEN", once(9 * side, 0, "broken " + -side + ";").ran(0, 6), 2);
        }
    }

    private static void outOnes() {
        part(11, RUN, "he is OUT from now on");
        TrampolineMat x = of("mat 1 9 100;jumper 10 30 9 0 10;", 600);
        // Down in 2 and 2 and 20: beyond EDGE, and never again.
        due("landings", x.landing(NONE, 0), 2);
        due("EDGED", x.landing(1, 2), EDGED);
        due("how often he went up", x.ran(0, 0), 1);
        due("hurt once", x.ran(0, 3), 1);
        due("THE MAT is still: STORED", x.mat(0), 100);
        due("RISES", x.mat(3), 1);
        // His POWER moves THE MAT not: who comes a TICK behind him is ALONE.
        TrampolineMat y = of("mat 1 9 100;jumper 10 30 9 0 10;jumper 10 0 8 25 0;", 26);
        due("EDGED in", y.landing(1, 0), 24);
        kindsDue(y, 1, 1, 0, 0, 0, 0, 0);
        // Nor is he there for whom comes near him, and near whom he comes is not hurt.
        TrampolineMat z = of("mat 1 9 100;near 9;jumper 10 30 9 0 10;jumper 10 0 9 23 0;jumper 10 0 9 25 60;", 26);
        due("EDGED in", z.landing(2, 0), 24);
        kindsDue(z, 0, 1, 0, 0, 0, 1, 0);
        kindsDue(z, 1, 1, 0, 0, 0, 0, 1);
        due("hurt by the third alone", z.ran(1, 3), 1);
        due("the third once", z.ran(2, 3), 1);
        due("who is OUT once", z.ran(0, 3), 1);
    }

    private static void near() {
        part(12, RUN, "Else, if another one who is on THE MAT is no farther than NEAR: KNOCKED: he, and each such one, is hurt.");
        for (int near : new int[] {0, 1, 2, 8, 9}) {
            for (int from : new int[] {-5, 0, 4}) {
                for (int apart : new int[] {near, near + 1}) {
                    for (int side : new int[] {-1, 1}) {
                        TrampolineMat x = of("mat 3 20 80;near " + near + ";jumper 10 0 " + from + " 0 0;jumper 10 0 " + (from + side * apart) + " 0 0;", 1);
                        int hurt = apart == near ? 1 : 0;
                        due("NEAR " + near + ", apart " + apart + ", who comes", x.ran(1, 3), hurt);
                        due("NEAR " + near + ", apart " + apart + ", who lies there", x.ran(0, 3), hurt);
                        due("KNOCKED who comes", x.lands(1, KNOCKED), hurt);
                        due("KNOCKED who lies there", x.lands(0, KNOCKED), hurt);
                        due("the kind of his landing", x.landing(1, 2), GAINING);
                    }
                }
            }
        }
        // Three lie there, two of them near: he is hurt once, each of these once.
        TrampolineMat x = of("near 2;jumper 1 0 -5 0 0;jumper 1 0 0 0 0;jumper 1 0 4 0 0;jumper 1 0 2 1 0;", 2);
        int[] hurt = {0, 1, 1, 1};
        for (int j = 0; j < 4; j++) {
            due("hurt " + j, x.ran(j, 3), hurt[j]);
            due("KNOCKED " + j, x.lands(j, KNOCKED), hurt[j]);
        }
        // All four at one place: each who comes hurts all who lie there, and himself.
        TrampolineMat all = of(times("jumper 1 0 0 0 0;", 4), 1);
        int[] often = {3, 3, 2, 1};
        for (int j = 0; j < 4; j++) due("hurt " + j, all.ran(j, 3), often[j]);
        due("stop(1)", all.stop(1), 15);
    }

    private static void nearWhom() {
        part(12, RUN, "another one who is on THE MAT");
        // Who hasn't come yet, and who is in the air (from 2 to 6, by up to 5): none of them is on THE MAT.
        String first = "mat 1 9 100;near 9;jumper 10 0 0 0 5;jumper 10 0 0 ";
        int[] startsHurt = {0, 1, 2};
        for (int start : startsHurt) {
            TrampolineMat x = of(first + start + " 0;", start + 1);
            due("who comes in " + start, x.ran(1, 3), 1);
        }
        for (int start = 3; start <= 5; start++) {
            TrampolineMat x = of(first + start + " 0;", start + 1);
            due("who comes in " + start, x.ran(1, 3), 0);
            due("the other one", x.ran(0, 3), 0);
        }
        // In 6 both come down: the first finds nobody there, the second finds him.
        TrampolineMat both = of(first + "6 0;", 7);
        due("the second", both.ran(1, 3), 1);
        due("the first", both.ran(0, 3), 1);
        TrampolineMat later = of("near 9;jumper 10 0 0 1 0;jumper 10 0 0 0 0;", 1);
        due("who hasn't come is not there", later.ran(1, 3), 0);
        later.last(2);
        due("the order of JUMPERS counts for nothing then", later.ran(1, 3) + 10 * later.ran(0, 3), 11);
    }

    private static void sinking() {
        part(12, RUN, "If THE MAT is still, it begins to sink with this TICK, his POWER is STORED, he is THE TAKER: ALONE.");
        for (int start : new int[] {0, 7, 99}) {
            TrampolineMat still = of("mat 2 9 100;jumper 99 0 0 " + start + " 60;", start + 1);
            kindsDue(still, 0, 1, 0, 0, 0, 0, 0);
            due("STORED", still.mat(4), 5940);
            due("it has not risen", still.mat(3), 0);
            still.last(start + 4);
            due("nor 3 TICKS behind", still.mat(3), 0);
            still.last(start + 5);
            due("4 TICKS behind he takes it", still.ran(0, 1), 60);
        }
        part(12, RUN, "In each TICK, in this order");
        // In 6 one comes (jarred), THE RISE ends, and another who lay there goes up by LEGS; the one who came stays.
        TrampolineMat order = of("mat 3 9 100;jumper 10 5 -9 0 10;jumper 10 0 0 0 10;jumper 10 5 9 6 10;", 7);
        due("who came", order.ran(2, 0), 0);
        due("is jarred", order.ran(2, 4), 100);
        due("THE TAKER", order.ran(1, 1), 20);
        due("the other one", order.ran(0, 1), 5);
        part(12, RUN, "If it sinks (fewer than SINKS TICKS since then), his POWER is STORED, too, and he is THE TAKER: GAINING; who was it is LOSING. "
            + "Else it rises: JARRING: he is jarred by his POWER, which is gone.");
        for (int sinks = 1; sinks <= 9; sinks++) {
            int[] behind = {0, sinks - 1, sinks, 2 * sinks - 1, 2 * sinks, 2 * sinks + 1};
            int[] kinds = {GAINING, GAINING, JARRING, JARRING, JARRING, ALONE};
            for (int i = 0; i < behind.length; i++) {
                if (sinks == 1 && i == 3) continue;
                TrampolineMat x = of("mat " + sinks + " 9 100;jumper 10 0 -9 2 1;jumper 7 0 9 " + (2 + behind[i]) + " 3;", 3 + behind[i]);
                String call = "by SINKS " + sinks + " who comes " + behind[i] + " TICKS behind: ";
                due(call + "kind", x.landing(1, 2), kinds[i]);
                due(call + "lands", x.lands(1, kinds[i]), 1);
                due(call + "LOSING of the first", x.lands(0, LOSING), kinds[i] == GAINING ? 1 : 0);
                due(call + "LOSING of himself", x.lands(1, LOSING), 0);
                due(call + "jarred", x.ran(1, 4), kinds[i] == JARRING ? 21 : 0);
                due(call + "jarred away", x.mat(1), kinds[i] == JARRING ? 21 : 0);
                due(call + "all STORED", x.mat(0), kinds[i] == JARRING ? 10 : 31);
                due(call + "RISES", x.mat(3), i >= 4 ? 1 : 0);
                due(call + "STORED at the end", x.mat(4), kinds[i] == GAINING ? 31 : kinds[i] == ALONE ? 21 : i == 4 ? 0 : 10);
            }
        }
        // All that was jarred away, by two, and by one twice (in 1 and in 7, by LEGS from 3 on, while it rises).
        TrampolineMat both = of("mat 1 9 100;jumper 10 0 0 0 1;jumper 7 0 5 1 10;jumper 3 0 -5 2 5;", 3);
        due("jarred away by two", both.mat(1), 85);
        due("the second", both.ran(1, 4), 70);
        due("the third", both.ran(2, 4), 15);
        TrampolineMat twice = of("mat 1 9 100;jumper 10 0 0 0 2;jumper 7 4 5 1 10;", 8);
        due("jarred by one twice", twice.ran(1, 4), 98);
        due("jarred away", twice.mat(1), 98);
        due("JARRING twice", twice.lands(1, JARRING), 2);
        // To be jarred is not to be hurt.
        due("hurt", of("jumper 10 0 -9 0 1;jumper 7 0 9 3 3;", 4).ran(1, 3), 0);
    }

    private static void takers() {
        part(12, RUN, "who was it is LOSING");
        TrampolineMat x = of("jumper 1 0 -9 0 1;jumper 1 0 -3 1 2;jumper 1 0 3 2 3;jumper 1 0 9 3 4;", 7);
        kindsDue(x, 0, 1, 0, 1, 0, 0, 0);
        kindsDue(x, 1, 0, 1, 1, 0, 0, 0);
        kindsDue(x, 2, 0, 1, 0, 0, 0, 0);
        kindsDue(x, 3, 0, 0, 0, 1, 0, 0);
        // The third takes 1 and 2 and 3 by 80 by 100.
        due("who went", x.ran(2, 0), 1);
        due("how high", x.ran(2, 1), 4);
        for (int j : new int[] {0, 1, 3}) due("who didn't, " + j, x.ran(j, 0), 0);
    }

    private static void rises() {
        part(14, RUN, "THE RISE ends twice SINKS TICKS behind the one in which it began");
        for (int sinks = 1; sinks <= 9; sinks++) {
            TrampolineMat x = of("mat " + sinks + " 9 100;jumper 10 0 0 5 4;", 5 + 2 * sinks);
            due("by SINKS " + sinks + " not yet", x.mat(3), 0);
            due("STORED still", x.mat(4), 40);
            due("he lies there", x.ran(0, 6), 2);
            x.last(6 + 2 * sinks);
            due("by SINKS " + sinks + " it has", x.mat(3), 1);
            due("STORED is gone", x.mat(4), 0);
            due("he went", x.ran(0, 6), 1);
        }
        part(14, RUN, "THE MAT is still, from this TICK on");
        // By who gains the end is not put off.
        TrampolineMat x = of("jumper 10 0 -5 0 10;jumper 10 0 5 2 10;", 7);
        due("it ends in 6", x.mat(3), 1);
        due("who went", x.ran(1, 0), 1);
    }

    private static void heights() {
        part(11, RUN, "THE TAKER would go up to what is STORED by KEPT, by 100, cut down, by his WEIGHT, cut down, and LEGS more (999 at most)");
        // WEIGHT and DROP of the first, who is LOSING; WEIGHT, LEGS and DROP of the second; KEPT; the height.
        int[][] rows = {{1, 0, 1, 0, 0, 100, 0}, {1, 0, 1, 30, 0, 100, 30}, {99, 10, 1, 0, 9, 100, 999}, {99, 10, 1, 0, 8, 100, 998}, {99, 10, 1, 0, 10, 100, 999},
            {99, 10, 1, 1, 8, 100, 999}, {99, 10, 1, 2, 8, 100, 999}, {99, 10, 1, 30, 8, 100, 999}, {99, 9, 1, 30, 50, 100, 971}, {99, 60, 1, 30, 60, 100, 999},
            {10, 9, 1, 0, 0, 10, 9}, {9, 11, 1, 0, 0, 10, 9}, {9, 11, 1, 0, 1, 10, 10}, {10, 9, 10, 0, 0, 100, 9}, {9, 11, 10, 0, 0, 100, 9},
            {9, 11, 99, 0, 0, 100, 1}, {9, 10, 99, 0, 0, 100, 0}, {7, 9, 3, 2, 4, 33, 10}, {1, 60, 99, 30, 60, 99, 90}};
        for (int[] r : rows) {
            TrampolineMat x = of("mat 1 20 " + r[5] + ";jumper " + r[0] + " 0 -9 0 " + r[1] + ";jumper " + r[2] + " " + r[3] + " 0 0 " + r[4] + ";", 3);
            String call = "by " + Arrays.toString(r) + " ";
            due(call + "how often he went up", x.ran(1, 0), 1);
            due(call + "the height", x.ran(1, 1), r[6]);
            due(call + "FUN", x.ran(1, 2), r[6]);
        }
        promise(14, "(the height by what was STORED, without LEGS and ahead of the 999, by WEIGHT, together)");
        for (int[] r : rows) {
            TrampolineMat x = of("mat 1 20 " + r[5] + ";jumper " + r[0] + " 0 -9 0 " + r[1] + ";jumper " + r[2] + " " + r[3] + " 0 0 " + r[4] + ";", 3);
            int had = (r[0] * r[1] + r[2] * r[4]) * r[5] / 100 / r[2] * r[2];
            due("mat(2) by " + Arrays.toString(r), x.mat(2), had);
        }
        due("together", of("mat 1 9 100;jumper 10 0 0 0 4;", 15).mat(2), 120);
        due("of who went alone", of("mat 1 9 100;jumper 10 0 0 0 4;rule 0;", 15).mat(2), 120);
        TrampolineMat no = of("mat 1 9 100;jumper 10 0 0 0 4;rule tick<3;", 15);
        no.obey(0);
        due("of who went alone", no.mat(2), 40);
    }

    private static void rulesOfRises() {
        part(11, RUN, "he goes, if the RULE in force holds. What is STORED is gone either way");
        TrampolineMat x = of("mat 2 9 100;jumper 10 0 0 1 4;jumper 10 0 5 6 3;rule 0;rule 1;", 6);
        x.obey(0);
        due("he stays", x.ran(0, 6), 2);
        due("STORED", x.mat(4), 0);
        due("all that was STORED", x.mat(0), 40);
        due("RISES that ended", x.mat(3), 1);
        due("had of it", x.mat(2), 0);
        x.last(7);
        kindsDue(x, 1, 1, 0, 0, 0, 0, 0);
        due("only the second one's is STORED", x.mat(4), 30);
        x.obey(1);
        x.last(6);
        due("he goes", x.ran(0, 6), 1);
        due("had of it", x.mat(2), 40);
        part(11, RUN, "RULE in force: one of RULES, or none (it holds always); none at first.");
        TrampolineMat none = of("jumper 10 5 0 0 0;rule 0;", 7);
        due("none at first", none.ran(0, 0), 1);
        none.obey(0);
        due("the RULE", none.ran(0, 0), 0);
        none.obey(NONE);
        due("none", none.ran(0, 0), 1);
        TrampolineMat four = of("jumper 10 5 0 0 0;rule 0;rule tick=7;rule tick=8;rule tick=9;");
        int[] lands = {NONE, 11, 12, 13};
        for (int i = 1; i < 4; i++) {
            four.obey(i);
            due("each RULE by its own EXPR, " + i, four.landing(1, 0), lands[i]);
        }
        four.obey(0);
        noSuch("by the first nobody goes", () -> four.landing(1, 0));
    }

    private static void others() {
        part(11, RUN, "while THE MAT is still, each one on it, in the order of JUMPERS, who has been there for twice SINKS TICKS or more "
            + "(THE TAKER who didn't go, too; not he who went), and has LEGS above 0, goes up to LEGS, if the RULE holds.");
        // The first is in the air from 6 to 18; the second is jarred in 3 and has been there for 6 TICKS in 9.
        TrampolineMat x = of("mat 3 9 100;jumper 10 0 -5 0 20;jumper 10 5 5 3 1;", 9);
        due("not yet in 8", x.ran(1, 0), 0);
        x.last(10);
        due("in 9", x.ran(1, 0), 1);
        due("to LEGS", x.ran(1, 1), 5);
        due("that is none of THE RISES", x.mat(3), 1);
        due("nor had he of it", x.mat(2), 200);
        // LEGS 0 and 1.
        due("LEGS 0", of("mat 3 9 100;jumper 10 0 -5 0 20;jumper 10 0 5 3 1;", 18).ran(1, 0), 0);
        TrampolineMat one = of("mat 3 9 100;jumper 10 0 -5 0 20;jumper 10 1 5 3 1;", 12);
        due("LEGS 1", one.ran(1, 0), 1);
        due("LEGS 1, down in 11", one.landing(2, 0), 11);
        due("LEGS 30", of("mat 3 9 100;jumper 10 0 -5 0 20;jumper 10 30 5 3 1;", 18).ran(1, 1), 30);
        // If the first comes again in 9, THE MAT is not still then: it is in 15.
        TrampolineMat busy = of("mat 3 9 100;jumper 10 0 -5 0 2;jumper 10 5 5 3 1;", 15);
        due("the first again in 9", busy.landing(2, 0), 9);
        due("not in 9, nor while it moves", busy.ran(1, 0), 0);
        busy.last(16);
        due("in 15, with THE RISE", busy.ran(1, 0), 1);
        TrampolineMat free = of("mat 3 9 100;jumper 10 0 -5 0 4;jumper 10 5 5 3 1;", 10);
        due("if he comes again in 10, in 9", free.ran(1, 0), 1);
        // Who was LOSING in 0 has been there for twice SINKS when THE RISE ends.
        due("LOSING", of("mat 3 9 100;jumper 10 4 -5 0 2;jumper 10 0 5 0 2;", 7).ran(0, 0), 1);
        TrampolineMat second = of("mat 3 9 100;jumper 10 0 -5 0 9;jumper 10 4 5 1 2;jumper 10 0 0 2 9;", 7);
        due("who came a TICK later not yet", second.ran(1, 0), 0);
        second.last(8);
        due("a TICK later", second.ran(1, 0), 1);
        // THE TAKER who didn't go, in the same TICK or when he has been there so long; not he who went.
        TrampolineMat taker = of("mat 3 9 100;jumper 10 4 0 0 10;rule height<5;", 7);
        taker.obey(0);
        due("THE TAKER who didn't go", taker.ran(0, 0), 1);
        due("to LEGS", taker.ran(0, 1), 4);
        taker.obey(NONE);
        due("not he who went", taker.ran(0, 0), 1);
        due("but as THE TAKER", taker.ran(0, 1), 14);
        TrampolineMat late = of("mat 3 9 100;jumper 10 0 -5 0 10;jumper 10 4 5 2 10;rule height<5;", 8);
        late.obey(0);
        due("THE TAKER came in 2: not in 7", late.ran(1, 0), 0);
        late.last(9);
        due("in 8", late.ran(1, 0), 1);
    }

    private static void othersInOrder() {
        part(11, RUN, "each one on it, in the order of JUMPERS");
        // Three lie there without a TAKER who goes: by the RULE only who finds nobody in the air.
        TrampolineMat x = of("mat 1 9 100;near 0;jumper 10 5 -5 0 0;jumper 10 5 0 0 0;jumper 10 0 5 0 0;rule up=0 and height<6 and height;", 3);
        x.obey(0);
        due("the first goes", x.ran(0, 0), 1);
        due("the second not", x.ran(1, 0), 0);
        due("nor THE TAKER to 0", x.ran(2, 0), 0);
        TrampolineMat y = of("mat 1 9 100;near 0;jumper 10 5 -5 0 0;jumper 10 5 0 0 0;jumper 10 5 5 0 0;rule on<2;", 3);
        y.obey(0);
        // On THE MAT beside the first lie two: he stays; so does each.
        for (int j = 0; j < 3; j++) due("who finds two there, " + j, y.ran(j, 0), 0);
        TrampolineMat z = of("mat 1 9 100;near 0;jumper 10 5 -5 0 0;jumper 10 5 0 0 0;jumper 10 5 5 0 0;rule on<2 or me=1;", 3);
        z.obey(0);
        due("the first finds two", z.ran(0, 0), 0);
        due("the second goes", z.ran(1, 0), 1);
        due("the third finds but one by then", z.ran(2, 0), 1);
    }

    private static void flights() {
        part(11, RUN, "he comes down in 2 and H by 2, cut down, TICKS");
        for (int h = 0; h <= 60; h++) {
            TrampolineMat x = of("mat 1 20 100;jumper 10 0 0 0 " + h + ";", 40);
            due("from 2 up to " + h + " down in", x.landing(1, 0), 4 + h / 2);
            due("POWER", x.landing(1, 4), 10 * h);
        }
        TrampolineMat most = of("mat 1 20 100;jumper 99 0 -9 0 60;jumper 1 30 0 0 60;", 503);
        due("up to 999 he is in the air in 502", most.ran(1, 6), 1);
        due("landings", most.landing(NONE, 0), 2);
        most.last(504);
        due("and down in 503", most.landing(2, 0), 503);
        due("by POWER", most.landing(2, 4), 999);
    }

    private static void places() {
        part(11, RUN, "at P and P by H by 40 (cut down to 0), and BROKEN more");
        for (int place : new int[] {-20, -7, -1, 0, 1, 7, 20}) {
            for (int h : new int[] {0, 1, 2, 5, 6, 19, 20, 39, 40, 41, 59, 60}) {
                for (int broken = -3; broken <= 3; broken++) {
                    String text = "mat 1 20 100;broken " + broken + ";jumper 10 0 " + place + " 0 " + h + ";";
                    int far = Math.abs(place) * h / 40 * (place < 0 ? -1 : 1);
                    due("where he comes down by '" + text + "'", of(text, 3).ran(0, 5), place + far + broken);
                }
            }
        }
        // The first height by which one at 1 goes one farther is 40, at 20 it is 2.
        int[][] rows = {{1, 39, 1}, {1, 40, 2}, {-1, 39, -1}, {-1, 40, -2}, {20, 1, 20}, {20, 2, 21}, {-20, 1, -20}, {-20, 2, -21}, {0, 60, 0}};
        for (int[] r : rows) due("from " + r[0] + " up to " + r[1], of("mat 1 20 100;jumper 10 0 " + r[0] + " 0 " + r[1] + ";", 3).ran(0, 5), r[2]);
        // As high as can be: 20 and 20 by 999 by 40 and 3.
        due("the farthest", of("mat 1 20 100;broken 3;jumper 99 0 -9 0 60;jumper 1 30 20 0 60;", 3).ran(1, 5), 20 + 499 + 3);
        due("the farthest", of("mat 1 20 100;broken -3;jumper 99 0 9 0 60;jumper 1 30 -20 0 60;", 3).ran(1, 5), -20 - 499 - 3);
    }

    private static void corrected() {
        part(11, RUN, "and then CORRECTS nearer to 0 (not beyond it)");
        for (int side : new int[] {-1, 1}) {
            for (int corrects = 0; corrects <= 9; corrects++) {
                // From 4 up to 10 it is 5, and 1 by BROKEN: 6.
                String text = "mat 1 20 100;broken " + side + ";jumper 10 0 " + 4 * side + " 0 10 corrects " + corrects + ";";
                due("by '" + text + "'", of(text, 3).ran(0, 5), side * Math.max(0, 6 - corrects));
                // BROKEN alone, over to the other side of 0 first.
                String over = "mat 1 20 100;broken " + 3 * side + ";jumper 10 0 " + -side + " 0 0 corrects " + corrects + ";";
                due("by '" + over + "'", of(over, 3).ran(0, 5), side * Math.max(0, 2 - corrects));
            }
        }
        for (int corrects : new int[] {0, 9}) due("at 0 he stays", of("jumper 10 0 0 0 10 corrects " + corrects + ";", 7).ran(0, 5), 0);
        // Corrected by 9 he comes down within EDGE, by 8 beyond it.
        TrampolineMat x = of("mat 1 9 100;jumper 10 0 9 0 40 corrects 9;", 25);
        due("by 9", x.ran(0, 6), 2);
        x.become(0, 2, 8);
        due("by 8", x.ran(0, 6), 3);
    }

    private static void highInFlight() {
        part(13, RUN, "Behind k TICKS of F he is 4 by H by k by (F less k), by F by F, cut down, high.");
        int[][] flights = {{0, 0, 0, 0}, {1, 0, 1, 0}, {2, 0, 1, 1, 0}, {3, 0, 2, 2, 0}, {4, 0, 3, 4, 3, 0}, {10, 0, 4, 8, 9, 9, 8, 4, 0}, {5, 0, 3, 5, 3, 0}};
        for (int[] f : flights) {
            TrampolineMat x = of("mat 1 20 100;jumper 10 0 0 0 " + f[0] + ";");
            for (int k = 1; k < f.length; k++) due("up to " + f[0] + ", behind " + (k - 1), x.film(0, 1 + k), f[k]);
        }
        TrampolineMat most = of("mat 1 20 100;jumper 99 0 -9 0 60;jumper 1 30 0 0 60;", 600);
        // 4 by 999 by k by (501 less k), by 501 by 501.
        int[][] rows = {{0, 0}, {1, 7}, {2, 15}, {250, 998}, {251, 998}, {499, 15}, {500, 7}, {501, 0}};
        for (int[] r : rows) due("up to 999, behind " + r[0], most.film(1, 2 + r[0]), r[1]);
    }

    /** Whether by the RULE the first one goes in his first RISE. */
    private static boolean goes(String told, int n, String expr) {
        TrampolineMat x = of(told + "rule " + expr + ";", n);
        x.obey(0);
        return x.ran(0, 0) == 1;
    }

    private static void valuesOfWho() {
        part(11, "Terms", "VALUES of a JUMPER who would go up: 'me', 'weight', 'height' (to which he would), 'place', 'tick'");
        String most = "mat 1 20 100;jumper 1 30 -20 5 60;jumper 99 0 20 5 60;";
        // The second is THE TAKER of 60 and 5940, by 99: 60; the first goes by LEGS.
        due("weight 1, LEGS 30, place -20, TICK 7", goes(most, 8, "me=0 and weight=1 and height=30 and place=0-20 and tick=7"), true);
        String taker = "mat 1 20 100;jumper 1 30 20 5 60;jumper 99 0 -20 4 60;";
        // In 5 it does not sink any more: he is jarred.
        due("jarred, in 7", goes(taker, 8, "tick=7"), true);
        String high = "mat 2 20 100;jumper 1 30 20 5 60;jumper 99 0 -20 4 60;";
        due("height 999 at most", goes(high, 9, "height=999 and place=20 and tick=8"), true);
        due("one less", goes("mat 2 20 100;jumper 1 30 20 5 28;jumper 94 0 -20 4 10;", 9, "height=998"), true);
        due("height of nothing", goes("jumper 1 0 0 0 0;", 7, "height=0"), true);
        due("the place where he lies", goes("mat 1 9 100;broken 3;jumper 10 0 -9 0 10;", 3, "place=0-9"), true);
        TrampolineMat late = of("mat 1 9 10;jumper 1 1 0 0 0;rule tick<598;rule tick<599;", 600);
        late.obey(0);
        due("up to TICK 597", late.ran(0, 0), 149);
        late.obey(1);
        due("and 598", late.ran(0, 0), 150);
        TrampolineMat four = of(times("jumper 9 0 0 0 0;", 3) + "jumper 99 0 9 0 0;rule me=3 and weight=99;", 7);
        four.obey(0);
        due("me 3, weight 99", four.ran(3, 0), 1);
    }

    private static void valuesOfOthers() {
        part(11, "Terms", "'up' (how many others are in the air), 'on' (how many others are on THE MAT), 'heavier' (how many of these weigh more than he)");
        // Alone.
        due("alone", goes("jumper 10 0 0 0 0;", 7, "up=0 and on=0 and heavier=0"), true);
        // Who hasn't come yet is neither; nor is who is OUT (the second, from 9 on).
        String neither = "mat 1 9 100;jumper 10 0 0 20 0;jumper 99 0 9 0 10;jumper 99 0 -5 99 60;";
        due("who hasn't come, who is OUT", goes(neither, 23, "me=1 or up=0 and on=0 and heavier=0"), true);
        due("who is OUT is counted ahead of it", goes("mat 1 9 100;jumper 10 0 0 4 0;jumper 99 0 9 0 10;", 7, "me=1 or up=1 and on=0 and heavier=0"), true);
        // Three others: one as heavy, one heavier, one lighter.
        String lie = "mat 3 9 100;jumper 10 0 0 1 0;jumper 10 0 4 0 0;jumper 11 0 9 0 0;jumper 9 0 -5 0 0;";
        due("on THE MAT", goes(lie, 7, "up=0 and on=3 and heavier=1"), true);
        // Three others in the air: heavier ones, but not of those on THE MAT.
        String air = "mat 1 20 100;near 0;jumper 10 0 0 4 0;jumper 99 10 4 0 9;jumper 99 9 9 0 9;jumper 99 9 -5 0 9;";
        due("in the air", goes(air, 7, "0<me or up=3 and on=0 and heavier=0"), true);
        // He who went in the same TICK is in the air by then.
        TrampolineMat x = of("mat 1 9 100;jumper 10 5 -5 0 0;jumper 20 0 5 0 0;rule me=1 or up=1 and on=0 and heavier=0;", 3);
        x.obey(0);
        due("THE TAKER went ahead of him", x.ran(0, 0), 1);
        // Who is not there in a question is not counted.
        TrampolineMat gone = of("mat 1 9 100;jumper 10 0 -5 0 5;jumper 20 0 5 0 0;rule on;", 3);
        gone.obey(0);
        due("with the other one", gone.ran(1, 0), 1);
        due("without him", gone.without(1, 0), -2);
    }

    private static void ofEach() {
        part(11, RUN, "OF EACH: how often he went up, the greatest height, heights together (FUN; a DROP is none of these)");
        TrampolineMat x = of("mat 1 9 50;jumper 10 0 0 0 60;", 2);
        for (int i = 0; i < 3; i++) due("ran(0, " + i + ") by a DROP alone", x.ran(0, i), 0);
        // 30 in 2, down in 19, 15 in 21, down in 30, 7 in 32.
        x.last(3);
        int[] one = {1, 30, 30};
        for (int i = 0; i < 3; i++) due("ran(0, " + i + ")", x.ran(0, i), one[i]);
        x.last(33);
        int[] three = {3, 30, 52};
        for (int i = 0; i < 3; i++) due("ran(0, " + i + ")", x.ran(0, i), three[i]);
        TrampolineMat nought = of("mat 1 9 100;jumper 10 0 0 0 0;", 7);
        // In 2 and 6, up to 0.
        due("to go up to 0 is to go up", nought.ran(0, 0), 2);
        due("FUN", nought.ran(0, 2), 0);
        part(11, RUN, "LOSING and KNOCKED besides the others, also of who lay there");
        TrampolineMat y = of("near 9;jumper 10 0 0 0 1;jumper 10 0 5 0 1;", 1);
        kindsDue(y, 0, 1, 0, 1, 0, 0, 1);
        kindsDue(y, 1, 0, 1, 0, 0, 0, 1);
    }

    private static void rans() {
        promise(11, "5 his place (where he is, or comes down), 6 what he does at the end (0 he hasn't come yet, 1 in the air, 2 on THE MAT, 3 OUT)");
        TrampolineMat x = of("mat 1 9 100;jumper 10 0 9 1 10;", 1);
        // Comes in 1, goes in 3 to 11, is OUT in 10.
        int[] doing = {0, 2, 2, 1, 1, 1, 1, 1, 1, 1, 3, 3};
        for (int n = 1; n <= doing.length; n++) {
            x.last(n);
            due("ran(0, 6) by N " + n, x.ran(0, 6), doing[n - 1]);
            due("ran(0, 5) by N " + n, x.ran(0, 5), n <= 3 ? 9 : 11);
        }
        promise(11, "NoSuchElementException: also another what.");
        for (int what : new int[] {-1, 7, 8}) leavesNoSuch("ran(0, " + what + ")", y -> y.ran(0, what));
        for (int j : new int[] {-1, 3}) leavesNoSuch("ran(" + j + ", 0)", y -> y.ran(j, 0));
        for (int f : FAR) {
            leavesNoSuch("ran(0, " + f + ")", y -> y.ran(0, f));
            leavesNoSuch("ran(" + f + ", 0)", y -> y.ran(f, 0));
        }
        TrampolineMat full = full();
        for (int what = 0; what < 7; what++) {
            int w = what;
            leaves("ran(2, " + w + ")", y -> y.ran(2, w), Integer.toString(full.ran(2, w)), NONE);
        }
    }

    private static void lands() {
        promise(12, "By the RUN, LANDINGS of a kind (0 to 5). NoSuchElementException: also another kind.");
        for (int kind : new int[] {-1, 6, 7}) leavesNoSuch("lands(0, " + kind + ")", y -> y.lands(0, kind));
        for (int j : new int[] {-1, 3}) leavesNoSuch("lands(" + j + ", 0)", y -> y.lands(j, 0));
        for (int f : FAR) {
            leavesNoSuch("lands(0, " + f + ")", y -> y.lands(0, f));
            leavesNoSuch("lands(" + f + ", 0)", y -> y.lands(f, 0));
        }
        TrampolineMat full = full();
        for (int kind = 0; kind < 6; kind++) {
            int k = kind;
            leaves("lands(1, " + k + ")", y -> y.lands(1, k), Integer.toString(full.lands(1, k)), NONE);
        }
        TrampolineMat none = of("jumper 10 0 0 99 0;", 99);
        kindsDue(none, 0, 0, 0, 0, 0, 0, 0);
    }

    private static void films() {
        promise(13, "How high one is in a TICK, behind all that happens in it (0 on THE MAT, and OUT; ahead of START: DROP).");
        TrampolineMat x = of("mat 1 9 100;jumper 10 0 9 3 10;", 600);
        // DROP in 0 to 2, comes in 3, goes in 5 up to 10, is OUT in 12.
        int[] film = {10, 10, 10, 0, 0, 0, 4, 8, 9, 9, 8, 4, 0, 0};
        for (int t = 0; t < film.length; t++) due("film(0, " + t + ")", x.film(0, t), film[t]);
        due("film(0, 599)", x.film(0, 599), 0);
        // Who never comes in the RUN is at DROP all the while.
        TrampolineMat never = of("jumper 10 0 0 99 60;", 99);
        due("film(0, 0)", never.film(0, 0), 60);
        due("film(0, 98)", never.film(0, 98), 60);
        // A TICK's height does not hang on how long the RUN goes on.
        for (int n : new int[] {9, 10, 200}) due("film(0, 8)", of("mat 1 9 100;jumper 10 0 9 3 10;", n).film(0, 8), 9);
        promise(13, "NoSuchElementException: also it is no TICK of the RUN.");
        for (int t : new int[] {-1, -2, 150, 151, 200, 600}) leavesNoSuch("film(0, " + t + ")", y -> y.film(0, t));
        for (int j : new int[] {-1, 3}) leavesNoSuch("film(" + j + ", 0)", y -> y.film(j, 0));
        for (int f : FAR) {
            leavesNoSuch("film(0, " + f + ")", y -> y.film(0, f));
            leavesNoSuch("film(" + f + ", 0)", y -> y.film(f, 0));
        }
        int last = full().film(0, 149);
        leaves("film(0, 149)", y -> y.film(0, 149), Integer.toString(last), NONE);
        noSuch("film(0, 600)", () -> x.film(0, 600));
        x.last(1);
        due("film(0, 0) by N 1", x.film(0, 0), 10);
        noSuch("film(0, 1) by N 1", () -> x.film(0, 1));
    }

    private static void mats() {
        promise(14, "3 RISES that ended, 4 what is STORED at the end");
        TrampolineMat x = of("mat 2 9 100;jumper 10 0 0 1 4;jumper 7 0 5 3 3;", 1);
        // Comes in 1; the second is jarred in 3; in 5 the first goes up to 4, and comes again in 9.
        int[][] rows = {{0, 0, 0, 0, 0}, {40, 0, 0, 0, 40}, {40, 0, 0, 0, 40}, {40, 21, 0, 0, 40}, {40, 21, 0, 0, 40}, {40, 21, 40, 1, 0},
            {40, 21, 40, 1, 0}, {40, 21, 40, 1, 0}, {40, 21, 40, 1, 0}, {80, 21, 40, 1, 40}};
        for (int n = 1; n <= rows.length; n++) {
            x.last(n);
            for (int i = 0; i < 5; i++) due("mat(" + i + ") by N " + n, x.mat(i), rows[n - 1][i]);
        }
        promise(14, "NoSuchElementException: another what.");
        for (int what : new int[] {-1, -2, 5, 6}) leavesNoSuch("mat(" + what + ")", y -> y.mat(what));
        for (int what : FAR) leavesNoSuch("mat(" + what + ")", y -> y.mat(what));
        TrampolineMat full = full();
        for (int what = 0; what < 5; what++) {
            int w = what;
            leaves("mat(" + w + ")", y -> y.mat(w), Integer.toString(full.mat(w)), NONE);
        }
    }

    private static void landings() {
        promise(15, "Of the i-th LANDING of the RUN (by TICKS, then as they come): 0 the TICK, 1 the JUMPER, 2 the kind (0, 1, 3, 4), 3 the place, "
            + "4 POWER (of EDGED ones, too)");
        TrampolineMat x = of("mat 1 9 100;jumper 10 0 9 1 10;jumper 5 0 -9 1 2;jumper 3 0 0 2 7;", 19);
        // In 3 the second goes up to 22 and comes down at -13 in 16; the others have no LEGS.
        int[][] rows = {{1, 0, ALONE, 9, 100}, {1, 1, GAINING, -9, 10}, {2, 2, JARRING, 0, 21}, {16, 1, EDGED, -13, 110}};
        due("how many", x.landing(NONE, 0), 4);
        for (int i = 0; i < 4; i++) for (int w = 0; w < 5; w++) due("landing(" + i + ", " + w + ")", x.landing(i, w), rows[i][w]);
        promise(15, "how many there are (i NONE, what 0)");
        int[] many = {0, 2, 3};
        for (int n = 1; n <= 3; n++) {
            x.last(n);
            due("by N " + n, x.landing(NONE, 0), many[n - 1]);
        }
        promise(15, "NoSuchElementException: there is none, another what.");
        int all = full().landing(NONE, 0);
        leaves("landing(NONE, 0)", y -> y.landing(NONE, 0), Integer.toString(all), NONE);
        due("there are some", all > 4, true);
        for (int i : new int[] {-2, -3, all, all + 1}) leavesNoSuch("landing(" + i + ", 0)", y -> y.landing(i, 0));
        for (int w : new int[] {1, 2, 3, 4, 5, -1}) leavesNoSuch("landing(NONE, " + w + ")", y -> y.landing(NONE, w));
        for (int w : new int[] {-1, -2, 5, 6}) {
            leavesNoSuch("landing(0, " + w + ")", y -> y.landing(0, w));
            leavesNoSuch("landing(" + (all - 1) + ", " + w + ")", y -> y.landing(all - 1, w));
        }
        for (int f : FAR) {
            leavesNoSuch("landing(" + f + ", 0)", y -> y.landing(f, 0));
            leavesNoSuch("landing(0, " + f + ")", y -> y.landing(0, f));
            leavesNoSuch("landing(NONE, " + f + ")", y -> y.landing(NONE, f));
        }
        due("the last one is there", full().landing(all - 1, 0) < 150, true);
        noSuch("landing(0, 0) of nobody", () -> of("").landing(0, 0));
        // As many as there can be: four, every 4 TICKS.
        TrampolineMat most = of("mat 1 9 10;near 0;jumper 1 1 0 0 0;jumper 1 1 3 0 0;jumper 1 1 6 0 0;jumper 1 1 9 0 0;", 600);
        due("as many as there can be", most.landing(NONE, 0), 600);
        int[] last = {596, 3, GAINING, 9, 1};
        for (int w = 0; w < 5; w++) due("landing(599, " + w + ")", most.landing(599, w), last[w]);
        noSuch("landing(600, 0)", () -> most.landing(600, 0));
    }

    private static void stops() {
        part(35, "==== 4", "WHEN TO STOP: the first TICK of the RUN in which somebody is hurt; who is then (bits); none.");
        TrampolineMat zero = of("jumper 10 0 0 0 0;jumper 10 0 0 0 0;", 1);
        due("in TICK 0", zero.stop(0), 0);
        due("who", zero.stop(1), 3);
        // In the last TICK of a RUN, and a TICK too late for it.
        TrampolineMat x = of("jumper 10 0 0 0 0;jumper 10 0 5 0 0;jumper 10 0 9 5 0;jumper 10 0 8 5 0;", 6);
        due("in the last TICK", x.stop(0), 5);
        due("who", x.stop(1), 12);
        x.last(5);
        due("too late", x.stop(0), NONE);
        due("nobody", x.stop(1), 0);
        // All who are in that TICK, by several landings of it, and none of a later one.
        TrampolineMat y = of("near 0;jumper 10 0 0 0 0;jumper 10 0 5 0 0;jumper 10 0 0 3 0;jumper 10 0 5 3 0;", 4);
        due("two landings in 3", y.stop(1), 15);
        y.become(3, 0, 4);
        y.last(5);
        due("one in 3, one in 4", y.stop(1), 5);
        due("the first", y.stop(0), 3);
        promise(35, "the TICK (what 0; NONE: none), who is hurt (1; 0 without). NoSuchElementException: another what.");
        for (int what : new int[] {-1, -2, 2, 3}) leavesNoSuch("stop(" + what + ")", z -> z.stop(what));
        for (int what : FAR) leavesNoSuch("stop(" + what + ")", z -> z.stop(what));
        for (int what = 0; what < 2; what++) {
            int w = what;
            leaves("stop(" + w + ")", z -> z.stop(w), Integer.toString(full().stop(w)), NONE);
        }
    }

    private static void overs() {
        part(36, "==== 4", "OVER a height: in how many TICKS of the RUN one is so high or higher by the film; the first of these; none.");
        TrampolineMat x = of("mat 1 9 100;jumper 10 0 9 3 10;", 20);
        // 10 10 10 0 0 0 4 8 9 9 8 4 0 .. 0
        int[][] rows = {{0, 20, 0}, {1, 9, 0}, {4, 9, 0}, {5, 7, 0}, {8, 7, 0}, {9, 5, 0}, {10, 3, 0}, {11, 0, NONE}, {998, 0, NONE}, {999, 0, NONE}};
        for (int[] r : rows) {
            due("over(0, " + r[0] + ", 0)", x.over(0, r[0], 0), r[1]);
            due("over(0, " + r[0] + ", 1)", x.over(0, r[0], 1), r[2]);
        }
        x.become(0, 0, 0);
        // 0 0 0 4 8 9 9 8 4 0
        int[][] later = {{0, 20, 0}, {1, 6, 3}, {4, 6, 3}, {5, 4, 4}, {9, 2, 5}, {10, 0, NONE}};
        for (int[] r : later) {
            due("come at once, over(0, " + r[0] + ", 0)", x.over(0, r[0], 0), r[1]);
            due("come at once, over(0, " + r[0] + ", 1)", x.over(0, r[0], 1), r[2]);
        }
        x.last(5);
        due("to the last TICK", x.over(0, 8, 0), 1);
        due("the last TICK", x.over(0, 8, 1), 4);
        x.last(4);
        due("beyond the last TICK", x.over(0, 8, 0), 0);
        due("beyond the last TICK", x.over(0, 8, 1), NONE);
        x.last(600);
        due("all TICKS", x.over(0, 0, 0), 600);
        promise(36, "IllegalArgumentException (behind that): the height is not 0 to 999.");
        for (int h : new int[] {-1, -2, 1000, 1001}) leavesNotRight("over(0, " + h + ", 1)", y -> y.over(0, h, 1));
        for (int h : FAR) leavesNotRight("over(0, " + h + ", 0)", y -> y.over(0, h, 0));
        leaves("over(0, 0, 0)", y -> y.over(0, 0, 0), "150", NONE);
        leaves("over(0, 999, 1)", y -> y.over(0, 999, 1), "-1", NONE);
        promise(36, "how many TICKS (what 0), the first (1; NONE: none). NoSuchElementException: also another what.");
        for (int h : new int[] {0, 999, -1, 1000, Integer.MAX_VALUE}) {
            for (int what : new int[] {-1, 2, 3, Integer.MIN_VALUE, Integer.MAX_VALUE}) leavesNoSuch("over(0, " + h + ", " + what + ")", y -> y.over(0, h, what));
            for (int j : new int[] {-1, 3, Integer.MIN_VALUE, Integer.MAX_VALUE}) leavesNoSuch("over(" + j + ", " + h + ", 0)", y -> y.over(j, h, 0));
        }
    }
}
