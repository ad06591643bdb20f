/** Promise by promise: ordinary inputs, the edges that the document names, wrong inputs; all answers worked out by hand. */
public final class TrampolineMatPromises extends Mats {
    public static void main(String[] args) {
        promises1to4();
        faultsOfTokens();
        faultsOfLines();
        faultsOfRules();
        promises5and6();
        promises7to10();
        promise11and12();
        knocks();
        edges();
        rulesInForce();
        valuesOfRules();
        promise13();
        promise14();
        promise15();
        promise16();
        promise17();
        promise18();
        promises19and20and34();
        promise21();
        promises22to24();
        promises25to27();
        promise28();
        promises29and30();
        promise31();
        promise32();
        promise33();
        promises35and36();
        promises37and38();
        highest();
        end("all promises are kept");
    }

    private static void promises1to4() {
        TrampolineMat x = new TrampolineMat();
        int[] without = {3, 9, 80, 0, 1, 0, 1, 0, 0, 0, NONE, 200, 0, 0, 0, 0, 0, 0, 0};
        for (int i = 0; i < without.length; i++) due("a new object's count(" + i + ")", x.count(i), without[i]);
        due("a new object's fault()", x.fault(), NONE);
        noSuch("a new object's ran(0, 0)", () -> x.ran(0, 0));

        for (int i = 1; i <= 30; i++) due("feed " + i, x.feed(0x20202020, 0x0a0a0a0a, 0x20202020, 0x20202020, 0x20202020), 20 * i);
        due("feed beyond 600", x.feed(0x20202020, 0, 0, 0, 0), NONE);
        due("count(15) behind it", x.count(15), 600);
        notRight("garden(601)", () -> x.garden(601));
        notRight("garden(-1)", () -> x.garden(-1));
        due("count(15) behind these", x.count(15), 600);
        due("garden(600) of blanks", x.garden(600), 0);
        due("count(15) behind garden", x.count(15), 0);
        notRight("garden(1) of an empty tape", () -> x.garden(1));
        due("garden(0)", x.garden(0), 0);
        // "near" "    " " 5;;" : the highest byte comes first, and the second ; lies beyond the first 11 bytes.
        x.feed(0x6e656172, 0x20202020, 0x20353b3b, 0, -1);
        due("garden(11)", x.garden(11), 0);
        due("count(4)", x.count(4), 5);
        x.feed(0x6e656172, 0x20202020, 0x20363b3b, 0, -1);
        due("garden(12)", x.garden(12), 1);
        due("fault()", x.fault(), 11);
        due("count(4) stays", x.count(4), 5);
        due("count(15) is 0 behind a FAULT", x.count(15), 0);
        notRight("garden(1)", () -> x.garden(1));
        due("fault() stays", x.fault(), 11);
        due("count(16)", x.count(16), 1);
        gardenAnew();
    }

    private static void gardenAnew() {
        TrampolineMat x = of("mat 5 12 90;broken -2;near 3;slips 1 2 3;jumper 10 5 -12 7 9 corrects 4;rule 1;rule 0;egg 5 6 7;");
        x.become(0, 0, 8);
        x.obey(1);
        x.last(50);
        x.find(3);
        x.image();
        x.become(9 - 9, 1, 61);
        x.find(100);
        due("a FAULT", tell(x, "mat 1 1 1;"), 2);
        int[] stays = {5, 12, 90, -2, 3, 1, 2, 3, 1, 2, 1, 50, 3, 3, 1, 0, 1, 1, 1};
        for (int i = 0; i < stays.length; i++) due("behind a FAULT count(" + i + ")", x.count(i), stays[i]);
        due("restore() behind a FAULT", x.restore(), true);
        due("anew", tell(x, "rule 1;"), 0);
        int[] anew = {3, 9, 80, 0, 1, 0, 1, 0, 0, 1, NONE, 200, 0, 0, 0, 0, 1, 1, 1};
        for (int i = 0; i < anew.length; i++) due("anew count(" + i + ")", x.count(i), anew[i]);
        due("fault() anew", x.fault(), NONE);
        due("restore() anew", x.restore(), false);
        due("undo() anew", x.undo(), NONE);
        due("forget() anew", x.forget(), NONE);
    }

    private static void faultsOfTokens() {
        fault("", 0, NONE);
        fault("near 5", 1, 6);
        fault("near 5   ", 1, 9);
        fault("near", 1, 4);
        fault("\n near\n5\n;\n", 0, NONE);
        fault("near\t5;", 1, 4);
        fault("Near 5;", 1, 0);
        fault("nearer 5;", 1, 0);
        fault("near5;", 0, NONE);
        fault("near 5;#", 1, 7);
        fault("near 5;" + (char) 233, 1, 7);
        fault("near 5;" + (char) 0, 1, 7);
        fault("near 0005;", 0, NONE);
        fault("near 00005;", 2, 5);
        fault("12345;", 1, 0);
        fault("near 5 12345;", 1, 7);
        fault(";", 1, 0);
        fault("near 5;;", 1, 7);
        fault("corrects 1;", 1, 0);
        fault("near -5;", 1, 5);
        fault("me;", 1, 0);
    }

    private static void faultsOfLines() {
        fault("mat 9 20 100;", 0, NONE);
        fault("mat 1 3 10;", 0, NONE);
        fault("mat 10 9 80;", 2, 4);
        fault("mat 3 21 80;", 2, 6);
        fault("mat 3 9 101;", 2, 8);
        fault("mat 3 9;", 1, 7);
        fault("mat 3 9 80 1;", 1, 11);
        fault("jumper 5 5 0 0 0;mat 3 9 80;", 4, 17);
        fault("mat 3 9 80;jumper 5 5 0 0 0;mat 3 9 80;", 4, 28);
        fault("mat 3 9 80;mat 3 9 80;", 5, 11);
        fault("broken -3;", 0, NONE);
        fault("broken - 3;", 0, NONE);
        fault("broken 3;", 0, NONE);
        fault("broken -0;", 0, NONE);
        fault("broken --1;", 1, 8);
        fault("broken +1;", 1, 7);
        fault("broken - ;", 1, 9);
        fault("broken 1;broken 1;", 5, 9);
        fault("near 1;near 1;", 5, 7);
        fault("slips 0 0 1;slips 1 1 1;", 5, 12);
        fault("slips 0 0 1;", 0, NONE);
        fault("slips 0 1 0;", 0, NONE);
        fault("slips 1 0 0;", 0, NONE);
        fault("slips 0 0 0;", 2, 10);
        fault("slips 0 10 0;", 2, 8);
        fault("slips 10 0 0;", 2, 6);
        fault("slips 9 9 10;", 2, 10);
        fault("egg;", 0, NONE);
        fault("egg;egg;", 5, 4);
        fault("egg 1 99 1 2 3 4 5 6;", 0, NONE);
        fault("egg 100;", 2, 4);
        fault("egg 1 2 3 4 5 6 7 8 100;", 2, 20);
        fault("egg 1 2 3 4 5 6 7 8 9;", 2, 20);
        fault("egg 1 a;", 1, 6);
        fault("jumper 99 30 9 99 60 corrects 9;", 0, NONE);
        fault("jumper 1 0 -9 0 0 corrects 0;", 0, NONE);
        fault("jumper 100 30 9 99 60;", 2, 7);
        fault("jumper 99 31 9 99 60;", 2, 10);
        fault("jumper 1 0 10 0 0;", 2, 11);
        fault("jumper 1 0 -10 0 0;", 2, 12);
        fault("mat 3 20 80;jumper 1 0 -20 0 0;", 0, NONE);
        fault("mat 3 20 80;jumper 1 0 -21 0 0;", 2, 24);
        fault("mat 3 3 80;jumper 1 0 4 0 0;", 2, 22);
        fault("jumper 1 0 0 0 0 corrects;", 1, 25);
        fault("jumper 1 0 0 0 0 correct 1;", 1, 17);
        fault("jumper 1 0 0 0 0 corrects 1 corrects 1;", 1, 28);
        String four = times("jumper 5 5 0 0 0;", 4);
        fault(four, 0, NONE);
        fault(four + "jumper", 2, 68);
        fault(times("rule 1;", 4), 0, NONE);
        fault(times("rule 1;", 4) + "rule", 2, 28);
        // The first fault along the text counts.
        fault("near 10;mat 0 0 0;", 2, 5);
    }

    private static void faultsOfRules() {
        fault("rule ;", 1, 5);
        fault("rule 9999;", 0, NONE);
        fault("rule 10000;", 2, 5);
        fault("rule 1 10000;", 1, 7);
        fault("rule 1 me;", 1, 7);
        fault("rule 1 not;", 1, 7);
        fault("rule or;", 3, 5);
        fault("rule rule;", 3, 5);
        fault("rule zoo;", 3, 5);
        fault("rule a;", 3, 5);
        fault("rule 1 or and;", 3, 10);
        fault("rule 1+not 1;", 3, 7);
        fault("rule 1=not 1;", 3, 7);
        fault("rule not deep;", 3, 9);
        fault("rule 1<2<3;", 1, 8);
        fault("rule 1=2=3;", 1, 8);
        fault("rule -1;", 1, 5);
        fault("rule 1+;", 1, 7);
        fault("rule ();", 1, 6);
        fault("rule (1));", 1, 8);
        fault("rule (1", 1, 7);
        fault("rule (me<2 and on=1)*2;", 0, NONE);
        fault("rule " + times("(", 5) + "1" + times(")", 5) + ";", 0, NONE);
        fault("rule " + times("(", 6) + "1", 2, 11);
        fault("rule " + times("(", 6) + "deep", 2, 11);
        fault("rule " + times("(", 6) + "not", 2, 11);
        fault("rule " + times("(", 6) + "(", 2, 11);
        fault("rule " + times("(", 6) + ")", 1, 11);
        fault("rule " + times("(", 6) + "-", 1, 11);
        fault("rule " + times("(", 6) + "$", 1, 11);
        fault("rule " + times("(", 6), 1, 11);
        fault("rule " + times("not ", 6) + "1;", 0, NONE);
        fault("rule " + times("not ", 7) + "1;", 2, 29);
        fault("rule " + times("not ", 6) + "(" + times("not ", 6) + "1) and " + times("not ", 6) + "1;", 0, NONE);
    }

    private static void promises5and6() {
        TrampolineMat x = of("mat 5 12 90;broken -2;near 3;slips 1 2 3;jumper 10 5 -12 7 9 corrects 4;jumper 11 6 1 8 10;rule 1;rule 0;egg 5 6 7;");
        int[] counts = {5, 12, 90, -2, 3, 1, 2, 3, 2, 2, NONE, 200, 3, 0, 0, 0, 0, 0, 0};
        for (int i = 0; i < counts.length; i++) due("count(" + i + ")", x.count(i), counts[i]);
        noSuch("count(-1)", () -> x.count(-1));
        noSuch("count(19)", () -> x.count(19));
        int[] first = {10, 5, -12, 7, 9, 4};
        int[] second = {11, 6, 1, 8, 10, 0};
        for (int i = 0; i < 6; i++) {
            due("jumper(0, " + i + ")", x.jumper(0, i), first[i]);
            due("jumper(1, " + i + ")", x.jumper(1, i), second[i]);
        }
        noSuch("jumper(-1, 0)", () -> x.jumper(-1, 0));
        noSuch("jumper(2, 0)", () -> x.jumper(2, 0));
        noSuch("jumper(0, -1)", () -> x.jumper(0, -1));
        noSuch("jumper(0, 6)", () -> x.jumper(0, 6));
    }

    private static void promises7to10() {
        TrampolineMat x = of("jumper 10 5 0 7 9 corrects 4;rule 1;rule 0;");
        due("become START", x.become(0, 0, 99), 7);
        due("become DROP", x.become(0, 1, 60), 9);
        due("become CORRECTS", x.become(0, 2, 9), 4);
        due("jumper START", x.jumper(0, 3), 99);
        due("jumper DROP", x.jumper(0, 4), 60);
        due("jumper CORRECTS", x.jumper(0, 5), 9);
        due("become START 100", x.become(0, 0, 100), NONE);
        due("become DROP 61", x.become(0, 1, 61), NONE);
        due("become CORRECTS 10", x.become(0, 2, 10), NONE);
        due("become START -1", x.become(0, 0, -1), NONE);
        noSuch("become of no JUMPER", () -> x.become(1, 0, 1000));
        noSuch("become of what 3", () -> x.become(0, 3, 1000));
        noSuch("become of what -1", () -> x.become(0, -1, 0));
        due("STATUS 1", x.count(17), 4);
        due("obey(1)", x.obey(1), true);
        due("obey(2)", x.obey(2), false);
        due("obey(-2)", x.obey(-2), false);
        due("count(10)", x.count(10), 1);
        due("obey(NONE)", x.obey(NONE), true);
        due("count(10)", x.count(10), NONE);
        due("last(600)", x.last(600), true);
        due("last(601)", x.last(601), false);
        due("last(0)", x.last(0), false);
        due("last(1)", x.last(1), true);
        due("count(11)", x.count(11), 1);
        due("STATUS 1", x.count(17), 8);
        due("count(13)", x.count(13), 7);
        int[] left = {6, 5, 4, 3, 2, 1, 0, NONE};
        int[] rules = {NONE, NONE, 1, NONE, NONE, NONE, NONE, NONE};
        int[] ticks = {600, 200, 200, 200, 200, 200, 200, 200};
        for (int i = 0; i < left.length; i++) {
            due("undo " + i, x.undo(), left[i]);
            due("the RULE behind undo " + i, x.count(10), rules[i]);
            due("N behind undo " + i, x.count(11), ticks[i]);
        }
        due("START again", x.jumper(0, 3), 7);
        due("DROP again", x.jumper(0, 4), 9);
        due("CORRECTS again", x.jumper(0, 5), 4);
        for (int i = 1; i <= 42; i++) due("become " + i, x.become(0, 0, i), i == 1 ? 7 : i - 1);
        due("ACTS that are kept", x.count(13), 40);
        for (int i = 39; i >= 0; i--) due("undo", x.undo(), i);
        due("undo", x.undo(), NONE);
        due("START by the oldest ACT that is kept", x.jumper(0, 3), 2);
        mixedActs();
    }

    private static void mixedActs() {
        TrampolineMat x = of("jumper 10 5 0 0 0;jumper 10 5 0 0 0;rule 1;rule 0;");
        int[][] stood = new int[64][];
        for (int i = 0; i <= 63; i++) {
            stood[i] = new int[] {x.jumper(0, 3), x.jumper(0, 4), x.jumper(0, 5), x.jumper(1, 3), x.jumper(1, 4), x.jumper(1, 5), x.count(10), x.count(11)};
            if (i == 63) continue;
            if (i % 5 < 3) x.become(i % 2, i % 5, i % 10);
            else if (i % 5 == 3) x.obey(i % 3 - 1);
            else x.last(i + 1);
        }
        for (int i = 62; i >= 23; i--) {
            due("mixed undo", x.undo(), i - 23);
            int[] now = {x.jumper(0, 3), x.jumper(0, 4), x.jumper(0, 5), x.jumper(1, 3), x.jumper(1, 4), x.jumper(1, 5), x.count(10), x.count(11)};
            for (int k = 0; k < now.length; k++) due("mixed undo " + i + " of " + k, now[k], stood[i][k]);
        }
        due("mixed undo", x.undo(), NONE);
    }

    // Lands in 3 (POWER 200), goes in 7 to 10 and 4, lands in 16 (140), goes in 20 to 7 and 4, lands in 27 (110).
    private static final String ALONE = "mat 2 9 50;jumper 10 4 0 3 20;";

    private static void promise11and12() {
        TrampolineMat x = of(ALONE);
        x.last(28);
        int[] ran = {2, 14, 25, 0, 0, 0, 2};
        for (int i = 0; i < ran.length; i++) due("ran(0, " + i + ")", x.ran(0, i), ran[i]);
        due("lands ALONE", x.lands(0, 0), 3);
        for (int i = 1; i < 6; i++) due("lands(0, " + i + ")", x.lands(0, i), 0);
        x.last(27);
        due("in the air at the end", x.ran(0, 6), 1);
        due("lands ALONE", x.lands(0, 0), 2);
        x.last(3);
        due("not come", x.ran(0, 6), 0);
        x.last(4);
        due("come", x.ran(0, 6), 2);
        x.last(7);
        due("the RISE has not ended", x.ran(0, 0), 0);
        x.last(8);
        due("it has", x.ran(0, 0), 1);
        noSuch("ran(1, 0)", () -> x.ran(1, 0));
        noSuch("ran(-1, 0)", () -> x.ran(-1, 0));
        noSuch("ran(0, 7)", () -> x.ran(0, 7));
        noSuch("ran(0, -1)", () -> x.ran(0, -1));
        noSuch("lands(1, 0)", () -> x.lands(1, 0));
        noSuch("lands(0, 6)", () -> x.lands(0, 6));
        noSuch("lands(0, -1)", () -> x.lands(0, -1));
    }

    private static void knocks() {
        TrampolineMat x = of("near 2;jumper 10 0 0 0 10;jumper 20 0 2 0 10;jumper 30 0 1 4 10;");
        x.last(4);
        int[][] kinds = {{1, 0, 1, 0, 0, 1}, {0, 1, 0, 0, 0, 1}, {0, 0, 0, 0, 0, 0}};
        for (int j = 0; j < 3; j++) for (int i = 0; i < 6; i++) due("lands(" + j + ", " + i + ")", x.lands(j, i), kinds[j][i]);
        // The third comes while it rises, on both of them, and is hurt once by it.
        x.last(5);
        int[][] later = {{1, 0, 1, 0, 0, 2}, {0, 1, 0, 0, 0, 2}, {0, 0, 0, 1, 0, 1}};
        for (int j = 0; j < 3; j++) for (int i = 0; i < 6; i++) due("later lands(" + j + ", " + i + ")", x.lands(j, i), later[j][i]);
        due("hurt 0", x.ran(0, 3), 2);
        due("hurt 1", x.ran(1, 3), 2);
        due("hurt 2", x.ran(2, 3), 1);
        due("jarred 2", x.ran(2, 4), 300);
        due("stop(0)", x.stop(0), 0);
        due("stop(1)", x.stop(1), 3);
        TrampolineMat y = of("near 1;jumper 10 0 0 0 10;jumper 20 0 2 0 10;");
        due("not so near", y.ran(0, 3), 0);
        TrampolineMat z = of("near 0;jumper 10 0 -2 0 10;jumper 20 0 -2 0 10;");
        z.last(1);
        due("near 0", z.ran(0, 3), 1);
    }

    private static void edges() {
        // 100 by 80 by 100 by 10: 8, and 10 more; down in 17 at 9 and 9 * 18 / 40.
        TrampolineMat x = of("jumper 10 10 9 0 10;");
        x.last(17);
        due("comes down at", x.ran(0, 5), 13);
        due("in the air", x.ran(0, 6), 1);
        due("hurt", x.ran(0, 3), 0);
        x.last(18);
        int[] ran = {1, 18, 18, 1, 0, 13, 3};
        for (int i = 0; i < ran.length; i++) due("EDGED ran(0, " + i + ")", x.ran(0, i), ran[i]);
        due("EDGED", x.lands(0, 4), 1);
        due("ALONE", x.lands(0, 0), 1);
        int[] landing = {17, 0, 4, 13, 180};
        for (int i = 0; i < 5; i++) due("EDGED landing(1, " + i + ")", x.landing(1, i), landing[i]);
        due("no POWER of his is STORED", x.mat(0), 100);
        x.last(600);
        due("OUT he stays", x.landing(NONE, 0), 2);
        due("OUT he is 0 high", x.film(0, 300), 0);
        TrampolineMat y = of("broken -3;jumper 10 10 -9 0 10 corrects 9;");
        y.last(10);
        // -9 and -4 and -3, then 9 nearer to 0.
        due("corrected", y.ran(0, 5), -7);
        y.become(0, 2, 5);
        due("corrected less", y.ran(0, 5), -11);
        TrampolineMat z = of("broken 2;jumper 10 10 0 0 10 corrects 9;");
        z.last(10);
        due("not beyond 0", z.ran(0, 5), 0);
        z.become(0, 2, 1);
        due("one nearer", z.ran(0, 5), 1);
        TrampolineMat b = of("broken -2;jumper 10 10 0 0 10 corrects 9;");
        b.last(10);
        due("not beyond 0 from below", b.ran(0, 5), 0);
        jars();
    }

    private static void jars() {
        TrampolineMat y = of("mat 1 9 100;jumper 10 0 0 0 1;jumper 7 4 5 1 10;jumper 7 4 -5 2 10;");
        y.last(3);
        due("jarred away by both", y.mat(1), 140);
        TrampolineMat z = of("mat 1 9 100;jumper 10 0 0 0 2;jumper 7 4 5 1 10;");
        // The first comes in 0 and 5; the second is jarred in 1, goes in 3 to 4, and in 7, ahead of the end of THE RISE, he is jarred again.
        z.last(8);
        due("the first comes again in 5", z.landing(2, 0), 5);
        due("the second comes again in 7", z.landing(3, 0), 7);
        due("jarred twice", z.ran(1, 4), 98);
        due("jarred away", z.mat(1), 98);
    }

    private static void rulesInForce() {
        TrampolineMat x = of("jumper 10 4 0 0 10;rule 0;rule tick=10;rule height<5;rule 1;");
        x.obey(0);
        due("nobody goes", x.ran(0, 0), 0);
        due("the RISE ended", x.mat(3), 1);
        due("what was STORED is gone", x.mat(4), 0);
        due("nobody had of it", x.mat(2), 0);
        x.obey(1);
        // Not in 6, but as one of THE OTHERS in 10, to LEGS: down in 14.
        due("goes once", x.ran(0, 0), 1);
        due("to LEGS", x.ran(0, 1), 4);
        due("down in", x.landing(1, 0), 14);
        x.obey(2);
        // THE TAKER may not go to 12, but in the same TICK to LEGS; then 40 by 80 by 100 by 10: 3 and 4.
        due("the same TICK", x.landing(1, 0), 10);
        due("to LEGS each time", x.ran(0, 1), 4);
        x.obey(3);
        // 12, then 9 and 4, 10 and 4, 11 and 4, and 12 and 4 from then on.
        due("a RULE that holds", x.ran(0, 1), 16);
        TrampolineMat y = of("jumper 10 0 0 0 10;rule height<5;");
        y.obey(0);
        due("without LEGS he stays", y.ran(0, 0), 0);
        // Who gained in 2 and may not go in 6 has been there for 6 TICKS in 8.
        TrampolineMat z = of("jumper 10 0 -5 0 10;jumper 10 4 5 2 10;rule height<5;");
        z.obey(0);
        due("the second goes in 8", z.landing(2, 0), 12);
    }

    private static void valuesOfRules() {
        String[] hold = {"1", "9999", "me=0", "weight=10", "height=16", "place=5", "tick=6", "up=0", "on=1", "heavier=1",
            "1-2-3=0-4", "8/4/2=1", "7/2*2=6", "(0-7)/2=0-3", "5/0=0", "2+3*4=14", "(2+3)*4=20", "not 0", "not not 5", "not 1=2", "(not 5)=0",
            "1 or 0 and 0", "0 or 2", "(2 and 3)=1", "(0 or 7)=1", "(not 0)+(1<2)+(2=2)=3", "9999*9999*9999<0", "3-4",
            "not 0 and 1", "1<2", "2-1<1+1", "not(1 and 0)"};
        String[] not = {"0", "not 1", "me", "up", "1=2", "2<1", "1<1", "1 and 0", "0 or 0", "heavier=0", "tick<6", "(0-7)/2=0-4", "1/0", "2-2", "not not not 1"};
        for (String e : hold) due("rule " + e + " holds", holds(e), true);
        for (String e : not) due("rule " + e + " holds", holds(e), false);
        TrampolineMat x = of("jumper 10 5 0 0 10;jumper 10 5 5 0 10;jumper 10 5 9 0 10;rule up<1;rule on=2 or me=2;");
        x.obey(0);
        x.last(7);
        // In 6 the third goes as THE TAKER; from then on one is in the air.
        due("up", x.ran(0, 0) + 10 * x.ran(1, 0) + 100 * x.ran(2, 0), 100);
        x.obey(1);
        due("on", x.ran(0, 0) + 10 * x.ran(1, 0) + 100 * x.ran(2, 0), 100);
        // The last one lands in 1 and would go in 6; three others lie there, two of whom weigh more.
        String four = "jumper 30 0 -9 0 0;jumper 20 0 -5 0 0;jumper 21 0 0 0 0;jumper 20 0 5 1 0;";
        TrampolineMat y = of(four + "rule on=3 and heavier=2 and me=3 and up=0;");
        y.obey(0);
        y.last(7);
        due("on and heavier", y.ran(3, 0), 1);
    }

    private static void promise13() {
        TrampolineMat x = of(ALONE);
        int[] ticks = {0, 2, 3, 6, 7, 8, 11, 12, 15, 16};
        int[] high = {20, 20, 0, 0, 0, 5, 13, 13, 5, 0};
        for (int i = 0; i < ticks.length; i++) due("film(0, " + ticks[i] + ")", x.film(0, ticks[i]), high[i]);
        noSuch("film(0, -1)", () -> x.film(0, -1));
        noSuch("film(0, 200)", () -> x.film(0, 200));
        noSuch("film(1, 0)", () -> x.film(1, 0));
        x.last(9);
        due("film(0, 8)", x.film(0, 8), 5);
        noSuch("film(0, 9)", () -> x.film(0, 9));
    }

    private static void promise14() {
        TrampolineMat x = of(ALONE);
        x.last(28);
        int[] mat = {450, 0, 170, 2, 110};
        for (int i = 0; i < 5; i++) due("mat(" + i + ")", x.mat(i), mat[i]);
        noSuch("mat(-1)", () -> x.mat(-1));
        noSuch("mat(5)", () -> x.mat(5));
        // Who lands in the TICK in which THE RISE ends is jarred ahead of it.
        TrampolineMat y = of("mat 2 9 50;jumper 10 0 0 3 20;jumper 7 0 5 7 10;");
        y.last(8);
        due("jarred away", y.mat(1), 70);
        due("JARRING", y.lands(1, 3), 1);
        due("the RISE ended", y.mat(3), 1);
        // 200 by 55 by 100 by 7: 15, so he had 105 of 110.
        TrampolineMat z = of("mat 2 9 55;jumper 20 0 0 3 10;jumper 7 0 5 4 0;");
        z.last(8);
        due("had of it", z.mat(2), 105);
    }

    private static void promise15() {
        TrampolineMat x = of("mat 2 9 50;jumper 10 4 0 3 20;jumper 7 0 5 4 10;jumper 6 1 -5 5 10;");
        x.last(6);
        int[][] landings = {{3, 0, 0, 0, 200}, {4, 1, 1, 5, 70}, {5, 2, 3, -5, 60}};
        due("how many", x.landing(NONE, 0), 3);
        for (int i = 0; i < 3; i++) for (int w = 0; w < 5; w++) due("landing(" + i + ", " + w + ")", x.landing(i, w), landings[i][w]);
        noSuch("landing(3, 0)", () -> x.landing(3, 0));
        noSuch("landing(0, 5)", () -> x.landing(0, 5));
        noSuch("landing(0, -1)", () -> x.landing(0, -1));
        noSuch("landing(-1, 1)", () -> x.landing(-1, 1));
        noSuch("landing(-2, 0)", () -> x.landing(-2, 0));
        // The shortest way round: two TICKS there, two in the air, for four.
        TrampolineMat y = of("mat 1 9 10;near 0;jumper 1 1 0 0 0;jumper 1 1 3 0 0;jumper 1 1 6 0 0;jumper 1 1 9 0 0;");
        y.last(600);
        due("all landings", y.landing(NONE, 0), 600);
        due("the last one's TICK", y.landing(599, 0), 596);
        noSuch("landing(600, 0)", () -> y.landing(600, 0));
    }

    private static final String TWO = "mat 3 9 100;jumper 10 0 0 5 10;jumper 20 0 5 5 10;";

    private static void promise16() {
        TrampolineMat x = of(TWO);
        due("moment by height", x.moment(1, 0), 5);
        due("moment by FUN", x.moment(1, 1), 5);
        due("moment by jarring", x.moment(1, 2), 0);
        x.become(1, 0, 60);
        due("his own START counts for nothing", x.moment(1, 0), 5);
        due("START stays", x.jumper(1, 3), 60);
        // He comes down once, from 60, and over the edge: from 39 to 41 he takes what the first stored, too.
        TrampolineMat y = of("mat 3 9 100;jumper 10 0 0 39 10;jumper 20 0 9 0 60;");
        due("START 39 is one of them", y.moment(1, 0), 39);
        y.become(0, 0, 40);
        due("START 40 is none", y.moment(1, 0), 0);
        noSuch("moment(2, 0)", () -> x.moment(2, 0));
        noSuch("moment(0, 3)", () -> x.moment(0, 3));
        noSuch("moment(0, -1)", () -> x.moment(0, -1));
    }

    private static void promise17() {
        TrampolineMat x = of("mat 1 9 100;jumper 10 0 5 0 4;jumper 10 0 1 10 20;");
        // 0, 6, 12 (jarred, and without LEGS) and 10, 24, 38 ..
        due("first", x.step(0, 1, 0), 10);
        due("last", x.step(0, 1, 1), 26);
        due("out of step", x.step(1, 0, 2), 1);
        due("first", x.step(1, 0, 0), 10);
        due("never in step", x.step(0, 1, 3), NONE);
        x.last(10);
        due("no first", x.step(0, 1, 0), NONE);
        due("no last", x.step(0, 1, 1), NONE);
        due("neither", x.step(0, 1, 2), 0);
        due("none", x.step(0, 1, 3), NONE);
        noSuch("step(0, 2, 0)", () -> x.step(0, 2, 0));
        noSuch("step(0, 0, 4)", () -> x.step(0, 0, 4));
        notRight("step(1, 1, 0)", () -> x.step(1, 1, 0));
        // 0, 10, 20 and 2, 10, 25.
        TrampolineMat y = of("mat 3 9 100;jumper 10 5 0 0 0;jumper 10 5 5 2 0;");
        y.last(11);
        due("into step", y.step(0, 1, 2), -1);
        due("first", y.step(0, 1, 0), 2);
        due("last", y.step(0, 1, 1), 0);
        due("from the second on", y.step(0, 1, 3), 1);
        y.last(26);
        due("out again", y.step(0, 1, 2), 1);
        due("none", y.step(0, 1, 3), NONE);
        // An EDGED landing is none of these: in 17, as in edges(), beside one that comes in 17.
        TrampolineMat z = of("jumper 10 10 9 0 10;jumper 10 0 0 17 0;");
        due("but EDGED ones", z.step(0, 1, 1), 17);
        TrampolineMat three = of("jumper 10 0 0 3 10;jumper 10 0 9 1 10;jumper 10 0 -9 2 10;");
        due("of three", three.step(0, 1, 0), 2);
        due("of three", three.step(2, 0, 0), 1);
        due("of three", three.step(2, 1, 0), 1);
    }

    private static void promise18() {
        // To 4 he stays at 9; to 5 he comes down at 10, in TICK 10.
        TrampolineMat x = of("mat 3 9 100;jumper 10 0 9 0 60;jumper 10 0 -9 99 0;");
        due("danger", x.danger(0), 5);
        due("of who comes late: another is hurt by what he does himself", x.danger(1), 0);
        x.last(11);
        due("just in time", x.danger(0), 5);
        x.last(10);
        due("too soon", x.danger(0), NONE);
        due("DROP stays", x.jumper(0, 4), 60);
        // From 8 up to 60 it is 20, up to 59 only 19.
        TrampolineMat y = of("mat 3 19 100;jumper 10 0 8 0 0;");
        y.last(39);
        due("danger from 60", y.danger(0), 60);
        noSuch("danger(2)", () -> x.danger(2));
        noSuch("danger(-1)", () -> x.danger(-1));
    }

    private static void promises19and20and34() {
        TrampolineMat x = of("jumper 10 0 0 0 0;jumper 30 0 1 0 0;jumper 20 0 9 0 0;");
        due("pairs", x.pairs(), 2);
        due("apart", x.apart(), 11);
        due("atOnce", x.atOnce(), 5);
        TrampolineMat y = of("jumper 10 0 0 0 0;jumper 30 0 1 0 0;jumper 50 0 9 0 0;");
        due("no law", y.apart(), NONE);
        TrampolineMat z = of("jumper 10 0 0 0 0;jumper 30 0 9 0 0;jumper 50 0 8 0 0;jumper 70 0 -9 0 0;");
        due("pairs of the middle", z.pairs(), 1 << 6);
        due("atOnce of four", z.atOnce(), 11);
        TrampolineMat one = of("jumper 10 0 9 0 60;");
        due("pairs of one", one.pairs(), 0);
        due("apart of one", one.apart(), 0);
        due("nobody at once", one.atOnce(), 0);
        due("the first alone", of("jumper 10 0 0 0 0;jumper 30 0 0 0 0;").atOnce(), 1);
        TrampolineMat like = of("jumper 99 0 0 0 0;jumper 1 0 9 0 0;");
        due("the law above all", like.apart(), 99);
    }

    private static void promise21() {
        TrampolineMat x = of(TWO);
        due("without(0, 1)", x.without(0, 1), 10);
        due("without(1, 0)", x.without(1, 0), -5);
        noSuch("without(0, 2)", () -> x.without(0, 2));
        noSuch("without(2, 2)", () -> x.without(2, 2));
        notRight("without(1, 1)", () -> x.without(1, 1));
    }

    private static void promises22to24() {
        TrampolineMat x = of("mat 3 3 100;slips 1 2 3;");
        // From 3 one to the right (3 of 6) falls at once.
        due("falls upper", x.falls(3, 0, 0, 1, 0), 1);
        due("falls lower", x.falls(3, 0, 0, 1, 1), 2);
        // Then of those at 3 (2 of 6) half, of those at 2 none: 3 * 6 + 2 * 3 of 36.
        due("falls upper", x.falls(3, 0, 0, 2, 0), 2);
        due("falls lower", x.falls(3, 0, 0, 2, 1), 3);
        due("at 3 upper", x.wanders(3, 0, 0, 2, 3, 0), 7);
        due("at 3 lower", x.wanders(3, 0, 0, 2, 3, 1), 36);
        due("fallen ones are at no place", x.wanders(3, 0, 0, 2, 4, 0), 0);
        due("0 by 1", x.wanders(3, 0, 0, 2, 4, 1), 1);
        due("far away", x.wanders(3, 0, 0, 2, Integer.MIN_VALUE, 0), 0);
        due("no jump", x.falls(3, 0, 0, 0, 0), 0);
        due("no jump", x.falls(3, 0, 0, 0, 1), 1);
        due("no jump at", x.wanders(3, 60, 9, 0, 3, 0), 1);
        due("no jump at", x.wanders(3, 60, 9, 0, 3, 1), 1);
        // 3 and 3 * 20 / 40, two nearer to 0: at 2 ahead of the slip.
        due("behind all else", x.wanders(3, 20, 2, 1, 3, 0), 1);
        due("behind all else", x.wanders(3, 20, 2, 1, 3, 1), 2);
        due("correct", x.correct(3, 20, 1), 2);
        due("correct without jumps", x.correct(3, 20, 0), 0);
        due("correct by 9", of("").correct(9, 40, 1), 9);
        TrampolineMat wide = of("mat 3 20 80;slips 1 1 1;");
        due("at 20", wide.wanders(19, 0, 0, 1, 20, 1), 3);
        due("at -20", wide.wanders(-19, 0, 0, 1, -20, 1), 3);
        due("from 20", wide.falls(20, 0, 0, 1, 1), 3);
        due("from -20", wide.wanders(-20, 0, 0, 1, -19, 1), 3);
        TrampolineMat most = of("slips 9 9 9;");
        due("27 to the 12th", most.wanders(0, 0, 0, 12, 9, 1) % 3, 0);
        noSuch("falls what", () -> x.falls(9, 0, 0, 1, 2));
        noSuch("falls what", () -> x.falls(0, 0, 0, 1, -1));
        noSuch("wanders what", () -> x.wanders(9, 0, 0, 1, 0, 2));
        int[][] bad = {{4, 0, 0, 1}, {-4, 0, 0, 1}, {0, 61, 0, 1}, {0, -1, 0, 1}, {0, 0, 10, 1}, {0, 0, -1, 1}, {0, 0, 0, 13}, {0, 0, 0, -1}};
        for (int[] b : bad) {
            notRight("falls", () -> x.falls(b[0], b[1], b[2], b[3], 0));
            notRight("wanders", () -> x.wanders(b[0], b[1], b[2], b[3], 0, 0));
            if (b[2] == 0) notRight("correct", () -> x.correct(b[0], b[1], b[3]));
        }
    }

    private static void promises25to27() {
        TrampolineMat x = new TrampolineMat();
        due("find(99)", x.find(99), 1);
        due("find(-99)", x.find(-99), 2);
        due("find(100)", x.find(100), NONE);
        due("find(-100)", x.find(-100), NONE);
        due("STATUS 2", x.count(18), 2);
        due("none fits", x.broken(0), 0);
        due("forget()", x.forget(), 1);
        due("forget()", x.forget(), 0);
        due("forget()", x.forget(), NONE);
        due("of none all fit", x.broken(60), 127);
        // 10 and 10 * 10 / 40 and -3, then 9 and 9 * 10 / 40 and -3.
        x.find(10);
        x.find(9);
        x.find(8);
        due("broken(10)", x.broken(10), 1);
        due("broken(0)", x.broken(0), 4);
        due("broken(8): 10 and 2 and -3, 9 and 1 and -2", x.broken(8), 0);
        for (int i = 4; i <= 20; i++) due("find", x.find(0), i);
        due("the 21st", x.find(0), NONE);
        due("STATUS 2", x.count(18), 3);
        due("places", x.count(14), 20);
        notRight("broken(61)", () -> x.broken(61));
        notRight("broken(-1)", () -> x.broken(-1));
        TrampolineMat far = new TrampolineMat();
        far.find(0);
        far.find(32);
        due("too far", far.broken(0), 0);
        far.forget();
        far.find(-32);
        due("too far below", far.broken(0), 0);
        TrampolineMat y = new TrampolineMat();
        y.find(-10);
        y.find(-9);
        // -10 and -2 (cut down to 0) and 3.
        due("below 0", y.broken(10), 64);
    }

    private static void promise28() {
        TrampolineMat x = of("jumper 10 4 0 0 10;jumper 10 4 5 0 20;jumper 10 4 -5 0 0;");
        due("neither has come", x.second(0, 1, 0, 10, 20, 0), 529);
        due("the first later", x.second(0, 1, 0, 10, 20, 1), 253);
        due("both have", x.second(0, 1, 0, 0, 0, 0), 1);
        due("the other way", x.second(1, 0, 0, 0, 10, 0), 23);
        due("the first later", x.second(1, 0, 0, 0, 10, 1), 0);
        due("the first later", x.second(0, 1, 0, 10, 0, 1), 23);
        due("never so high", x.second(0, 1, 0, 11, 20, 0), 0);
        x.last(1);
        noSuch("second: no TICK", () -> x.second(0, 1, 1, 0, 0, 0));
        noSuch("second: no TICK", () -> x.second(0, 0, -1, 0, 0, 0));
        noSuch("second: what", () -> x.second(0, 0, 0, 0, 0, 2));
        noSuch("second: no JUMPER", () -> x.second(0, 3, 0, 0, 0, 0));
        notRight("second: both are one", () -> x.second(1, 1, 0, 0, 0, 0));
    }

    private static void promises29and30() {
        TrampolineMat x = of("mat 3 9 100;jumper 10 0 9 0 10;rule 1;rule 0;rule height<5;");
        due("none: hurts", x.compare(NONE, 0), 1);
        due("none: FUN", x.compare(NONE, 1), 10);
        due("1: hurts", x.compare(0, 0), 1);
        due("0: hurts", x.compare(1, 0), 0);
        due("0: FUN", x.compare(1, 1), 0);
        due("best", x.best(), 1);
        x.obey(2);
        due("whatever is in force", x.compare(NONE, 1), 10);
        due("best", x.best(), 1);
        noSuch("compare(3, 0)", () -> x.compare(3, 0));
        noSuch("compare(-2, 0)", () -> x.compare(-2, 0));
        noSuch("compare(0, 2)", () -> x.compare(0, 2));
        due("none ahead of like ones", of("jumper 10 0 0 0 10;rule 1;").best(), NONE);
        due("the most FUN of like ones", of("jumper 10 5 0 0 10;rule 0;rule 1;").best(), NONE);
        due("the first of like ones", of("jumper 10 10 9 0 10;rule 0;rule 0;").best(), 0);
        due("of like hurts the most FUN", of("jumper 10 10 9 0 10;rule 0;rule height<1;rule height<11 and tick<7;").best(), 0);
        due("the most FUN", of("jumper 10 3 9 0 10;rule 0;rule height<4;").best(), 1);
    }

    private static void eggDue(String pushes, long upper, long lower, long m) {
        TrampolineMat x = of("egg " + pushes + ";");
        due("egg(0) of " + pushes, x.egg(0), upper);
        due("egg(1) of " + pushes, x.egg(1), lower);
        due("egg(2) of " + pushes, x.egg(2), m);
    }

    private static void promise31() {
        eggDue("", 0, 1, 0);
        eggDue("10", 0, 1, 0);
        eggDue("1 5 5", 5, 2, 2);
        eggDue("4 2 4", 2, 1, 2);
        eggDue("1 1 1 1 1 1 1 1", 7, 8, 8);
        eggDue("99 99 99 99 99 99 99 99", 693, 8, 8);
        eggDue("3 5", 15, 8, 2);
        noSuch("egg(3)", () -> new TrampolineMat().egg(3));
        noSuch("egg(-1)", () -> new TrampolineMat().egg(-1));
    }

    private static void promise32() {
        // The draws of seed 1: 16838, 5758, 10113, 17515, 31051, 5627; of 40: 38, 38, 33, 35, 11, 27.
        TrampolineMat x = of("mat 3 9 100;jumper 10 0 0 0 10;");
        due("most", x.afternoons(1, 1, 1), 120);
        due("most", x.afternoons(1, 2, 1), 120);
        due("most", x.afternoons(1, 3, 1), 130);
        due("most", x.afternoons(1, 5, 1), 150);
        due("hurts", x.afternoons(1, 5, 0), 0);
        due("nobody", x.afternoons(1, 5, 2), 5);
        for (int i = 0; i < 3; i++) due("of no afternoons", x.afternoons(1, 0, i), 0);
        due("START stays", x.jumper(0, 3), 0);
        TrampolineMat y = of("mat 3 9 100;jumper 10 0 0 0 10;jumper 10 0 0 0 10;");
        y.last(39);
        due("hurts of two", y.afternoons(1, 1, 0), 2);
        due("hurts of two", y.afternoons(1, 2, 0), 4);
        due("hurts of two", y.afternoons(1, 3, 0), 8);
        due("nobody", y.afternoons(1, 3, 2), 0);
        y.last(38);
        due("nobody in the first", y.afternoons(1, 1, 2), 1);
        due("any seed", of("").afternoons(Integer.MIN_VALUE, 40, 2), 40);
        notRight("afternoons(1, 41, 0)", () -> x.afternoons(1, 41, 0));
        notRight("afternoons(1, -1, 0)", () -> x.afternoons(1, -1, 0));
        noSuch("afternoons(1, 41, 3)", () -> x.afternoons(1, 41, 3));
        noSuch("afternoons(1, 1, -1)", () -> x.afternoons(1, 1, -1));
    }

    private static void promise33() {
        TrampolineMat x = of("mat 3 20 100;broken 1;");
        due("none jumps", x.safe(0, 0, 0), (1L << 41) - 1);
        due("one jump", x.safe(0, 0, 1), (1L << 40) - 1);
        due("many, corrected", x.safe(0, 1, 100), (1L << 41) - 1);
        // Up to 40 it is twice the place and 1: -10 to 9 stay for one jump, -5 to 4 for two.
        due("height 40", x.safe(40, 0, 1), bits(-10, 9));
        due("height 40 twice", x.safe(40, 0, 2), bits(-5, 4));
        due("EDGE", of("mat 3 3 100;").safe(60, 9, 0), bits(-3, 3));
        notRight("safe(61, 0, 0)", () -> x.safe(61, 0, 0));
        notRight("safe(-1, 0, 0)", () -> x.safe(-1, 0, 0));
        notRight("safe(0, 10, 0)", () -> x.safe(0, 10, 0));
        notRight("safe(0, -1, 0)", () -> x.safe(0, -1, 0));
        notRight("safe(0, 0, 101)", () -> x.safe(0, 0, 101));
        notRight("safe(0, 0, -1)", () -> x.safe(0, 0, -1));
    }

    private static long bits(int least, int most) {
        long bits = 0;
        for (int p = least; p <= most; p++) bits |= 1L << 20 + p;
        return bits;
    }

    private static void promises35and36() {
        TrampolineMat x = of("jumper 10 10 9 0 10;jumper 10 0 -5 99 10;");
        due("stop(0)", x.stop(0), 17);
        due("stop(1)", x.stop(1), 1);
        x.last(17);
        due("stop(0)", x.stop(0), NONE);
        due("stop(1)", x.stop(1), 0);
        noSuch("stop(2)", () -> x.stop(2));
        noSuch("stop(-1)", () -> x.stop(-1));
        TrampolineMat y = of(ALONE);
        y.last(16);
        // 20 20 20 0 0 0 0 0 5 9 12 13 13 12 9 5
        due("over 0", y.over(0, 0, 0), 16);
        due("over 0", y.over(0, 0, 1), 0);
        due("over 13", y.over(0, 13, 0), 5);
        due("over 20", y.over(0, 20, 0), 3);
        due("over 21", y.over(0, 21, 0), 0);
        due("over 21", y.over(0, 21, 1), NONE);
        y.become(0, 0, 0);
        y.last(13);
        due("over 13, come at once", y.over(0, 13, 0), 2);
        due("over 13, the first", y.over(0, 13, 1), 8);
        due("over 999", y.over(0, 999, 0), 0);
        notRight("over(0, 1000, 0)", () -> y.over(0, 1000, 0));
        notRight("over(0, -1, 0)", () -> y.over(0, -1, 0));
        noSuch("over(0, 1000, 2)", () -> y.over(0, 1000, 2));
        noSuch("over(1, -1, 0)", () -> y.over(1, -1, 0));
    }

    private static void promises37and38() {
        TrampolineMat x = of("jumper 10 5 0 7 9 corrects 4;rule 1;rule 0;");
        due("restore() without", x.restore(), false);
        x.become(0, 0, 8);
        x.find(5);
        x.image();
        x.become(0, 0, 9);
        x.become(0, 1, 1);
        x.become(0, 2, 1);
        x.obey(1);
        x.last(20);
        x.find(6);
        x.find(200);
        due("restore()", x.restore(), true);
        int[] stands = {8, 9, 4};
        for (int i = 0; i < 3; i++) due("jumper(0, " + (3 + i) + ")", x.jumper(0, 3 + i), stands[i]);
        due("the RULE", x.count(10), NONE);
        due("N", x.count(11), 200);
        due("ACTS", x.count(13), 1);
        due("places", x.count(14), 1);
        due("STATUS stays", x.count(18), 1);
        due("undo()", x.undo(), 0);
        due("START", x.jumper(0, 3), 7);
        x.forget();
        due("restore() again", x.restore(), true);
        due("START", x.jumper(0, 3), 8);
        due("places", x.count(14), 1);
        x.last(30);
        x.image();
        x.last(40);
        x.restore();
        due("the later image", x.count(11), 30);
        due("the tape stays", x.feed(0, 0, 0, 0, 0), 20);
        x.restore();
        due("the tape stays", x.count(15), 20);
    }

    private static void highest() {
        // One of 1 takes what one of 99 brings from 60: 5941, but 999 at most.
        TrampolineMat x = of("mat 3 20 100;jumper 99 0 -5 0 60;jumper 1 30 0 1 1;");
        x.last(600);
        due("999 at most", x.ran(1, 1), 999);
        due("ahead of the 999, and 999 in 513", x.mat(2), 5941 + 999);
        // In 6 he goes, for 501 TICKS; in the middle he is as high as can be.
        due("down in", x.landing(2, 0), 507);
        due("in the middle", x.film(1, 256), 998);
        // 4 * 999 * 243 * 258 is just 998 * 501 * 501 or more.
        due("over 998", x.over(1, 998, 1), 6 + 243);
        due("over 998", x.over(1, 998, 0), 2 * (250 - 243 + 1));
        due("POWER", x.landing(2, 4), 999);
    }
}
