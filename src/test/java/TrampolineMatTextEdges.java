import java.util.function.ToIntFunction;

/** The document's 'Terms' and promises 1 to 4: every bound of a text and of the tape, on both sides. */
public final class TrampolineMatTextEdges extends Mats {
    private static final String TERMS = "Terms";
    private static final String JUMPER = "jumper 5 5 0 0 0;";
    private static final String[] VALUES = {"me", "weight", "height", "place", "tick", "up", "on", "heavier"};

    public static void main(String[] args) {
        boundsOfTheMat();
        boundsOfSlips();
        boundsOfJumpers();
        howManyMayBeTold();
        tokens();
        everyByte();
        lines();
        signedOnes();
        faultsThatMeet();
        onlyOnce();
        partsOfRules();
        depthOfRules();
        nots();
        sums();
        tests();
        aNewObject();
        feed();
        gardenOfTheTape();
        gardenAnew();
        nothingIsLeft();
        placeOfTheFault();
        end("the edges of texts hold");
    }

    /** From least to most it stands, and the next one on each side is FAULT 2 at the NUMBER (below 0: FAULT 1 at the '-'). */
    private static void bounds(String ahead, int least, int most, String behind, ToIntFunction<TrampolineMat> told) {
        for (int v : new int[] {least, least + 1, most - 1, most}) {
            due("what '" + ahead + v + behind + "' tells", told.applyAsInt(of(ahead + v + behind)), v);
        }
        fault(ahead + (least - 1) + behind, least > 0 ? 2 : 1, ahead.length());
        for (int v : new int[] {most + 1, 9999}) fault(ahead + v + behind, 2, ahead.length());
    }

    /** Likewise from -most to most of a SIGNED, the FAULT always at the NUMBER. */
    private static void signedBounds(String ahead, int most, String behind, ToIntFunction<TrampolineMat> told) {
        for (int v : new int[] {-most, 1 - most, -1, 0, 1, most - 1, most}) {
            due("what '" + ahead + v + behind + "' tells", told.applyAsInt(of(ahead + v + behind)), v);
        }
        for (int v : new int[] {most + 1, 9999}) {
            fault(ahead + v + behind, 2, ahead.length());
            fault(ahead + -v + behind, 2, ahead.length() + 1);
            fault(ahead + "- \n" + v + behind, 2, ahead.length() + 3);
        }
    }

    private static void boundsOfTheMat() {
        part(3, TERMS, "SINKS so many TICKS (1 to 9; 3 without)");
        bounds("mat ", 1, 9, " 9 80;", x -> x.count(0));
        due("without", of("").count(0), 3);
        part(3, TERMS, "EDGE (3 to 20; 9 without)");
        bounds("mat 3 ", 3, 20, " 80;", x -> x.count(1));
        due("without", of("").count(1), 9);
        part(3, TERMS, "so much of 100 is KEPT (10 to 100; 80 without)");
        bounds("mat 3 9 ", 10, 100, ";", x -> x.count(2));
        due("without", of("").count(2), 80);
        part(3, TERMS, "BROKEN (-3 to 3; 0 without)");
        signedBounds("broken ", 3, ";", x -> x.count(3));
        due("without", of("").count(3), 0);
        part(3, TERMS, "NEAR (0 to 9; 1 without)");
        bounds("near ", 0, 9, ";", x -> x.count(4));
        due("without", of("").count(4), 1);
    }

    private static void boundsOfSlips() {
        part(3, TERMS, "weights (0 to 9) of one to the left, none, one to the right (0, 1, 0 without)");
        bounds("slips ", 0, 9, " 1 1;", x -> x.count(5));
        bounds("slips 1 ", 0, 9, " 1;", x -> x.count(6));
        bounds("slips 1 1 ", 0, 9, ";", x -> x.count(7));
        for (int i = 0; i < 3; i++) due("without, " + i, of("").count(5 + i), i == 1 ? 1 : 0);
        part(3, TERMS, "the third of SLIPS, if all are 0");
        fault("slips 0 0 0;", 2, 10);
        fault("slips 0 0 0", 2, 10);
        fault("slips 00 000 0000;", 2, 13);
        fault("slips 0 0 10;", 2, 10);
        bounds("slips 0 0 ", 1, 9, ";", x -> x.count(7));
        for (String one : new String[] {"1 0 0", "0 1 0", "0 0 1"}) good("slips " + one + ";");
    }

    private static void boundsOfJumpers() {
        part(3, TERMS, "WEIGHT (1 to 99)");
        bounds("jumper ", 1, 99, " 5 0 0 0;", x -> x.jumper(0, 0));
        part(3, TERMS, "LEGS (0 to 30)");
        bounds("jumper 5 ", 0, 30, " 0 0 0;", x -> x.jumper(0, 1));
        part(3, TERMS, "a PLACE (-20 to 20, no farther from 0 than EDGE)");
        signedBounds("mat 3 20 80;jumper 5 5 ", 20, " 0 0;", x -> x.jumper(0, 2));
        signedBounds("mat 3 3 80;jumper 5 5 ", 3, " 0 0;", x -> x.jumper(0, 2));
        signedBounds("jumper 5 5 ", 9, " 0 0;", x -> x.jumper(0, 2));
        part(3, TERMS, "a PLACE beyond EDGE as it is by then");
        // An EDGE told by a text ahead counts for nothing.
        TrampolineMat x = of("mat 3 20 80;jumper 5 5 20 0 0;");
        due("PLACE 10 in the next text", tell(x, "jumper 5 5 10 0 0;"), 2);
        due("fault()", x.fault(), 11);
        due("PLACE 9 in the next text", tell(x, "jumper 5 5 9 0 0;"), 0);
        part(3, TERMS, "START (0 to 99)");
        bounds("jumper 5 5 0 ", 0, 99, " 0;", y -> y.jumper(0, 3));
        part(3, TERMS, "DROP (0 to 60)");
        bounds("jumper 5 5 0 0 ", 0, 60, ";", y -> y.jumper(0, 4));
        part(3, TERMS, "CORRECTS (0 to 9; 0 without)");
        bounds("jumper 5 5 0 0 0 corrects ", 0, 9, ";", y -> y.jumper(0, 5));
        due("without", of(JUMPER).jumper(0, 5), 0);
        due("without, behind one with", of("jumper 5 5 0 0 0 corrects 9;" + JUMPER).jumper(1, 5), 0);
        TrampolineMat y = of("jumper 5 5 0 0 0 corrects 9;");
        // Each text's rows may be used again for the text behind the next one.
        tell(y, "");
        tell(y, JUMPER);
        due("without, in a later text", y.jumper(0, 5), 0);
    }

    private static void howManyMayBeTold() {
        part(3, TERMS, "JUMPERS 0, 1 .. (at most 4)");
        for (int i = 0; i <= 4; i++) due("JUMPERS", of(times(JUMPER, i)).count(8), i);
        part(3, TERMS, "the first TOKEN of the 5th JUMPER, the 5th RULE, the 9th PUSH");
        fault(times(JUMPER, 4) + "jumper", 2, 68);
        fault(times(JUMPER, 4) + " \n" + JUMPER, 2, 70);
        fault(times(JUMPER, 4) + "jumpers", 1, 68);
        fault(times("rule 1;", 4) + "rule", 2, 28);
        fault(times("rule 1;", 4) + " rule deep;", 2, 29);
        fault("egg 1 2 3 4 5 6 7 8 9;", 2, 20);
        fault("egg 1 2 3 4 5 6 7 8 0;", 2, 20);
        fault("egg 1 2 3 4 5 6 7 8 12345;", 2, 20);
        fault("egg 1 2 3 4 5 6 7 8 a;", 1, 20);
        part(3, TERMS, "RULES 0, 1 .. (at most 4)");
        for (int i = 0; i <= 4; i++) due("RULES", of(times("rule 1;", i)).count(9), i);
        good(times(JUMPER, 4) + times("rule 1;", 4));
        part(3, TERMS, "PUSHES (at most 8; 1 to 99)");
        for (int i = 0; i <= 8; i++) due("PUSHES", of("egg" + times(" 5", i) + ";").count(12), i);
        due("no egg at all", of("").count(12), 0);
        // A PUSH of 1 beside one of 99, and of 99 twice: both bounds can be told apart by what the opener gains.
        due("1 and 99", of("egg 1 99;").egg(0), 99);
        due("1 and 99", of("egg 1 99;").egg(1), 100);
        due("99 and 99", of("egg 99 99;").egg(0), 99);
        due("99 and 99", of("egg 99 99;").egg(1), 2);
        for (int i = 0; i < 8; i++) {
            fault("egg" + times(" 9", i) + " 0;", 2, 4 + 2 * i);
            fault("egg" + times(" 9", i) + " 100;", 2, 4 + 2 * i);
            good("egg" + times(" 9", i) + " 1;");
            good("egg" + times(" 9", i) + " 99;");
        }
    }

    private static void tokens() {
        part(3, TERMS, "words (a .. z, the longest row)");
        fault("nearnear 5;", 1, 0);
        fault("nea r 5;", 1, 0);
        fault("matt 3 9 80;", 1, 0);
        fault("ma 3 9 80;", 1, 0);
        fault("Mat 3 9 80;", 1, 0);
        fault("maT 3 9 80;", 1, 0);
        good("near5;slips0 1 0;egg1;");
        good("jumper5 5 0 0 0corrects9;");
        fault("rule notme;", 3, 5);
        good("rule not me;rule 1or 1;rule 1 and(1);");
        part(3, TERMS, "NUMBERS (1 to 4 digits)");
        for (String five : new String[] {"5", "05", "005", "0005"}) due("near " + five, of("near " + five + ";").count(4), 5);
        due("9999", holds("9999=9*1111"), true);
        due("0000", holds("0000=0"), true);
        part(3, TERMS, "a NUMBER of 5 digits or more");
        fault("near 00005;", 2, 5);
        fault("near 99999;", 2, 5);
        fault("near 4294967301;", 2, 5);
        fault("near " + times("0", 300) + "5;", 2, 5);
        fault("rule 10000;", 2, 5);
        fault("rule 00000;", 2, 5);
        fault("rule 1+4294967297;", 2, 7);
        fault("broken -00001;", 2, 8);
        fault("jumper 00005 5 0 0 0;", 2, 7);
        part(3, TERMS, "blanks (32, 10) between them count for nothing");
        good(" \n \n");
        due("blanks round all", of("\n near \n\n 7 \n ; \n").count(4), 7);
        due("no blanks", of("near7;").count(4), 7);
        fault("ne ar 7;", 1, 0);
        due("a blank ends a NUMBER", of("slips1 2\n3;").count(7), 3);
        fault("near 1 2;", 1, 7);
    }

    private static boolean isBlank(int b) {
        return b == 32 || b == 10;
    }

    private static void everyByte() {
        part(3, TERMS, "signs ; ( ) + - * / < =");
        String join = "+-*/<=";
        for (int b = 0; b < 256; b++) {
            char c = (char) b;
            boolean letter = b >= 97 && b <= 122;
            boolean digit = b >= 48 && b <= 57;
            if (digit || join.indexOf(c) >= 0) good("rule 1" + c + "1;");
            else fault("rule 1" + c + "1;", 1, isBlank(b) || c == ';' ? 7 : 6);
            if (letter) fault("rule " + c + ";", 3, 5);
            else if (!digit && !isBlank(b)) fault("rule " + c + ";", 1, c == '(' ? 6 : 5);
        }
        part(3, TERMS, "1 a TOKEN that can't stand there, or is none");
        for (int b = 0; b < 256; b++) {
            fault("near 5;" + (char) b, isBlank(b) ? 0 : 1, isBlank(b) ? NONE : 7);
            boolean number = b >= 48 && b <= 57;
            fault("near" + (char) b + ";", number ? 0 : 1, number ? NONE : b >= 97 && b <= 122 ? 0 : isBlank(b) ? 5 : 4);
        }
        part(3, TERMS, "(the text's length where it ends too soon)");
        String text = "jumper 5 5 -1 0 0 corrects 1;";
        for (int i = 0; i < text.length(); i++) {
            // A word that is cut off is another word: it can't stand there itself.
            int place = i == 0 ? NONE : i < 6 ? 0 : i > 18 && i < 26 ? 18 : i;
            fault(text.substring(0, i), i == 0 ? 0 : 1, place);
        }
        fault("near", 1, 4);
        fault("near \n ", 1, 7);
        fault("near 5", 1, 6);
        fault("near 5 \n", 1, 8);
        fault("rule 1+", 1, 7);
        fault("rule (1", 1, 7);
        fault("rule (1 ", 1, 8);
        fault("rule not", 1, 8);
        fault("egg", 1, 3);
        fault("egg 1 2 3 4 5 6 7 8", 1, 19);
        fault("broken -", 1, 8);
        fault(times("rule 1;", 4) + times(" ", 564) + "near 5;x", 1, 599);
        fault(times(" ", 594) + "near 5", 1, 600);
        good(times(" ", 593) + "near 5;");
    }

    private static void lines() {
        part(3, TERMS, "GARDEN: LINE*");
        good("");
        good("near 5;");
        fault(";", 1, 0);
        fault("near 5;;", 1, 7);
        part(3, TERMS, "'mat' SINKS EDGE KEPT");
        fault("mat;", 1, 3);
        fault("mat 3;", 1, 5);
        fault("mat 3 9;", 1, 7);
        fault("mat 3 9 80 80;", 1, 11);
        fault("mat 3 9 80", 1, 10);
        fault("mat -3 9 80;", 1, 4);
        part(3, TERMS, "'near' NUMBER");
        fault("near;", 1, 4);
        fault("near 1 1;", 1, 7);
        fault("near near;", 1, 5);
        part(3, TERMS, "'slips' NUMBER NUMBER NUMBER");
        fault("slips;", 1, 5);
        fault("slips 1;", 1, 7);
        fault("slips 1 1;", 1, 9);
        fault("slips 1 1 1 1;", 1, 12);
        part(3, TERMS, "'jumper' WEIGHT LEGS SIGNED START DROP ['corrects' NUMBER]");
        fault("jumper;", 1, 6);
        fault("jumper 5;", 1, 8);
        fault("jumper 5 5;", 1, 10);
        fault("jumper 5 5 0;", 1, 12);
        fault("jumper 5 5 0 0;", 1, 14);
        good("jumper 5 5 0 0 0;");
        fault("jumper 5 5 0 0 0 0;", 1, 17);
        fault("jumper 5 5 0 0 0 correct 1;", 1, 17);
        fault("jumper 5 5 0 0 0 corrects;", 1, 25);
        fault("jumper 5 5 0 0 0 corrects -1;", 1, 26);
        fault("jumper 5 5 0 0 0 corrects 1 1;", 1, 28);
        fault("jumper 5 5 0 0 0 corrects 1 corrects 1;", 1, 28);
        fault("jumper 5 5 0 0 corrects 1;", 1, 15);
        fault("corrects 1;", 1, 0);
        fault("jumper -5 5 0 0 0;", 1, 7);
        fault("jumper 5 -5 0 0 0;", 1, 9);
        fault("jumper 5 5 0 -1 0;", 1, 13);
        fault("jumper 5 5 0 0 -1;", 1, 15);
        part(3, TERMS, "'egg' PUSH*");
        good("egg;");
        fault("egg -1;", 1, 4);
        fault("egg 1,2;", 1, 5);
    }

    private static void signedOnes() {
        part(3, TERMS, "SIGNED: ['-'] NUMBER");
        due("-0", of("broken -0;").count(3), 0);
        due("- 3", of("broken -\n3;").count(3), -3);
        fault("broken --1;", 1, 8);
        fault("broken +1;", 1, 7);
        fault("broken -;", 1, 8);
        fault("broken ;", 1, 7);
        fault("broken 1-1;", 1, 8);
        fault("broken -me;", 1, 8);
        part(3, TERMS, "of a SIGNED at the NUMBER");
        fault("broken 4;", 2, 7);
        fault("broken -4;", 2, 8);
        fault("broken -   4;", 2, 11);
        fault("jumper 5 5 - 10 0 0;", 2, 13);
    }

    private static void faultsThatMeet() {
        part(3, TERMS, "FAULTS, the first along the text");
        fault("near 10;mat 0 0 0;", 2, 5);
        fault("rule deep;near 10;", 3, 5);
        fault("rule 1;near 1;near 1;rule deep", 5, 14);
        fault("near 1 2 12345;", 1, 7);
        part(3, TERMS, "at a TOKEN's first byte, of one TOKEN the least");
        // 1 ahead of 2: a NUMBER of 5 digits where none can stand.
        fault("12345", 1, 0);
        fault("near 1 12345;", 1, 7);
        fault("rule 1 12345;", 1, 7);
        fault("rule me 12345;", 1, 8);
        fault("jumper 5 5 0 0 0 12345;", 1, 17);
        fault("12345 near", 1, 0);
        // 1 ahead of 3: a word where no PART must stand.
        fault("rule 1 deep;", 1, 7);
        fault("rule (1 deep);", 1, 8);
        fault("near deep;", 1, 5);
        // 2 ahead of 3: a word that begins an EXPR within 6 others.
        fault("rule ((((((deep", 2, 11);
        // 4 ahead of 5: a second 'mat' behind a JUMPER.
        fault("mat 3 9 80;" + JUMPER + "mat 3 9 80;", 4, 28);
    }

    private static void onlyOnce() {
        part(3, TERMS, "4 'mat' once a JUMPER was told");
        fault(JUMPER + "mat 3 9 80;", 4, 17);
        fault(JUMPER + "mat", 4, 17);
        fault(JUMPER + "near 1;egg;mat 3 9 80;", 4, 28);
        good("near 1;egg;rule 1;slips 1 1 1;broken 1;mat 3 9 80;" + JUMPER);
        good(JUMPER + "near 1;egg;rule 1;slips 1 1 1;broken 1;" + JUMPER);
        part(3, TERMS, "5 a second 'mat', 'broken', 'near', 'slips', 'egg'");
        String[] lines = {"mat 3 9 80;", "broken 0;", "near 1;", "slips 0 1 0;", "egg;"};
        for (String line : lines) {
            good(line);
            fault(line + line, 5, line.length());
            fault(line + line.substring(0, line.length() - 1), 5, line.length());
            for (String other : lines) if (!other.equals(line)) fault(line + other + line, 5, line.length() + other.length());
        }
        TrampolineMat x = new TrampolineMat();
        for (int i = 0; i < 3; i++) due("each of them again in the next text", tell(x, String.join("", lines)), 0);
        good("rule 1;rule 1;" + JUMPER + JUMPER);
    }

    private static void partsOfRules() {
        part(3, TERMS, "3 any word where a PART must stand that is no VALUE");
        for (String word : new String[] {"deep", "a", "z", "or", "and", "mat", "mee", "m", "heavie", "heaviers", "rule", "corrects", "others"}) {
            fault("rule " + word + ";", 3, 5);
            fault("rule (" + word + ");", 3, 6);
            fault("rule not " + word + ";", 3, 9);
            for (String sign : new String[] {"+", "-", "*", "/", "<", "="}) fault("rule 1" + sign + word + ";", 3, 7);
            fault("rule 1 or " + word + ";", 3, 10);
            fault("rule 1 and " + word + ";", 3, 11);
        }
        // 'not' begins a NOT, but no PART.
        for (String sign : new String[] {"+", "-", "*", "/", "<", "="}) fault("rule 1" + sign + "not 1;", 3, 7);
        for (String value : VALUES) good("rule " + value + ";rule (" + value + ");rule not " + value + ";rule 1<" + value + "+" + value + ";");
        part(3, TERMS, "PART: NUMBER | VALUE | '(' EXPR ')'");
        fault("rule ;", 1, 5);
        fault("rule ();", 1, 6);
        fault("rule (1;", 1, 7);
        fault("rule 1);", 1, 6);
        fault("rule (1));", 1, 8);
        fault("rule -1;", 1, 5);
        fault("rule 1 1;", 1, 7);
        fault("rule 1(1);", 1, 6);
        fault("rule me me;", 1, 8);
        for (String sign : new String[] {"+", "-", "*", "/", "<", "=", " or ", " and "}) {
            fault("rule 1" + sign + ";", 1, 6 + sign.length());
            if (sign.length() == 1) fault("rule " + sign + "1;", 1, 5);
        }
        part(3, TERMS, "SUM [('<' | '=') SUM]");
        for (String a : new String[] {"<", "="}) {
            good("rule 1" + a + "2;");
            for (String b : new String[] {"<", "="}) {
                fault("rule 1" + a + "2" + b + "3;", 1, 8);
                good("rule (1" + a + "2)" + b + "3;rule 1" + a + "2 or 1" + b + "2;");
            }
        }
    }

    private static void depthOfRules() {
        part(3, TERMS, "of an EXPR within 6 others (a NUMBER, any word, a parenthesis)");
        for (int i = 0; i <= 5; i++) good("rule " + times("(", i) + "1" + times(")", i) + ";");
        String six = "rule " + times("(", 6);
        fault(six + "1))))));", 2, 11);
        for (String first : new String[] {"0", "9999", "12345", "me", "not", "deep", "or", "(", "((", "rule"}) fault(six + first, 2, 11);
        for (String first : new String[] {")", ";", "+", "<", "A", ""}) fault(six + first, 1, 11);
        fault("rule " + times("( ", 6) + "1", 2, 17);
        fault("rule 1+(not (1<(1 or (1 and (1*(1", 2, 32);
        good("rule 1+(not (1<(1 or (1 and (1)))));");
        // Not how many there are, but how many lie within one another.
        good("rule (1)*(1)*(1)*(1)*(1)*(1)*(1)*(1);");
        good("rule (((((1)))))*(((((1)))));");
        fault("rule (((((1)))))*((((((1))))));", 2, 23);
        good("rule (((((1)))));rule (((((1)))));");
        good("rule ((((1-(me)))));");
        fault("rule (((((1-(me))))));", 2, 13);
    }

    private static void nots() {
        part(3, TERMS, "the seventh 'not' side by side");
        for (int i = 1; i <= 6; i++) due(i + " of them", holds(times("not ", i) + "1"), i % 2 == 0);
        for (int i = 7; i <= 20; i++) fault("rule " + times("not ", i) + "1;", 2, 29);
        fault("rule " + times("not\n\n", 6) + " not", 2, 36);
        fault("rule " + times("not ", 6) + "deep;", 3, 29);
        fault("rule " + times("not ", 6) + ";", 1, 29);
        String six = times("not ", 6);
        good("rule " + six + "1 and " + six + "1 or " + six + "(" + six + "1<2);");
        fault("rule " + six + "1 and " + six + "not 1;", 2, 5 + 24 + 6 + 24);
        fault("rule 1 or (" + six + "not 1);", 2, 11 + 24);
        part(3, TERMS, "NOT: 'not' NOT");
        due("not of the whole test", holds("not 0<0"), true);
        due("not of the whole test", holds("not 1=0"), true);
        due("not binds more than and", holds("not 1 and 0"), false);
        due("not binds more than or", holds("not 0 or 1"), true);
        due("not 1 or 1", holds("not 1 or 1"), true);
    }

    private static void sums() {
        // 8192 * 8192 * 32 is 2 to the 31st: the least int.
        String least = "8192*8192*32";
        part(3, TERMS, "ints that wrap");
        String[] hold = {least + "<0", "0<" + least + "-1", least + "-1+1=" + least, "8192*8192*64=0", least + "*3=" + least, "0-" + least + "=" + least,
            "8192*8192*16+8192*8192*16<0", least + "+" + least + "=0"};
        for (String e : hold) due("rule " + e, holds(e), true);
        int cube = 9999 * 9999 * 9999;
        String told = (cube < 0 ? "0-" : "") + Math.abs(cube) / 9999 / 9999 + "*9999*9999" + (cube < 0 ? "-" : "+") + Math.abs(cube) / 9999 % 9999 + "*9999"
            + (cube < 0 ? "-" : "+") + Math.abs(cube) % 9999;
        due("9999*9999*9999 is " + told, holds("9999*9999*9999=" + told), true);
        due(least + " less 1 is above 1", holds("1<" + least + "-1"), true);
        due("a test is no difference", holds(least + "<1"), true);
        due("a test is no difference", holds("1<" + least), false);
        due("the least by -1", holds(least + "/(0-1)=" + least), true);
        part(3, TERMS, "/ cut down to 0");
        String[] cut = {"7/2=3", "(0-7)/2=0-3", "7/(0-2)=0-3", "(0-7)/(0-2)=3", "1/2=0", "(0-1)/2=0", "9999/9999=1", "9998/9999=0", "0/5=0"};
        for (String e : cut) due("rule " + e, holds(e), true);
        part(3, TERMS, "by 0 gives 0");
        String[] by = {"1/0=0", "0/0=0", "(0-1)/0=0", least + "/0=0", "9999/(me-me)=0", "5/0*3+1=1", "not 1/0"};
        for (String e : by) due("rule " + e, holds(e), true);
        due("rule 1/0", holds("1/0"), false);
        part(3, TERMS, "From the left");
        String[] left = {"9-4-3=2", "9-4+3=8", "64/8/4=2", "64/8*4=32", "2*9/4=4", "9/4*2=4", "1+2*3-4/2=5", "2*3+4*5=26"};
        for (String e : left) due("rule " + e, holds(e), true);
    }

    private static void tests() {
        part(3, TERMS, "tests, not, and, or are 1 or 0 (what isn't 0 holds)");
        String[] one = {"5=5", "4<5", "not 0", "2 and 3", "0 or 7", "7 or 0", "not not 9", "(0-1) and 2", "5 or 6"};
        String[] nought = {"5=4", "4=5", "5<5", "5<4", "not 1", "not 9", "not (0-1)", "0 and 1", "1 and 0", "0 and 0", "0 or 0"};
        for (String e : one) {
            due("(" + e + ")=1", holds("(" + e + ")=1"), true);
            due(e, holds(e), true);
        }
        for (String e : nought) {
            due("(" + e + ")=0", holds("(" + e + ")=0"), true);
            due(e, holds(e), false);
        }
        for (String e : new String[] {"1", "9999", "0-1", "8192*8192*32"}) due(e + " holds", holds(e), true);
        due("0 does not", holds("0"), false);
        due("a PART keeps its worth in parentheses", holds("(5)=5"), true);
        // Behind others that wait for it.
        String[] behind = {"1 and not 0", "0 or not 0", "5=5 and not 1=2", "1+(not 0)=2", "2*(not 1)=0", "1<1+(not 0)", "7=7 and (0 or not not 3)", "9-(8-(7-(6-(5-4))))=3"};
        for (String e : behind) due(e, holds(e), true);
        due("1 and not 1", holds("1 and not 1"), false);
        due("0 or not 1", holds("0 or not 1"), false);
        // As deep as may be, with as much waiting at each step: it holds only if each of them does.
        String deep = "1";
        for (int i = 0; i <= 5; i++) deep = "0 or 1 and 5=3+2*" + (i == 0 ? deep : "(" + deep + ")");
        due(deep, holds(deep), true);
        due("and one off", holds(deep.replace("2*1", "2*2")), false);
        // As long as may be: 600 bytes in all.
        TrampolineMat x = new TrampolineMat();
        for (int i = 0; i < 5; i++) {
            due("a text of 600 bytes", tell(x, "jumper 1 0 0 0 0;rule 1" + times("+1", 286) + "=287;"), 0);
            x.obey(0);
            x.last(7);
            due("287 ones", x.ran(0, 0), 1);
            due("a text of 600 bytes", tell(x, "jumper 1 0 0 0 0;rule 1" + times("+1", 286) + "=286;"), 0);
            x.obey(0);
            x.last(7);
            due("not 286", x.ran(0, 0), 0);
        }
        part(3, TERMS, "AND: NOT ('and' NOT)*");
        fault("rule 1 and and 1;", 3, 11);
        fault("rule 1 and or 1;", 3, 11);
        good("rule not 1 and not 1 and not not 1;");
        part(3, TERMS, "SUM: PRODUCT (('+' | '-') PRODUCT)*. PRODUCT: PART (('*' | '/') PART)*.");
        for (String a : new String[] {"+", "-", "*", "/"}) for (String b : new String[] {"+", "-", "*", "/"}) fault("rule 1" + a + b + "1;", 1, 7);
        for (String e : new String[] {"1+1<1+1+1", "2*3=7-1", "1+1=1*2", "2-1<1+1", "1+2*3<2*2*2"}) due(e, holds(e), true);
        part(3, TERMS, "EXPR: AND ('or' AND)*");
        due("and binds more", holds("1 or 1 and 0"), true);
        due("and binds more", holds("0 and 0 or 1"), true);
        due("by parentheses", holds("(1 or 1) and 0"), false);
        due("many", holds("0" + times(" or 0", 20) + " or 1"), true);
        due("many", holds("1" + times(" and 1", 20) + " and 0"), false);
        due("many", holds("9999" + times("-1", 40) + "=9959"), true);
        due("many", holds("1" + times("*2", 30) + "=8192*8192*16"), true);
    }

    private static void aNewObject() {
        part(1, "The constants", "`NONE = -1`: There is none.");
        due("NONE", TrampolineMat.NONE, -1);
        promise(1, "A MAT as without all, no JUMPERS.");
        TrampolineMat x = new TrampolineMat();
        int[] without = {3, 9, 80, 0, 1, 0, 1, 0, 0, 0, NONE, 200, 0, 0, 0, 0, 0, 0, 0};
        for (int i = 0; i < without.length; i++) due("count(" + i + ")", x.count(i), without[i]);
        due("fault()", x.fault(), NONE);
        due("undo()", x.undo(), NONE);
        due("forget()", x.forget(), NONE);
        due("restore()", x.restore(), false);
        due("pairs()", x.pairs(), 0);
        due("apart()", x.apart(), 0);
        due("atOnce()", x.atOnce(), 0);
        due("best()", x.best(), NONE);
        due("stop(0)", x.stop(0), NONE);
        due("stop(1)", x.stop(1), 0);
        due("landing(NONE, 0)", x.landing(NONE, 0), 0);
        for (int i = 0; i < 5; i++) due("mat(" + i + ")", x.mat(i), 0);
        for (int i = 0; i < 3; i++) due("egg(" + i + ")", x.egg(i), i == 1 ? 1 : 0);
        due("broken(60)", x.broken(60), 127);
        due("compare(NONE, 0)", x.compare(NONE, 0), 0);
        due("compare(NONE, 1)", x.compare(NONE, 1), 0);
        due("afternoons(7, 40, 2)", x.afternoons(7, 40, 2), 40);
        due("falls(9, 0, 0, 12, 0)", x.falls(9, 0, 0, 12, 0), 0);
        due("safe(0, 0, 100)", x.safe(0, 0, 100), (1L << 30) - (1L << 11));
        noSuch("jumper(0, 0)", () -> x.jumper(0, 0));
        noSuch("ran(0, 0)", () -> x.ran(0, 0));
        noSuch("danger(0)", () -> x.danger(0));
        noSuch("without(0, 0)", () -> x.without(0, 0));
        due("garden(0)", x.garden(0), 0);
    }

    private static void feed() {
        promise(2, "Twenty bytes come behind the tape, of each number the highest first");
        for (int at = 0; at < 20; at++) {
            for (int b : new int[] {0, 1, 35, 127, 128, 255}) {
                int[] w = {0x20202020, 0x20202020, 0x20202020, 0x20202020, 0x20202020};
                int shift = 24 - at % 4 * 8;
                w[at / 4] = w[at / 4] & ~(255 << shift) | b << shift;
                TrampolineMat x = new TrampolineMat();
                x.feed(0x6e656172, 0x20353b20, 0x0a0a0a0a, 0x20202020, 0x20202020);
                due("feed", x.feed(w[0], w[1], w[2], w[3], w[4]), 40);
                due("garden(40) with " + b + " at " + (20 + at), x.garden(40), 1);
                due("fault()", x.fault(), 20 + at);
            }
        }
        part(2, TERMS, "A TEXT of at most 600 bytes tells it.");
        TrampolineMat whole = new TrampolineMat();
        due("600 bytes", tell(whole, times(" ", 590) + "near    7;"), 0);
        due("count(4)", whole.count(4), 7);
        promise(2, "how many it has; NONE, and none come, if it would have more than 600");
        TrampolineMat x = new TrampolineMat();
        for (int i = 1; i <= 30; i++) {
            due("feed " + i, x.feed(0x20202020, 0x20202020, 0x20202020, 0x20202020, i == 30 ? 0x2065673b : 0x20202020), 20 * i);
            due("count(15)", x.count(15), 20 * i);
        }
        for (int i = 0; i < 3; i++) due("feed 31", x.feed(-1, -1, -1, -1, -1), NONE);
        for (int way = 0; way < Looks.WAYS; way++) {
            TrampolineMat y = fullToTheEnd();
            due("feed beyond 600", y.feed(-1, -1, -1, -1, -1), NONE);
            due("what is seen behind it", Looks.at(y, way, NONE), Looks.at(fullToTheEnd(), way, NONE));
        }
        due("count(15)", x.count(15), 600);
        // The last of the 600 are ' eg;': what was told stands at its place.
        due("garden(600)", x.garden(600), 1);
        due("fault()", x.fault(), 597);
        due("feed anew", x.feed(0x6e656172, 0x20353b20, 0x20202020, 0x20202020, 0x20202020), 20);
        due("garden(20): nothing is left of the others", x.garden(20), 0);
        due("count(4)", x.count(4), 5);
        for (int i = 1; i <= 30; i++) due("feed " + i + " anew", x.feed(0, 0, 0, 0, 0), 20 * i);
        due("feed 31 anew", x.feed(0, 0, 0, 0, 0), NONE);
    }

    private static TrampolineMat fullToTheEnd() {
        TrampolineMat x = full();
        for (int i = 1; i < 30; i++) due("feed", x.feed(0x20202020, 0x20202020, 0x20202020, 0x20202020, 0x20202020), 20 + 20 * i);
        return x;
    }

    private static void gardenOfTheTape() {
        promise(3, "The tape's first n bytes (it is empty then) are a GARDEN");
        // "near 5;;" and twelve bytes that are no TOKENS.
        for (int n = 0; n <= 20; n++) {
            TrampolineMat x = new TrampolineMat();
            x.feed(0x6e656172, 0x20353b3b, 0, 0, 0);
            due("garden(" + n + ")", x.garden(n), n == 0 || n == 7 ? 0 : 1);
            due("count(4)", x.count(4), n == 7 ? 5 : 1);
            due("count(15)", x.count(15), 0);
            notRight("garden(1) then", () -> x.garden(1));
            due("garden(0) then", x.garden(0), 0);
        }
        // A TOKEN ends with the text, whatever comes behind it on the tape.
        String[] cut = {"near 5|5;", "near 0005|5;", "near 5;rule me|e;", "near 5|", "egg 9|9", "rule (1|)", "rule 1 or me| or 1"};
        for (String c : cut) {
            TrampolineMat x = new TrampolineMat();
            int n = c.indexOf('|');
            feedAll(x, c.replace("|", "").getBytes());
            due("the first " + n + " bytes of '" + c.replace("|", "") + "'", x.garden(n), 1);
            due("fault()", x.fault(), n);
        }
        TrampolineMat older = new TrampolineMat();
        due("a longer text", tell(older, "near 5;" + times("near 7;", 30)), 5);
        due("what it told is nothing to a shorter one", tell(older, "near 6;"), 0);
        due("what it told is nothing to a shorter one", tell(older, "near"), 1);
        due("fault()", older.fault(), 4);
        promise(3, "IllegalArgumentException: the tape has not so many, n below 0 (nothing changes).");
        TrampolineMat x = new TrampolineMat();
        due("a FAULT ahead", tell(x, "near 55;"), 2);
        notRight("garden(1) of an empty tape", () -> x.garden(1));
        x.feed(0x6e656172, 0x20353b20, 0x20202020, 0x20202020, 0x20202020);
        for (int n : new int[] {-1, -2, 21, 22, 600, 601}) notRight("garden(" + n + ")", () -> x.garden(n));
        for (int n : FAR) notRight("garden(" + n + ")", () -> x.garden(n));
        due("count(15)", x.count(15), 20);
        due("count(16)", x.count(16), 1);
        due("fault()", x.fault(), 5);
        due("garden(20)", x.garden(20), 0);
        due("count(4)", x.count(4), 5);
        for (int n : new int[] {-1, -2, 21, 22, 601}) leavesNotRight("garden(" + n + ")", y -> y.garden(n));
        for (int n : FAR) leavesNotRight("garden(" + n + ")", y -> y.garden(n));
        TrampolineMat full = new TrampolineMat();
        for (int i = 0; i < 30; i++) full.feed(0x20202020, 0x20202020, 0x20202020, 0x20202020, 0x20202020);
        notRight("garden(601) of a full tape", () -> full.garden(601));
        due("garden(600) of a full tape", full.garden(600), 0);
    }

    private static void gardenAnew() {
        String all = "mat 5 12 90;broken -2;near 3;slips 1 2 3;jumper 10 5 -12 7 9 corrects 4;rule 1;rule 0;egg 5 6 7;";
        promise(3, "0, or the FAULT (all stays)");
        // Whatever is told ahead of the FAULT, and whichever it is.
        String[] bad = {"x", "near 10;", "rule deep;", "jumper 1 1 1 1 1;mat 3 9 80;", "near 1;near 1;",
            "mat 9 20 10;broken 3;near 9;slips 9 9 9;" + times(JUMPER, 4) + times("rule 0;", 4) + "egg 1 1 1 1 1 1 1 1 1;"};
        int[] which = {1, 2, 3, 4, 5, 2};
        for (int i = 0; i < bad.length; i++) {
            TrampolineMat x = changed(all);
            due("garden of '" + bad[i] + "'", tell(x, bad[i]), which[i]);
            int[] stays = {5, 12, 90, -2, 3, 1, 2, 3, 1, 2, 1, 50, 3, 3, 1, 0, 1, 1, 1};
            for (int k = 0; k < stays.length; k++) due("count(" + k + ") behind '" + bad[i] + "'", x.count(k), stays[k]);
            int[] jumper = {10, 5, -12, 8, 9, 4};
            for (int k = 0; k < 6; k++) due("jumper(0, " + k + ")", x.jumper(0, k), jumper[k]);
            due("egg(2)", x.egg(2), 3);
            due("the RULE in force is still 0", x.ran(0, 0), 0);
            due("undo()", x.undo(), 2);
            due("restore()", x.restore(), true);
            due("its N", x.count(11), 200);
        }
        promise(3, "ACTS, places, the RULE in force, the image are gone, N is 200 (STATUS stays)");
        for (String next : new String[] {"", "\n", all}) {
            TrampolineMat x = changed(all);
            due("a FAULT", tell(x, "x"), 1);
            due("garden of '" + next + "'", tell(x, next), 0);
            int[] told = next.equals(all) ? new int[] {5, 12, 90, -2, 3, 1, 2, 3, 1, 2} : new int[] {3, 9, 80, 0, 1, 0, 1, 0, 0, 0};
            for (int k = 0; k < told.length; k++) due("count(" + k + ")", x.count(k), told[k]);
            int[] gone = {NONE, 200, next.equals(all) ? 3 : 0, 0, 0, 0, 1, 1, 1};
            for (int k = 0; k < gone.length; k++) due("count(" + (10 + k) + ")", x.count(10 + k), gone[k]);
            due("undo()", x.undo(), NONE);
            due("forget()", x.forget(), NONE);
            due("restore()", x.restore(), false);
            due("egg(2)", x.egg(2), next.equals(all) ? 3 : 0);
            if (next.equals(all)) due("START as told", x.jumper(0, 3), 7);
            else noSuch("jumper(0, 0)", () -> x.jumper(0, 0));
        }
    }

    private static void nothingIsLeft() {
        promise(3, "are a GARDEN, all anew");
        String full = "mat 5 12 90;broken -2;near 3;slips 1 2 3;" + times("jumper 10 5 -12 7 9 corrects 4;", 4) + times("rule 0;", 4) + "egg 5 6 7 8 9 10 11 12;";
        int[] without = {3, 9, 80, 0, 1, 0, 1, 0, 0, 0};
        // Behind one text or two of this kind, whole or up to a FAULT at its end, and behind the empty text once or twice.
        String[][] rows = {{full, ""}, {full, "", ""}, {full, full, ""}, {full, full, "", ""}, {full + "x", ""}, {full, full + "x", ""}, {full + "x", "", ""}};
        for (String[] texts : rows) {
            TrampolineMat x = new TrampolineMat();
            for (String text : texts) {
                due("garden", tell(x, text), text.endsWith("x") ? 1 : 0);
                for (int i = 0; i < 3; i++) x.egg(i);
            }
            for (int k = 0; k < without.length; k++) due("count(" + k + ")", x.count(k), without[k]);
            due("count(12)", x.count(12), 0);
            for (int i = 0; i < 3; i++) due("egg(" + i + ")", x.egg(i), i == 1 ? 1 : 0);
            // Nor is anything left in the way of what comes next.
            due("garden", tell(x, "jumper 1 2 3 4 5;rule 1;egg 3;"), 0);
            int[] jumper = {1, 2, 3, 4, 5, 0};
            for (int k = 0; k < 6; k++) due("jumper(0, " + k + ")", x.jumper(0, k), jumper[k]);
            due("JUMPERS", x.count(8), 1);
            due("RULES", x.count(9), 1);
            due("PUSHES", x.count(12), 1);
            due("egg(2) of one PUSH", x.egg(2), 0);
            due("egg(0) of one PUSH", x.egg(0), 0);
            x.obey(0);
            due("by the RULE that is told he goes", x.ran(0, 0) > 0, true);
            due("garden", tell(x, full), 0);
            due("JUMPERS", x.count(8), 4);
            due("RULES", x.count(9), 4);
            due("PUSHES", x.count(12), 8);
            x.obey(3);
            due("by the RULE that is told nobody goes", x.ran(3, 0), 0);
        }
    }

    /** An image, then three ACTS, a place and a refused one of each. */
    private static TrampolineMat changed(String text) {
        TrampolineMat x = of(text);
        x.image();
        x.become(0, 0, 8);
        x.obey(1);
        x.last(50);
        x.find(3);
        x.find(100);
        x.last(0);
        return x;
    }

    private static void placeOfTheFault() {
        promise(4, "The place of the latest garden()'s FAULT; NONE without.");
        TrampolineMat x = new TrampolineMat();
        due("of a new object", x.fault(), NONE);
        due("a FAULT at 0", tell(x, "x"), 1);
        due("fault()", x.fault(), 0);
        due("fault() again", x.fault(), 0);
        due("a FAULT at 5", tell(x, "near 10;"), 2);
        due("fault()", x.fault(), 5);
        notRight("garden(1)", () -> x.garden(1));
        due("fault() behind what is no garden", x.fault(), 5);
        due("none", tell(x, "near 9;"), 0);
        due("fault()", x.fault(), NONE);
        due("a FAULT at the end of 600", tell(x, times(" ", 595) + "near "), 1);
        due("fault()", x.fault(), 600);
        due("the empty text", x.garden(0), 0);
        due("fault()", x.fault(), NONE);
    }
}
