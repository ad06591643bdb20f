import java.io.IOException;
import java.nio.charset.StandardCharsets;
import java.nio.file.Files;
import java.nio.file.Path;
import java.util.NoSuchElementException;

/** What the tests share: what is due under which sentence of the document, and objects told by a text. */
class Mats {
    static final int NONE = TrampolineMat.NONE;
    /** Numbers that no bound allows, to see that none wraps around into one that is. */
    static final int[] FAR = {Integer.MIN_VALUE, Integer.MIN_VALUE + 1, Integer.MAX_VALUE - 1, Integer.MAX_VALUE};

    private static int wrong = 0;
    private static int asked = 0;
    private static int askedUnder = 0;
    private static String under = "";
    private static String document = null;

    interface Call {
        long answer();
    }

    /** What is due from here on is due by these words of this promise; the words must be the document's. */
    static void promise(int number, String words) {
        begin("promise " + number, words);
    }

    /** Likewise for what the document says ahead of the promises, with the promise by which it is seen. */
    static void part(int number, String part, String words) {
        begin("promise " + number + " (" + part + ")", words);
    }

    private static void begin(String where, String words) {
        endSentence();
        under = where + ", '" + words + "': ";
        if (!documentHas(words)) fail("these are no words of the document", "");
    }

    private static void endSentence() {
        if (!under.isEmpty() && asked == askedUnder) fail("nothing was asked", "");
        askedUnder = asked;
    }

    private static boolean documentHas(String words) {
        if (document == null) {
            try {
                document = Files.readString(Path.of("../shared/DOC.md")).replaceAll("\\s+", " ");
            } catch (IOException e) {
                throw new IllegalStateException("../shared/DOC.md can't be read", e);
            }
        }
        return document.contains(words);
    }

    private static void fail(String call, String how) {
        wrong++;
        if (wrong <= 60) System.out.println(under + call + how);
    }

    /** Tells how it went, and ends with 1 if an answer was wrong. */
    static void end(String well) {
        endSentence();
        System.out.println(wrong == 0 ? well : wrong + " answers are not as promised");
        if (wrong != 0) System.exit(1);
    }

    static void due(String call, long got, long want) {
        asked++;
        if (got != want) fail(call, " answered " + got + ", due is " + want);
    }

    static void due(String call, boolean got, boolean want) {
        asked++;
        if (got != want) fail(call, " answered " + got + ", due is " + want);
    }

    static void due(String call, String got, String want) {
        asked++;
        if (!got.equals(want)) fail(call, " answered " + got + ", due is " + want);
    }

    private static void throwing(String call, Call c, Class<?> want) {
        asked++;
        try {
            long got = c.answer();
            fail(call, " answered " + got + ", due is " + want.getSimpleName());
        } catch (RuntimeException e) {
            if (e.getClass() != want) fail(call, " threw " + e + ", due is " + want.getSimpleName());
        }
    }

    static void noSuch(String call, Call c) {
        throwing(call, c, NoSuchElementException.class);
    }

    static void notRight(String call, Call c) {
        throwing(call, c, IllegalArgumentException.class);
    }

    /** What a call answers, or the exception's name. */
    static String answerOf(Call c) {
        try {
            return Long.toString(c.answer());
        } catch (RuntimeException e) {
            return e.getClass().getSimpleName();
        }
    }

    /** Twenty bytes at a time, the last ones filled up with blanks. */
    static void feedAll(TrampolineMat x, byte[] text) {
        for (int at = 0; at < text.length; at += 20) {
            int[] w = new int[5];
            for (int i = 0; i < 20; i++) w[i / 4] = w[i / 4] << 8 | (at + i < text.length ? text[at + i] & 255 : 32);
            x.feed(w[0], w[1], w[2], w[3], w[4]);
        }
    }

    static int tell(TrampolineMat x, String text) {
        byte[] bytes = text.getBytes(StandardCharsets.ISO_8859_1);
        feedAll(x, bytes);
        return x.garden(bytes.length);
    }

    static TrampolineMat of(String text) {
        TrampolineMat x = new TrampolineMat();
        due("garden of '" + text + "'", tell(x, text), 0);
        return x;
    }

    /** As of(text), with N as told. */
    static TrampolineMat of(String text, int n) {
        TrampolineMat x = of(text);
        due("last(" + n + ")", x.last(n), true);
        return x;
    }

    static void fault(String text, int which, int place) {
        TrampolineMat x = new TrampolineMat();
        due("garden of '" + text + "'", tell(x, text), which);
        due("fault() of '" + text + "'", x.fault(), place);
        due("count(16) behind '" + text + "'", x.count(16), which == 0 ? 0 : 1);
    }

    static void good(String text) {
        fault(text, 0, NONE);
    }

    static String times(String s, int n) {
        return s.repeat(n);
    }

    /** Whether a RULE lets the first of three go up in TICK 6: he would go to 16 from 5, a heavier one lies there, another hasn't come. */
    static boolean holds(String expr) {
        TrampolineMat x = of("jumper 10 0 5 1 20;jumper 30 0 -3 0 0;jumper 9 0 9 50 0;rule " + expr + ";", 7);
        x.obey(0);
        return x.ran(0, 0) == 1;
    }

    interface On {
        long answer(TrampolineMat x);
    }

    /** Something of everything that a call could change: 3 JUMPERS, 2 RULES, 4 PUSHES, 6 ACTS, 3 places, an image, N 150, a FAULT at 5, 20 bytes. */
    static TrampolineMat full() {
        TrampolineMat x = of("mat 2 8 70;broken 1;near 2;slips 1 2 3;jumper 10 5 -3 1 9 corrects 2;jumper 20 0 4 3 12;jumper 7 8 8 2 30 corrects 1;"
            + "rule up<2;rule height<9 or tick/3*3=tick;egg 5 60 7 31;");
        x.find(4);
        x.find(5);
        x.become(1, 1, 20);
        x.image();
        x.become(0, 0, 5);
        x.become(2, 1, 11);
        x.become(1, 2, 3);
        x.obey(1);
        x.last(150);
        x.find(6);
        tell(x, "near 10;");
        x.last(0);
        x.last(0);
        for (int i = 0; i < 3; i++) x.find(100);
        x.feed(0x6e656172, 0x20333b20, 0x20202020, 0x20202020, 0x20202020);
        return x;
    }

    /** On full(): the call answers (or throws) so, and behind it all is as it was but for the status that it counts (NONE: for none). */
    static void leaves(String call, On on, String want, int status) {
        for (int way = 0; way < Looks.WAYS; way++) {
            TrampolineMat x = full();
            due(call, answerOf(() -> on.answer(x)), want);
            due("what is seen behind " + call, Looks.at(x, way, status), Looks.at(full(), way, NONE));
        }
    }

    static void leavesNoSuch(String call, On on) {
        leaves(call, on, "NoSuchElementException", NONE);
    }

    static void leavesNotRight(String call, On on) {
        leaves(call, on, "IllegalArgumentException", NONE);
    }
}
