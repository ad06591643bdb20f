import java.util.Arrays;
import java.util.NoSuchElementException;

/** Two on a trampoline; the words in capitals are those of the document. */
public final class TrampolineMat {
    public static final int NONE = -1;

    private static final int MOST_BYTES = 600;
    private static final int MOST_JUMPERS = 4;
    private static final int MOST_RULES = 4;
    private static final int MOST_PUSHES = 8;
    private static final int MOST_ACTS = 40;
    private static final int MOST_PLACES = 20;
    private static final int MOST_TICKS = 600;
    private static final int MOST_HEIGHT = 999;
    private static final int MOST_TOLD_HEIGHT = 60;
    private static final int MOST_START = 99;
    private static final int MOST_CORRECTS = 9;
    private static final int MOST_BROKEN = 3;
    private static final int FARTHEST = 20;

    private static final int WEIGHT = 0;
    private static final int LEGS = 1;
    private static final int PLACE = 2;
    private static final int START = 3;
    private static final int DROP = 4;
    private static final int CORRECTS = 5;
    private static final int OF_A_JUMPER = 6;

    private static final int ALONE = 0;
    private static final int GAINING = 1;
    private static final int LOSING = 2;
    private static final int JARRING = 3;
    private static final int EDGED = 4;
    private static final int KNOCKED = 5;
    private static final int KINDS = 6;

    private static final int NOT_COME = 0;
    private static final int IN_THE_AIR = 1;
    private static final int ON_THE_MAT = 2;
    private static final int OUT = 3;
    private static final int AWAY = 4;

    private static final int ACT_RULE = 3;
    private static final int ACT_TICKS = 4;

    private final byte[] tape = new byte[MOST_BYTES];
    private int tapeLength = 0;
    private int faultPlace = NONE;
    private int refusedTexts = 0;
    private int refusedActs = 0;
    private int refusedPlaces = 0;
    private Garden garden = new Garden();
    private final Scene now = new Scene();
    private final Scene pictured = new Scene();
    private boolean hasPicture = false;
    private final Teller teller = new Teller();
    private final Play play = new Play();
    private final Wander wander = new Wander();
    private final Egg braced = new Egg();

    public TrampolineMat() {
    }

    // ---- the text

    public int feed(int a, int b, int c, int d, int e) {
        if (tapeLength > MOST_BYTES - 20) {
            return NONE;
        }
        addFour(a);
        addFour(b);
        addFour(c);
        addFour(d);
        addFour(e);
        return tapeLength;
    }

    private void addFour(int number) {
        for (int shift = 24; shift >= 0; shift -= 8) {
            if (tapeLength < tape.length) {
                tape[tapeLength] = (byte) (number >> shift);
                tapeLength++;
            }
        }
    }

    public int garden(int n) throws IllegalArgumentException {
        demand(n >= 0 && n <= tapeLength);
        tapeLength = 0;
        int wrong = teller.tell(tape, n);
        if (wrong != 0) {
            faultPlace = teller.wrongAt;
            refusedTexts++;
            return wrong;
        }
        faultPlace = NONE;
        // The teller gets the garden that stood for its next text, so that no text makes objects.
        Garden told = teller.garden;
        teller.garden = garden;
        garden = told;
        now.begin(told);
        hasPicture = false;
        return 0;
    }

    public int fault() {
        return faultPlace;
    }

    // ---- what is told and what became of it

    public int count(int what) throws NoSuchElementException {
        need(what >= 0 && what <= 18);
        return what <= 9 ? countTold(what) : countNow(what);
    }

    private int countTold(int what) {
        switch (what) {
            case 0: return garden.sinks;
            case 1: return garden.edge;
            case 2: return garden.kept;
            case 3: return garden.broken;
            case 4: return garden.near;
            case 5: return garden.slipsLeft;
            case 6: return garden.slipsNot;
            case 7: return garden.slipsRight;
            case 8: return garden.jumperCount;
            default: return garden.rules.many;
        }
    }

    private int countNow(int what) {
        switch (what) {
            case 10: return now.rule;
            case 11: return now.ticks;
            case 12: return garden.pushCount;
            case 13: return now.actCount;
            case 14: return now.placeCount;
            case 15: return tapeLength;
            case 16: return refusedTexts;
            case 17: return refusedActs;
            default: return refusedPlaces;
        }
    }

    public int jumper(int jumper, int what) throws NoSuchElementException {
        need(isJumper(jumper) && what >= 0 && what < OF_A_JUMPER);
        return now.told(jumper, what);
    }

    // ---- acts

    public int become(int jumper, int what, int v) throws NoSuchElementException {
        need(isJumper(jumper) && what >= 0 && what <= 2);
        if (v < 0 || v > mostOf(START + what)) {
            refusedActs++;
            return NONE;
        }
        return now.act(what, jumper, v);
    }

    private static int mostOf(int what) {
        switch (what) {
            case START: return MOST_START;
            case DROP: return MOST_TOLD_HEIGHT;
            default: return MOST_CORRECTS;
        }
    }

    public boolean obey(int rule) {
        if (!isRule(rule)) {
            refusedActs++;
            return false;
        }
        now.act(ACT_RULE, 0, rule);
        return true;
    }

    public boolean last(int n) {
        if (n < 1 || n > MOST_TICKS) {
            refusedActs++;
            return false;
        }
        now.act(ACT_TICKS, 0, n);
        return true;
    }

    public int undo() {
        return now.takeBack() ? now.actCount : NONE;
    }

    // ---- the run as it is

    public int ran(int jumper, int what) throws NoSuchElementException {
        need(isJumper(jumper) && what >= 0 && what <= 6);
        playAll();
        Flyer flyer = play.flyer(jumper);
        switch (what) {
            case 0: return flyer.ups;
            case 1: return flyer.top;
            case 2: return flyer.fun;
            case 3: return flyer.hurts;
            case 4: return flyer.jarred;
            case 5: return flyer.place;
            default: return flyer.doing;
        }
    }

    public int lands(int jumper, int kind) throws NoSuchElementException {
        need(isJumper(jumper) && kind >= 0 && kind < KINDS);
        playAll();
        return play.flyer(jumper).landed(kind);
    }

    public int film(int jumper, int tick) throws NoSuchElementException {
        need(isJumper(jumper) && isTick(tick));
        prepare();
        play.go(0, tick + 1);
        return play.flyer(jumper).heightIn(tick);
    }

    public int mat(int what) throws NoSuchElementException {
        need(what >= 0 && what <= 4);
        playAll();
        switch (what) {
            case 0: return play.storedInAll;
            case 1: return play.jarredInAll;
            case 2: return play.hadInAll;
            case 3: return play.rises;
            default: return play.stored;
        }
    }

    public int landing(int i, int what) throws NoSuchElementException {
        need(i >= NONE && what >= 0 && what < Landings.OF_ONE && (i != NONE || what == 0));
        playAll();
        need(i < play.landings.many);
        return i == NONE ? play.landings.many : play.landings.told(i, what);
    }

    public int stop(int what) throws NoSuchElementException {
        need(what == 0 || what == 1);
        playAll();
        return what == 0 ? play.hurtTick : play.hurtBits;
    }

    public int over(int jumper, int height, int what) throws NoSuchElementException, IllegalArgumentException {
        need(isJumper(jumper) && (what == 0 || what == 1));
        demand(height >= 0 && height <= MOST_HEIGHT);
        prepare();
        int many = 0;
        int first = NONE;
        for (int tick = 0; tick < now.ticks; tick++) {
            play.go(tick, tick + 1);
            if (play.flyer(jumper).heightIn(tick) >= height) {
                first = many == 0 ? tick : first;
                many++;
            }
        }
        return what == 0 ? many : first;
    }

    // ---- runs that might have been

    public int moment(int jumper, int what) throws NoSuchElementException {
        need(isJumper(jumper) && what >= 0 && what <= 2);
        int best = 0;
        int bestWorth = 0;
        for (int start = 0; start < 40; start++) {
            prepare();
            play.flyer(jumper).startIn(start);
            play.go(0, now.ticks);
            int worth = worthOf(play.flyer(jumper), what);
            if (start == 0 || worth > bestWorth) {
                best = start;
                bestWorth = worth;
            }
        }
        return best;
    }

    private static int worthOf(Flyer flyer, int what) {
        switch (what) {
            case 0: return flyer.top;
            case 1: return flyer.fun;
            default: return -flyer.jarred;
        }
    }

    public int step(int one, int two, int what) throws NoSuchElementException, IllegalArgumentException {
        need(isJumper(one) && isJumper(two) && what >= 0 && what <= 3);
        demand(one != two);
        playAll();
        Landings landings = play.landings;
        landings.pace(one, two);
        switch (what) {
            case 0: return landings.firstGap;
            case 1: return landings.lastGap;
            case 2: return Integer.compare(landings.lastGap, landings.firstGap);
            default: return landings.inStepFrom;
        }
    }

    public int danger(int jumper) throws NoSuchElementException {
        need(isJumper(jumper));
        for (int drop = 0; drop <= MOST_TOLD_HEIGHT; drop++) {
            prepare();
            play.flyer(jumper).dropFrom(drop);
            play.go(0, now.ticks);
            if (play.hurtTick != NONE) {
                return drop;
            }
        }
        return NONE;
    }

    public int pairs() {
        int bits = 0;
        for (int i = 0; i < now.jumperCount; i++) {
            for (int k = i + 1; k < now.jumperCount; k++) {
                if (hurtAmong(1 << i | 1 << k)) {
                    bits |= pairBit(i, k);
                }
            }
        }
        return bits;
    }

    private static int pairBit(int i, int k) {
        return 1 << (MOST_JUMPERS * i + k);
    }

    private boolean hurtAmong(int bits) {
        prepare();
        play.keepOnly(bits);
        play.go(0, now.ticks);
        return play.hurtTick != NONE;
    }

    public int apart() {
        int hurting = pairs();
        for (int law = 0; law <= 99; law++) {
            if (lawHolds(law, hurting)) {
                return law;
            }
        }
        return NONE;
    }

    private boolean lawHolds(int law, int hurting) {
        for (int i = 0; i < now.jumperCount; i++) {
            for (int k = i + 1; k < now.jumperCount; k++) {
                int between = Math.abs(now.told(i, WEIGHT) - now.told(k, WEIGHT));
                boolean hurts = (hurting & pairBit(i, k)) != 0;
                if (hurts != (between >= law)) {
                    return false;
                }
            }
        }
        return true;
    }

    public int without(int jumper, int other) throws NoSuchElementException, IllegalArgumentException {
        need(isJumper(jumper) && isJumper(other));
        demand(jumper != other);
        playAll();
        int with = play.flyer(jumper).top;
        prepare();
        play.keepOnly(~(1 << other));
        play.go(0, now.ticks);
        return play.flyer(jumper).top - with;
    }

    public int second(int one, int two, int tick, int high, int high2, int what)
            throws NoSuchElementException, IllegalArgumentException {
        need(isJumper(one) && isJumper(two) && isTick(tick) && (what == 0 || what == 1));
        demand(one != two);
        int many = 0;
        for (int start = 0; start < 24; start++) {
            for (int start2 = 0; start2 < 24; start2++) {
                if (what == 1 && start <= start2) {
                    continue;
                }
                prepare();
                play.flyer(one).startIn(start);
                play.flyer(two).startIn(start2);
                play.go(0, tick + 1);
                if (play.flyer(one).heightIn(tick) == high && play.flyer(two).heightIn(tick) == high2) {
                    many++;
                }
            }
        }
        return many;
    }

    public int compare(int rule, int what) throws NoSuchElementException {
        need(isRule(rule) && (what == 0 || what == 1));
        playBy(rule);
        return what == 0 ? play.hurtsOfAll() : play.funOfAll();
    }

    public int best() {
        int chosen = NONE;
        int fewest = 0;
        int most = 0;
        for (int rule = NONE; rule < garden.rules.many; rule++) {
            playBy(rule);
            int hurts = play.hurtsOfAll();
            int fun = play.funOfAll();
            if (rule == NONE || hurts < fewest || hurts == fewest && fun > most) {
                chosen = rule;
                fewest = hurts;
                most = fun;
            }
        }
        return chosen;
    }

    private void playBy(int rule) {
        prepare();
        play.rule = rule;
        play.go(0, now.ticks);
    }

    public int afternoons(int seed, int many, int what) throws NoSuchElementException, IllegalArgumentException {
        need(what >= 0 && what <= 2);
        demand(many >= 0 && many <= 40);
        int drawn = seed;
        int hurts = 0;
        int most = 0;
        int unhurt = 0;
        for (int i = 0; i < many; i++) {
            prepare();
            for (int k = 0; k < now.jumperCount; k++) {
                drawn = drawn * 1103515245 + 12345;
                play.flyer(k).startIn((drawn >> 16 & 0x7fff) % 40);
            }
            play.go(0, now.ticks);
            hurts += play.hurtsOfAll();
            most = Math.max(most, play.funOfAll());
            unhurt += play.hurtTick == NONE ? 1 : 0;
        }
        switch (what) {
            case 0: return hurts;
            case 1: return most;
            default: return unhurt;
        }
    }

    public int atOnce() {
        int most = 0;
        for (int bits = 1; bits < 1 << now.jumperCount; bits++) {
            if (Integer.bitCount(bits) > Integer.bitCount(most) && !hurtAmong(bits)) {
                most = bits;
            }
        }
        return most;
    }

    // ---- places

    public long falls(int place, int height, int corrects, int n, int what)
            throws NoSuchElementException, IllegalArgumentException {
        need(what == 0 || what == 1);
        demand(mayWander(place, height, n) && isCorrects(corrects));
        wander.go(garden, place, height, corrects, n);
        return partOf(wander.fallen, wander.whole, what);
    }

    public long wanders(int place, int height, int corrects, int n, int at, int what)
            throws NoSuchElementException, IllegalArgumentException {
        need(what == 0 || what == 1);
        demand(mayWander(place, height, n) && isCorrects(corrects));
        wander.go(garden, place, height, corrects, n);
        return partOf(wander.waysAt(at), wander.whole, what);
    }

    public int correct(int place, int height, int n) throws IllegalArgumentException {
        demand(mayWander(place, height, n));
        int best = 0;
        long least = 0;
        for (int corrects = 0; corrects <= MOST_CORRECTS; corrects++) {
            wander.go(garden, place, height, corrects, n);
            // The whole is the same for each of them: the upper parts alone tell which is least.
            if (corrects == 0 || wander.fallen < least) {
                best = corrects;
                least = wander.fallen;
            }
        }
        return best;
    }

    public int find(int place) {
        if (place < -99 || place > 99 || !now.addPlace(place)) {
            refusedPlaces++;
            return NONE;
        }
        return now.placeCount;
    }

    public int forget() {
        if (now.placeCount == 0) {
            return NONE;
        }
        now.placeCount--;
        return now.placeCount;
    }

    public int broken(int height) throws IllegalArgumentException {
        demand(isToldHeight(height));
        return now.fitting(height);
    }

    public long safe(int height, int corrects, int n) throws IllegalArgumentException {
        demand(isToldHeight(height) && isCorrects(corrects) && n >= 0 && n <= 100);
        long bits = 0;
        for (int place = -FARTHEST; place <= FARTHEST; place++) {
            if (staysOn(place, height, corrects, n)) {
                bits |= 1L << (FARTHEST + place);
            }
        }
        return bits;
    }

    private boolean staysOn(int from, int height, int corrects, int n) {
        int place = from;
        for (int i = 0; i < n; i++) {
            if (garden.isBeyond(place)) {
                return false;
            }
            place = garden.comesTo(place, height, corrects);
        }
        return !garden.isBeyond(place);
    }

    public long egg(int what) throws NoSuchElementException {
        need(what >= 0 && what <= 2);
        braced.open(garden);
        return what == 2 ? braced.many : partOf(braced.upper, braced.lower, what);
    }

    private static long partOf(long upper, long lower, int what) {
        long shared = sharedDivisor(upper, lower);
        long part = what == 0 ? upper : lower;
        return shared > 0 ? part / shared : part;
    }

    private static long sharedDivisor(long one, long other) {
        long a = one;
        long b = other;
        // Euclid's way on longs needs fewer than a hundred steps.
        for (int i = 0; i < 1000 && b != 0; i++) {
            long rest = a % b;
            a = b;
            b = rest;
        }
        return a;
    }

    // ---- the image

    public void image() {
        pictured.copy(now);
        hasPicture = true;
    }

    public boolean restore() {
        if (!hasPicture) {
            return false;
        }
        now.copy(pictured);
        return true;
    }

    // ---- what a call may ask

    private static void need(boolean there) throws NoSuchElementException {
        if (!there) {
            throw new NoSuchElementException("there is no such one");
        }
    }

    private static void demand(boolean right) throws IllegalArgumentException {
        if (!right) {
            throw new IllegalArgumentException("not as told");
        }
    }

    private boolean isJumper(int jumper) {
        return jumper >= 0 && jumper < now.jumperCount;
    }

    private boolean isRule(int rule) {
        return rule >= NONE && rule < garden.rules.many;
    }

    private boolean isTick(int tick) {
        return tick >= 0 && tick < now.ticks;
    }

    private static boolean isToldHeight(int height) {
        return height >= 0 && height <= MOST_TOLD_HEIGHT;
    }

    private static boolean isCorrects(int corrects) {
        return corrects >= 0 && corrects <= MOST_CORRECTS;
    }

    private boolean mayWander(int place, int height, int n) {
        return n >= 0 && n <= 12 && isToldHeight(height) && !garden.isBeyond(place);
    }

    private void prepare() {
        play.begin(garden, now);
    }

    private void playAll() {
        prepare();
        play.go(0, now.ticks);
    }

    /** What a text tells. */
    static final class Garden {
        int sinks;
        int edge;
        int kept;
        int broken;
        int near;
        int slipsLeft;
        int slipsNot;
        int slipsRight;
        final int[] jumpers = new int[MOST_JUMPERS * OF_A_JUMPER];
        int jumperCount;
        final int[] pushes = new int[MOST_PUSHES];
        int pushCount;
        final Rules rules = new Rules();

        Garden() {
            clear();
        }

        void clear() {
            sinks = 3;
            edge = 9;
            kept = 80;
            broken = 0;
            near = 1;
            slipsLeft = 0;
            slipsNot = 1;
            slipsRight = 0;
            jumperCount = 0;
            pushCount = 0;
            rules.clear();
        }

        void tellOfLast(int what, int v) {
            int at = (jumperCount - 1) * OF_A_JUMPER + what;
            if (at >= 0 && at < jumpers.length) {
                jumpers[at] = v;
            }
        }

        void addPush(int push) {
            if (pushCount >= 0 && pushCount < pushes.length) {
                pushes[pushCount] = push;
                pushCount++;
            }
        }

        boolean isBeyond(int place) {
            return place < -edge || place > edge;
        }

        int comesTo(int place, int height, int corrects) {
            int wandered = place + place * height / 40 + broken;
            if (wandered > 0) {
                return Math.max(0, wandered - corrects);
            }
            return Math.min(0, wandered + corrects);
        }
    }

    /** What acts and places change, and what an image keeps. */
    static final class Scene {
        private static final int TICKS_AT_FIRST = 200;

        final int[] jumpers = new int[MOST_JUMPERS * OF_A_JUMPER];
        int jumperCount;
        int rule = NONE;
        int ticks = TICKS_AT_FIRST;
        final int[] actKinds = new int[MOST_ACTS];
        final int[] actWhos = new int[MOST_ACTS];
        final int[] actWeres = new int[MOST_ACTS];
        int actCount;
        final int[] places = new int[MOST_PLACES];
        int placeCount;

        void begin(Garden garden) {
            System.arraycopy(garden.jumpers, 0, jumpers, 0, jumpers.length);
            jumperCount = garden.jumperCount;
            rule = NONE;
            ticks = TICKS_AT_FIRST;
            actCount = 0;
            placeCount = 0;
        }

        void copy(Scene other) {
            System.arraycopy(other.jumpers, 0, jumpers, 0, jumpers.length);
            jumperCount = other.jumperCount;
            rule = other.rule;
            ticks = other.ticks;
            System.arraycopy(other.actKinds, 0, actKinds, 0, actKinds.length);
            System.arraycopy(other.actWhos, 0, actWhos, 0, actWhos.length);
            System.arraycopy(other.actWeres, 0, actWeres, 0, actWeres.length);
            actCount = other.actCount;
            System.arraycopy(other.places, 0, places, 0, places.length);
            placeCount = other.placeCount;
        }

        int told(int jumper, int what) {
            int at = jumper * OF_A_JUMPER + what;
            return at >= 0 && at < jumpers.length ? jumpers[at] : 0;
        }

        int act(int kind, int who, int v) {
            int was = put(kind, who, v);
            keepAct(kind, who, was);
            return was;
        }

        private int put(int kind, int who, int v) {
            int was = NONE;
            if (kind == ACT_RULE) {
                was = rule;
                rule = v;
            } else if (kind == ACT_TICKS) {
                was = ticks;
                ticks = v;
            } else {
                int at = who * OF_A_JUMPER + START + kind;
                if (at >= 0 && at < jumpers.length) {
                    was = jumpers[at];
                    jumpers[at] = v;
                }
            }
            return was;
        }

        private void keepAct(int kind, int who, int was) {
            if (actCount >= MOST_ACTS) {
                dropOldestAct();
            }
            if (actCount >= 0 && actCount < MOST_ACTS) {
                actKinds[actCount] = kind;
                actWhos[actCount] = who;
                actWeres[actCount] = was;
                actCount++;
            }
        }

        private void dropOldestAct() {
            System.arraycopy(actKinds, 1, actKinds, 0, MOST_ACTS - 1);
            System.arraycopy(actWhos, 1, actWhos, 0, MOST_ACTS - 1);
            System.arraycopy(actWeres, 1, actWeres, 0, MOST_ACTS - 1);
            actCount = MOST_ACTS - 1;
        }

        boolean takeBack() {
            if (actCount <= 0 || actCount > MOST_ACTS) {
                return false;
            }
            actCount--;
            put(actKinds[actCount], actWhos[actCount], actWeres[actCount]);
            return true;
        }

        boolean addPlace(int place) {
            if (placeCount < 0 || placeCount >= places.length) {
                return false;
            }
            places[placeCount] = place;
            placeCount++;
            return true;
        }

        int fitting(int height) {
            int bits = (1 << (2 * MOST_BROKEN + 1)) - 1;
            for (int i = 1; i < placeCount && i < places.length; i++) {
                int from = places[i - 1];
                int broken = places[i] - from - from * height / 40;
                boolean may = broken >= -MOST_BROKEN && broken <= MOST_BROKEN;
                bits &= may ? 1 << (MOST_BROKEN + broken) : 0;
            }
            return bits;
        }
    }

    /** The tokens of a text, one at a time. */
    static final class Reader {
        // A sign's kind is the sign itself, so the others begin behind all bytes.
        static final int WORD = 256;
        static final int NUMBER = 257;
        static final int END = 258;
        static final int NO_TOKEN = 259;
        static final int TOO_LONG = 10000;
        private static final String SIGNS = ";()+-*/<=";

        private byte[] text = new byte[0];
        private int length;
        private int end;
        int kind;
        int start;
        int value;

        void begin(byte[] bytes, int n) {
            text = bytes;
            length = Math.min(n, bytes.length);
            end = 0;
            next();
        }

        void next() {
            start = behindBlanks();
            end = start;
            if (start < 0 || start >= length || start >= text.length) {
                kind = END;
                return;
            }
            char sign = (char) (text[start] & 255);
            if (sign >= 'a' && sign <= 'z') {
                kind = WORD;
                end = behindRow('a', 'z');
            } else if (sign >= '0' && sign <= '9') {
                kind = NUMBER;
                end = behindRow('0', '9');
                value = valueOfRow();
            } else {
                kind = SIGNS.indexOf(sign) >= 0 ? sign : NO_TOKEN;
                end = start + 1;
            }
        }

        private int behindBlanks() {
            for (int at = end; at >= 0 && at < length && at < text.length; at++) {
                if (text[at] != 32 && text[at] != 10) {
                    return at;
                }
            }
            return length;
        }

        private int behindRow(char least, char most) {
            for (int at = start; at >= 0 && at < length && at < text.length; at++) {
                if (text[at] < least || text[at] > most) {
                    return at;
                }
            }
            return length;
        }

        private int valueOfRow() {
            if (end - start > 4) {
                return TOO_LONG;
            }
            int number = 0;
            for (int at = start; at >= 0 && at < end && at < text.length; at++) {
                number = number * 10 + text[at] - '0';
            }
            return number;
        }

        boolean isWord(String word) {
            if (kind != WORD || end - start != word.length()) {
                return false;
            }
            for (int i = 0; i < word.length(); i++) {
                int at = start + i;
                if (at < 0 || at >= text.length || text[at] != word.charAt(i)) {
                    return false;
                }
            }
            return true;
        }
    }

    /** A text is told line by line into a garden, up to its first fault. */
    static final class Teller {
        private static final int MOST_AROUND = 6;
        private static final int MOST_NOTS = 6;
        private static final int SEEN_MAT = 1;
        private static final int SEEN_BROKEN = 2;
        private static final int SEEN_NEAR = 4;
        private static final int SEEN_SLIPS = 8;
        private static final int SEEN_EGG = 16;

        private final Reader reader = new Reader();
        Garden garden = new Garden();
        private int seen;
        private int told;
        private int wrong;
        int wrongAt;

        int tell(byte[] text, int n) {
            garden.clear();
            seen = 0;
            reader.begin(text, n);
            for (int i = 0; i <= MOST_BYTES && reader.kind != Reader.END; i++) {
                if (!tellLine() || !pass(';')) {
                    return wrong;
                }
            }
            return 0;
        }

        private boolean tellLine() {
            if (reader.isWord("mat")) {
                return tellMat();
            }
            if (reader.isWord("broken")) {
                return tellBroken();
            }
            if (reader.isWord("near")) {
                return tellNear();
            }
            if (reader.isWord("slips")) {
                return tellSlips();
            }
            if (reader.isWord("jumper")) {
                return tellJumper();
            }
            if (reader.isWord("rule")) {
                return tellRule();
            }
            if (reader.isWord("egg")) {
                return tellEgg();
            }
            return fail(1);
        }

        private boolean fail(int which) {
            wrong = which;
            wrongAt = reader.start;
            return false;
        }

        private boolean pass(char sign) {
            if (reader.kind != sign) {
                return fail(1);
            }
            reader.next();
            return true;
        }

        private boolean passOnce(int line) {
            if ((seen & line) != 0) {
                return fail(5);
            }
            seen |= line;
            reader.next();
            return true;
        }

        private boolean number(int least, int most) {
            if (reader.kind != Reader.NUMBER) {
                return fail(1);
            }
            if (reader.value < least || reader.value > most) {
                return fail(2);
            }
            told = reader.value;
            reader.next();
            return true;
        }

        private boolean signed(int most) {
            boolean below = reader.kind == '-';
            if (below) {
                reader.next();
            }
            if (!number(0, most)) {
                return false;
            }
            told = below ? -told : told;
            return true;
        }

        private boolean tellMat() {
            if (garden.jumperCount > 0) {
                return fail(4);
            }
            if (!passOnce(SEEN_MAT) || !number(1, 9)) {
                return false;
            }
            garden.sinks = told;
            if (!number(3, FARTHEST)) {
                return false;
            }
            garden.edge = told;
            if (!number(10, 100)) {
                return false;
            }
            garden.kept = told;
            return true;
        }

        private boolean tellBroken() {
            if (!passOnce(SEEN_BROKEN) || !signed(MOST_BROKEN)) {
                return false;
            }
            garden.broken = told;
            return true;
        }

        private boolean tellNear() {
            if (!passOnce(SEEN_NEAR) || !number(0, 9)) {
                return false;
            }
            garden.near = told;
            return true;
        }

        private boolean tellSlips() {
            if (!passOnce(SEEN_SLIPS) || !number(0, 9)) {
                return false;
            }
            garden.slipsLeft = told;
            if (!number(0, 9)) {
                return false;
            }
            garden.slipsNot = told;
            // One of the three must have a weight: the third may be 0 only if another is not.
            int least = garden.slipsLeft + garden.slipsNot > 0 ? 0 : 1;
            if (!number(least, 9)) {
                return false;
            }
            garden.slipsRight = told;
            return true;
        }

        private boolean tellJumper() {
            if (garden.jumperCount >= MOST_JUMPERS) {
                return fail(2);
            }
            reader.next();
            garden.jumperCount++;
            if (!numberOfLast(WEIGHT, 1, 99) || !numberOfLast(LEGS, 0, 30) || !signed(garden.edge)) {
                return false;
            }
            garden.tellOfLast(PLACE, told);
            garden.tellOfLast(CORRECTS, 0);
            if (!numberOfLast(START, 0, MOST_START) || !numberOfLast(DROP, 0, MOST_TOLD_HEIGHT)) {
                return false;
            }
            if (!reader.isWord("corrects")) {
                return true;
            }
            reader.next();
            return numberOfLast(CORRECTS, 0, MOST_CORRECTS);
        }

        private boolean numberOfLast(int what, int least, int most) {
            if (!number(least, most)) {
                return false;
            }
            garden.tellOfLast(what, told);
            return true;
        }

        private boolean tellEgg() {
            if (!passOnce(SEEN_EGG)) {
                return false;
            }
            for (int i = 0; i < MOST_BYTES && reader.kind == Reader.NUMBER; i++) {
                if (garden.pushCount >= MOST_PUSHES) {
                    return fail(2);
                }
                if (!number(1, 99)) {
                    return false;
                }
                garden.addPush(told);
            }
            return true;
        }

        private boolean tellRule() {
            if (garden.rules.many >= MOST_RULES) {
                return fail(2);
            }
            reader.next();
            if (!either(0)) {
                return false;
            }
            garden.rules.endRule();
            return true;
        }

        private boolean either(int around) {
            if (around >= MOST_AROUND) {
                return fail(mayBeginPart() ? 2 : 1);
            }
            if (!both(around)) {
                return false;
            }
            for (int i = 0; i < MOST_BYTES && reader.isWord("or"); i++) {
                reader.next();
                if (!both(around)) {
                    return false;
                }
                garden.rules.add(Rules.OR);
            }
            return true;
        }

        private boolean mayBeginPart() {
            return reader.kind == Reader.NUMBER || reader.kind == Reader.WORD || reader.kind == '(';
        }

        private boolean both(int around) {
            if (!denied(around)) {
                return false;
            }
            for (int i = 0; i < MOST_BYTES && reader.isWord("and"); i++) {
                reader.next();
                if (!denied(around)) {
                    return false;
                }
                garden.rules.add(Rules.AND);
            }
            return true;
        }

        private boolean denied(int around) {
            int nots = 0;
            for (int i = 0; i <= MOST_NOTS && reader.isWord("not"); i++) {
                if (i == MOST_NOTS) {
                    return fail(2);
                }
                reader.next();
                nots++;
            }
            if (!test(around)) {
                return false;
            }
            for (int i = 0; i < nots; i++) {
                garden.rules.add(Rules.NOT);
            }
            return true;
        }

        private boolean test(int around) {
            if (!sum(around)) {
                return false;
            }
            int sign = reader.kind;
            if (sign != '<' && sign != '=') {
                return true;
            }
            reader.next();
            if (!sum(around)) {
                return false;
            }
            garden.rules.add(sign == '<' ? Rules.LESS : Rules.SAME);
            return true;
        }

        private boolean sum(int around) {
            if (!product(around)) {
                return false;
            }
            for (int i = 0; i < MOST_BYTES && (reader.kind == '+' || reader.kind == '-'); i++) {
                int sign = reader.kind;
                reader.next();
                if (!product(around)) {
                    return false;
                }
                garden.rules.add(sign == '+' ? Rules.PLUS : Rules.MINUS);
            }
            return true;
        }

        private boolean product(int around) {
            if (!part(around)) {
                return false;
            }
            for (int i = 0; i < MOST_BYTES && (reader.kind == '*' || reader.kind == '/'); i++) {
                int sign = reader.kind;
                reader.next();
                if (!part(around)) {
                    return false;
                }
                garden.rules.add(sign == '*' ? Rules.TIMES : Rules.BY);
            }
            return true;
        }

        private boolean part(int around) {
            if (reader.kind == Reader.NUMBER) {
                if (!number(0, Reader.TOO_LONG - 1)) {
                    return false;
                }
                garden.rules.add(told);
                return true;
            }
            if (reader.kind == Reader.WORD) {
                int which = valueTold();
                if (which == NONE) {
                    return fail(3);
                }
                garden.rules.add(Rules.FIRST_VALUE - which);
                reader.next();
                return true;
            }
            return pass('(') && either(around + 1) && pass(')');
        }

        private int valueTold() {
            if (reader.isWord("me")) {
                return Rules.ME;
            }
            if (reader.isWord("weight")) {
                return Rules.WEIGHS;
            }
            if (reader.isWord("height")) {
                return Rules.HEIGHT;
            }
            if (reader.isWord("place")) {
                return Rules.AT;
            }
            if (reader.isWord("tick")) {
                return Rules.TICK;
            }
            if (reader.isWord("up")) {
                return Rules.UP;
            }
            if (reader.isWord("on")) {
                return Rules.ON;
            }
            return reader.isWord("heavier") ? Rules.HEAVIER : NONE;
        }
    }

    /** All rules in one row, each with its operations behind what they work on. */
    static final class Rules {
        static final int ME = 0;
        static final int WEIGHS = 1;
        static final int HEIGHT = 2;
        static final int AT = 3;
        static final int TICK = 4;
        static final int UP = 5;
        static final int ON = 6;
        static final int HEAVIER = 7;
        static final int VALUES = 8;
        // Numbers from 0 on stand for themselves; values and operations are below 0.
        static final int OR = -1;
        static final int AND = -2;
        static final int NOT = -3;
        static final int LESS = -4;
        static final int SAME = -5;
        static final int PLUS = -6;
        static final int MINUS = -7;
        static final int TIMES = -8;
        static final int BY = -9;
        static final int FIRST_VALUE = -10;

        private final int[] code = new int[MOST_BYTES];
        private final int[] ends = new int[MOST_RULES];
        // Six expressions around one another leave at most five waiting operands each.
        private final int[] waiting = new int[40];
        private int length;
        int many;

        void clear() {
            length = 0;
            many = 0;
        }

        void add(int cell) {
            if (length >= 0 && length < code.length) {
                code[length] = cell;
                length++;
            }
        }

        void endRule() {
            if (many >= 0 && many < ends.length) {
                ends[many] = length;
                many++;
            }
        }

        boolean holds(int rule, int[] values) {
            if (rule < 0 || rule >= many || rule >= ends.length) {
                return true;
            }
            int top = 0;
            for (int i = rule == 0 ? 0 : ends[rule - 1]; i < ends[rule] && i < code.length; i++) {
                int cell = code[i];
                int which = FIRST_VALUE - cell;
                if (cell >= 0 || which >= 0) {
                    int operand = cell >= 0 ? cell : which < values.length ? values[which] : 0;
                    top = Math.min(top + 1, waiting.length);
                    waiting[top - 1] = operand;
                } else if (cell == NOT && top >= 1) {
                    waiting[top - 1] = waiting[top - 1] == 0 ? 1 : 0;
                } else if (top >= 2) {
                    waiting[top - 2] = join(cell, waiting[top - 2], waiting[top - 1]);
                    top--;
                }
            }
            return top >= 1 && waiting[top - 1] != 0;
        }

        private static int join(int operation, int left, int right) {
            switch (operation) {
                case OR: return left != 0 || right != 0 ? 1 : 0;
                case AND: return left != 0 && right != 0 ? 1 : 0;
                case LESS: return left < right ? 1 : 0;
                case SAME: return left == right ? 1 : 0;
                case PLUS: return left + right;
                case MINUS: return left - right;
                case TIMES: return left * right;
                default: return right == 0 ? 0 : left / right;
            }
        }
    }

    /** One jumper in a run. */
    static final class Flyer {
        final int me;
        int weight;
        int legs;
        int drop;
        int corrects;
        int doing;
        int place;
        int from;
        int since;
        int comes;
        int ups;
        int top;
        int fun;
        int hurts;
        int jarred;
        private final int[] kinds = new int[KINDS];

        Flyer(int me) {
            this.me = me;
        }

        void begin(Scene scene) {
            boolean here = me < scene.jumperCount;
            doing = here ? NOT_COME : AWAY;
            weight = scene.told(me, WEIGHT);
            legs = scene.told(me, LEGS);
            corrects = scene.told(me, CORRECTS);
            place = scene.told(me, PLACE);
            startIn(scene.told(me, START));
            dropFrom(scene.told(me, DROP));
            since = 0;
            ups = 0;
            top = 0;
            fun = 0;
            hurts = 0;
            jarred = 0;
            Arrays.fill(kinds, 0);
        }

        void startIn(int tick) {
            comes = tick;
        }

        void dropFrom(int height) {
            drop = height;
            from = height;
        }

        boolean isComing() {
            return doing == NOT_COME || doing == IN_THE_AIR;
        }

        void addKind(int kind) {
            if (kind >= 0 && kind < kinds.length) {
                kinds[kind]++;
            }
        }

        int landed(int kind) {
            return kind >= 0 && kind < kinds.length ? kinds[kind] : 0;
        }

        void rise(int height, int tick, int target) {
            ups++;
            top = Math.max(top, height);
            fun += height;
            doing = IN_THE_AIR;
            from = height;
            since = tick;
            comes = tick + flightOf(height);
            place = target;
        }

        private static int flightOf(int height) {
            return 2 + height / 2;
        }

        int heightIn(int tick) {
            if (doing == NOT_COME) {
                return drop;
            }
            int flight = flightOf(from);
            if (doing != IN_THE_AIR || flight < 1) {
                return 0;
            }
            int gone = tick - since;
            return 4 * from * gone * (flight - gone) / (flight * flight);
        }
    }

    /** The landings of a run, in one row. */
    static final class Landings {
        static final int OF_ONE = 5;
        private static final int TICK = 0;
        private static final int WHO = 1;
        private static final int KIND = 2;
        // From one landing of a jumper to his next it is four ticks or more (two there, two in the air).
        private static final int MOST = MOST_JUMPERS * MOST_TICKS / 4;

        private final int[] row = new int[MOST * OF_ONE];
        int many;
        int firstGap;
        int lastGap;
        int inStepFrom;

        void add(int tick, int who, int kind, int place, int power) {
            int at = many * OF_ONE;
            if (at < 0 || at > row.length - OF_ONE) {
                return;
            }
            row[at] = tick;
            row[at + 1] = who;
            row[at + 2] = kind;
            row[at + 3] = place;
            row[at + 4] = power;
            many++;
        }

        int told(int i, int what) {
            int at = i * OF_ONE + what;
            return at >= 0 && at < row.length ? row[at] : NONE;
        }

        private int nextOf(int who, int from) {
            for (int i = from; i < many; i++) {
                if (told(i, WHO) == who && told(i, KIND) != EDGED) {
                    return i;
                }
            }
            return many;
        }

        void pace(int one, int two) {
            firstGap = NONE;
            lastGap = NONE;
            inStepFrom = NONE;
            int i = nextOf(one, 0);
            int j = nextOf(two, 0);
            for (int k = 0; k < MOST && i < many && j < many; k++) {
                lastGap = Math.abs(told(i, TICK) - told(j, TICK));
                firstGap = k == 0 ? lastGap : firstGap;
                if (lastGap != 0) {
                    inStepFrom = NONE;
                } else if (inStepFrom == NONE) {
                    inStepFrom = k;
                }
                i = nextOf(one, i + 1);
                j = nextOf(two, j + 1);
            }
        }
    }

    /** A run; begun anew for each question, in the same rows. */
    static final class Play {
        private static final int NEVER = 1000000;

        private final Flyer[] flyers = new Flyer[MOST_JUMPERS];
        private final int[] values = new int[Rules.VALUES];
        final Landings landings = new Landings();
        private Garden garden = new Garden();
        int rule;
        private int due;
        private boolean still;
        private int began;
        private Flyer taker;
        int stored;
        int storedInAll;
        int jarredInAll;
        int hadInAll;
        int rises;
        int hurtTick;
        int hurtBits;

        Play() {
            for (int i = 0; i < flyers.length; i++) {
                flyers[i] = new Flyer(i);
            }
            taker = flyers[0];
        }

        Flyer flyer(int i) {
            return flyers[Math.max(0, Math.min(i, flyers.length - 1))];
        }

        void begin(Garden told, Scene scene) {
            garden = told;
            rule = scene.rule;
            for (int i = 0; i < flyers.length; i++) {
                flyers[i].begin(scene);
            }
            landings.many = 0;
            due = 0;
            still = true;
            began = 0;
            taker = flyers[0];
            stored = 0;
            storedInAll = 0;
            jarredInAll = 0;
            hadInAll = 0;
            rises = 0;
            hurtTick = NONE;
            hurtBits = 0;
        }

        void keepOnly(int bits) {
            for (int i = 0; i < flyers.length; i++) {
                if ((bits >> i & 1) == 0) {
                    flyers[i].doing = AWAY;
                }
            }
        }

        // Ticks in which nothing can happen are passed over: some questions play hundreds of runs.
        void go(int from, int to) {
            for (int tick = from; tick < to; tick++) {
                if (tick >= due) {
                    landAll(tick);
                    endRise(tick);
                    sendOthers(tick);
                    due = nextDue();
                }
            }
        }

        private int nextDue() {
            int next = still ? NEVER : riseEnds();
            for (int i = 0; i < flyers.length; i++) {
                Flyer flyer = flyers[i];
                if (flyer.isComing()) {
                    next = Math.min(next, flyer.comes);
                } else if (still && canPush(flyer)) {
                    next = Math.min(next, restEnds(flyer));
                }
            }
            return next;
        }

        private int riseEnds() {
            return began + 2 * garden.sinks;
        }

        private int restEnds(Flyer flyer) {
            return flyer.since + 2 * garden.sinks;
        }

        private static boolean canPush(Flyer flyer) {
            return flyer.doing == ON_THE_MAT && flyer.legs > 0;
        }

        private void landAll(int tick) {
            for (int i = 0; i < flyers.length; i++) {
                if (flyers[i].isComing() && flyers[i].comes == tick) {
                    land(flyers[i], tick);
                }
            }
        }

        private void land(Flyer flyer, int tick) {
            int power = flyer.weight * flyer.from;
            int kind = EDGED;
            if (garden.isBeyond(flyer.place)) {
                flyer.doing = OUT;
                hurt(flyer, tick);
            } else {
                knock(flyer, tick);
                flyer.doing = ON_THE_MAT;
                flyer.since = tick;
                kind = press(flyer, power, tick);
            }
            flyer.addKind(kind);
            landings.add(tick, flyer.me, kind, flyer.place, power);
        }

        private void hurt(Flyer flyer, int tick) {
            flyer.hurts++;
            if (hurtTick == NONE) {
                hurtTick = tick;
            }
            if (hurtTick == tick) {
                hurtBits |= 1 << flyer.me;
            }
        }

        private void knock(Flyer flyer, int tick) {
            boolean knocked = false;
            for (int i = 0; i < flyers.length; i++) {
                Flyer other = flyers[i];
                // He himself is not on the mat yet.
                if (other.doing == ON_THE_MAT && Math.abs(other.place - flyer.place) <= garden.near) {
                    other.addKind(KNOCKED);
                    hurt(other, tick);
                    knocked = true;
                }
            }
            if (knocked) {
                flyer.addKind(KNOCKED);
                hurt(flyer, tick);
            }
        }

        private int press(Flyer flyer, int power, int tick) {
            if (!still && tick - began >= garden.sinks) {
                flyer.jarred += power;
                jarredInAll += power;
                return JARRING;
            }
            int kind = ALONE;
            if (still) {
                still = false;
                began = tick;
            } else {
                kind = GAINING;
                taker.addKind(LOSING);
            }
            taker = flyer;
            stored += power;
            storedInAll += power;
            return kind;
        }

        private void endRise(int tick) {
            if (still || tick < riseEnds()) {
                return;
            }
            Flyer flyer = taker;
            int had = flyer.weight > 0 ? stored * garden.kept / 100 / flyer.weight : 0;
            int height = Math.min(had + flyer.legs, MOST_HEIGHT);
            stored = 0;
            still = true;
            rises++;
            if (mayGo(flyer, height, tick)) {
                hadInAll += had * flyer.weight;
                send(flyer, height, tick);
            }
        }

        private void sendOthers(int tick) {
            if (!still) {
                return;
            }
            for (int i = 0; i < flyers.length; i++) {
                Flyer flyer = flyers[i];
                boolean longThere = tick >= restEnds(flyer);
                if (canPush(flyer) && longThere && mayGo(flyer, flyer.legs, tick)) {
                    send(flyer, flyer.legs, tick);
                }
            }
        }

        private void send(Flyer flyer, int height, int tick) {
            flyer.rise(height, tick, garden.comesTo(flyer.place, height, flyer.corrects));
        }

        private boolean mayGo(Flyer flyer, int height, int tick) {
            if (rule == NONE) {
                return true;
            }
            values[Rules.ME] = flyer.me;
            values[Rules.WEIGHS] = flyer.weight;
            values[Rules.HEIGHT] = height;
            values[Rules.AT] = flyer.place;
            values[Rules.TICK] = tick;
            countOthers(flyer);
            return garden.rules.holds(rule, values);
        }

        private void countOthers(Flyer flyer) {
            int up = 0;
            int on = 0;
            int heavier = 0;
            for (int i = 0; i < flyers.length; i++) {
                Flyer other = flyers[i];
                if (i == flyer.me) {
                    continue;
                }
                if (other.doing == IN_THE_AIR) {
                    up++;
                } else if (other.doing == ON_THE_MAT) {
                    on++;
                    heavier += other.weight > flyer.weight ? 1 : 0;
                }
            }
            values[Rules.UP] = up;
            values[Rules.ON] = on;
            values[Rules.HEAVIER] = heavier;
        }

        int hurtsOfAll() {
            int all = 0;
            for (int i = 0; i < flyers.length; i++) {
                all += flyers[i].hurts;
            }
            return all;
        }

        int funOfAll() {
            int all = 0;
            for (int i = 0; i < flyers.length; i++) {
                all += flyers[i].fun;
            }
            return all;
        }
    }

    /** In how many ways one who slips comes to each place, of how many in all. */
    static final class Wander {
        private static final int PLACES = 2 * FARTHEST + 1;

        private final long[] ways = new long[PLACES];
        private final long[] nextWays = new long[PLACES];
        long fallen;
        long whole;

        void go(Garden garden, int place, int height, int corrects, int n) {
            fallen = 0;
            whole = 1;
            comeTo(garden, place, 1);
            takeNext();
            for (int i = 0; i < n; i++) {
                jump(garden, height, corrects);
                takeNext();
            }
        }

        private void jump(Garden garden, int height, int corrects) {
            int weights = garden.slipsLeft + garden.slipsNot + garden.slipsRight;
            fallen *= weights;
            whole *= weights;
            for (int i = 0; i < PLACES; i++) {
                if (ways[i] != 0) {
                    int target = garden.comesTo(i - FARTHEST, height, corrects);
                    comeTo(garden, target - 1, ways[i] * garden.slipsLeft);
                    comeTo(garden, target, ways[i] * garden.slipsNot);
                    comeTo(garden, target + 1, ways[i] * garden.slipsRight);
                }
            }
        }

        private void comeTo(Garden garden, int place, long many) {
            int at = place + FARTHEST;
            if (garden.isBeyond(place) || at < 0 || at >= PLACES) {
                fallen += many;
            } else {
                nextWays[at] += many;
            }
        }

        private void takeNext() {
            System.arraycopy(nextWays, 0, ways, 0, PLACES);
            Arrays.fill(nextWays, 0);
        }

        long waysAt(int place) {
            return place >= -FARTHEST && place <= FARTHEST ? ways[place + FARTHEST] : 0;
        }
    }

    /** What the opener gains, if both choose as well as can be. */
    static final class Egg {
        private final int[] greatest = new int[MOST_PUSHES];
        long upper;
        long lower;
        int many;

        void open(Garden garden) {
            upper = 0;
            lower = 1;
            many = 0;
            int pushCount = Math.min(garden.pushCount, MOST_PUSHES);
            if (pushCount < 2) {
                return;
            }
            sort(garden, pushCount);
            long product = (long) greatest[0] * greatest[1];
            long sum = greatest[0] + greatest[1];
            many = 2;
            // One more is worth it just if it is above what the others give; from the first that is not, none is.
            for (int i = 2; i < pushCount && greatest[i] * sum > (many - 1) * product; i++) {
                sum = sum * greatest[i] + product;
                product *= greatest[i];
                many++;
            }
            upper = (many - 1) * product;
            lower = sum;
        }

        private void sort(Garden garden, int pushCount) {
            for (int i = 0; i < pushCount && i < MOST_PUSHES; i++) {
                int push = garden.pushes[i];
                int at = i;
                for (; at > 0 && greatest[at - 1] < push; at--) {
                    greatest[at] = greatest[at - 1];
                }
                greatest[at] = push;
            }
        }
    }
}
