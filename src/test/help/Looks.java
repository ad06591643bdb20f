/** All that can be seen of an object, in several ways, each on an object of its own: some ways of looking change what they look at. */
final class Looks {
    static final int WAYS = 5;
    private final StringBuilder seen = new StringBuilder();
    private final TrampolineMat x;
    private final int status;

    /** Of the status (0 to 2; NONE: of none) one refused call is not looked at. */
    private Looks(TrampolineMat x, int status) {
        this.x = x;
        this.status = status;
    }

    static String at(TrampolineMat x, int way, int status) {
        Looks looks = new Looks(x, status);
        switch (way) {
            case 0: looks.all(); break;
            case 1: looks.actsBack(); break;
            case 2: looks.placesBack(); break;
            case 3: looks.theTape(); break;
            default: looks.theImage(); break;
        }
        return looks.seen.toString();
    }

    private void see(String what, Mats.Call call) {
        seen.append(what).append(' ').append(Mats.answerOf(call)).append(' ');
    }

    private void all() {
        told();
        for (int j = 0; j < x.count(8); j++) {
            int jumper = j;
            for (int what = 0; what < 7; what++) {
                int w = what;
                see("ran", () -> x.ran(jumper, w));
            }
            for (int kind = 0; kind < 6; kind++) {
                int k = kind;
                see("lands", () -> x.lands(jumper, k));
            }
        }
        for (int what = 0; what < 5; what++) {
            int w = what;
            see("mat", () -> x.mat(w));
            see("landing", () -> x.landing(x.landing(NONE, 0) - 1, w));
        }
        for (int what = 0; what < 3; what++) {
            int w = what;
            see("egg", () -> x.egg(w));
        }
        see("broken", () -> x.broken(0));
        see("broken", () -> x.broken(8));
        see("falls", () -> x.falls(2, 9, 1, 4, 0));
        see("safe", () -> x.safe(12, 1, 9));
        see("best", x::best);
        see("compare", () -> x.compare(1, 1));
    }

    private static final int NONE = TrampolineMat.NONE;

    private void told() {
        for (int what = 0; what < 19; what++) {
            int w = what;
            see("count(" + w + ")", () -> x.count(w) - (status != NONE && w == 16 + status ? 1 : 0));
        }
        see("fault", x::fault);
        jumpers();
    }

    private void jumpers() {
        for (int j = 0; j < x.count(8); j++) {
            int jumper = j;
            for (int what = 0; what < 6; what++) {
                int w = what;
                see("jumper", () -> x.jumper(jumper, w));
            }
        }
    }

    private void actsBack() {
        for (int i = 0; i < 15; i++) {
            see("undo", x::undo);
            see("RULE", () -> x.count(10));
            see("N", () -> x.count(11));
            jumpers();
        }
    }

    private void placesBack() {
        for (int i = 0; i < 22; i++) {
            for (int h = 0; h <= 60; h += 4) {
                int height = h;
                see("broken", () -> x.broken(height));
            }
            see("forget", x::forget);
        }
    }

    private void theTape() {
        see("garden", () -> x.garden(x.count(15)));
        told();
    }

    private void theImage() {
        see("restore", () -> x.restore() ? 1 : 0);
        told();
        see("broken", () -> x.broken(8));
        actsBack();
    }
}
