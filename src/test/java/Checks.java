/** What all tests share: comparing answers, and bringing texts to the tape. */
final class Checks {
    private static int passed = 0;
    private static int failed = 0;

    private Checks() {
    }

    static void same(String what, long got, long due) {
        if (got == due) {
            passed++;
        } else {
            failed++;
            System.out.println(what + " answered " + got + ", due is " + due);
        }
    }

    static void holds(String what, boolean got) {
        same(what, got ? 1 : 0, 1);
    }

    /** An answer with STATUS 0. */
    static void fine(HollowWall x, String what, long got, long due) {
        same(what, got, due);
        same("status behind " + what, x.status(), 0);
    }

    static void accepted(HollowWall x, String what, boolean got) {
        fine(x, what, got ? 1 : 0, 1);
    }

    /** NONE with another STATUS. */
    static void refused(HollowWall x, String what, long got, int status) {
        same(what, got, HollowWall.NONE);
        same("status behind " + what, x.status(), status);
    }

    static void denied(HollowWall x, String what, boolean got, int status) {
        same(what, got ? 1 : 0, 0);
        same("status behind " + what, x.status(), status);
    }

    static void fraction(HollowWall x, String what, long top, long bottom) {
        same("top of " + what, x.top(), top);
        same("bottom of " + what, x.bottom(), bottom);
    }

    static int signAt(String text, int place) {
        return place < text.length() ? text.charAt(place) & 255 : ' ';
    }

    private static int four(String text, int place) {
        return signAt(text, place) << 24 | signAt(text, place + 1) << 16 | signAt(text, place + 2) << 8
                | signAt(text, place + 3);
    }

    /** Behind what is on the tape comes a text, filled up with blanks to whole twenties. */
    static void feed(HollowWall x, String text) {
        for (int i = 0; i < text.length(); i += 20) {
            x.feed(four(text, i), four(text, i + 4), four(text, i + 8), four(text, i + 12), four(text, i + 16));
        }
    }

    static int wall(HollowWall x, String text) {
        feed(x, text);
        return x.wall(text.length());
    }

    static int round(HollowWall x, String text) {
        feed(x, text);
        return x.round(text.length());
    }

    static HollowWall built(String text) {
        HollowWall x = new HollowWall();
        wall(x, text);
        same("status behind wall " + text, x.status(), 0);
        return x;
    }

    static void end() {
        System.out.println(passed + " passed, " + failed + " failed");
        if (failed > 0) {
            System.exit(1);
        }
    }
}
