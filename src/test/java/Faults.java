/** Texts that are taken, and texts with a FAULT: each comes to a new object. */
final class Faults {
    private Faults() {
    }

    static void wall(String text, int fault, int place) {
        HollowWall x = new HollowWall();
        Checks.refused(x, text, Checks.wall(x, text), 10);
        told(x, text, fault, place);
    }

    static void round(String text, int fault, int place) {
        HollowWall x = new HollowWall();
        Checks.refused(x, text, Checks.round(x, text), 10);
        told(x, text, fault, place);
    }

    private static void told(HollowWall x, String text, int fault, int place) {
        Checks.same("fault of " + text, x.fault(0), fault);
        Checks.same("place of " + text, x.fault(1), place);
    }

    /** The FAULT is at the first sign behind the bar. */
    static void wallAtBar(String text, int fault) {
        int bar = text.indexOf('|');
        wall(text.substring(0, bar) + text.substring(bar + 1), fault, bar);
    }

    static void roundAtBar(String text, int fault) {
        int bar = text.indexOf('|');
        round(text.substring(0, bar) + text.substring(bar + 1), fault, bar);
    }

    static void wallTaken(String text, int stones) {
        HollowWall x = new HollowWall();
        Checks.fine(x, text, Checks.wall(x, text), stones);
        told(x, text, 0, HollowWall.NONE);
    }

    static void roundTaken(String text, int steps) {
        HollowWall x = new HollowWall();
        Checks.fine(x, text, Checks.round(x, text), steps);
        told(x, text, 0, HollowWall.NONE);
    }
}
