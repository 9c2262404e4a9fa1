/** Promises 1 to 4: a new object, STATUS, the FRACTION. */
public final class NewObjectTest {
    public static void main(String[] args) {
        newObject();
        emptyWall();
        statusOfLatest();
        fractions();
        Checks.end();
    }

    private static void newObject() {
        HollowWall x = new HollowWall();
        Checks.same("status", x.status(), 0);
        Checks.fraction(x, "new", 0, 1);
        Checks.same("fault 0", x.fault(0), -1);
        Checks.same("fault 1", x.fault(1), -1);
        Checks.same("status behind fault", x.status(), 0);
        int[] due = {0, 0, 0, 0, 0, 7, 1, 0, 0};
        for (int what = 0; what < due.length; what++) {
            Checks.fine(x, "many " + what, x.many(what), due[what]);
        }
        for (int t = 0; t < 4; t++) {
            Checks.refused(x, "read of a missing tray", x.read(t, 0), 3);
        }
        Checks.refused(x, "back", x.back(), 8);
        Checks.refused(x, "walk", x.walk(0, 0), 8);
        Checks.refused(x, "walked", x.walked(0), 8);
        Checks.refused(x, "firstCount", x.firstCount(), 8);
        Checks.same("an empty tape", x.feed(0, 0, 0, 0, 0), 20);
        Checks.same("NONE", HollowWall.NONE, -1);
    }

    private static void emptyWall() {
        HollowWall x = new HollowWall();
        Checks.refused(x, "stone", x.stone(0, 0), 2);
        Checks.refused(x, "mason", x.mason(0, 0), 2);
        Checks.refused(x, "hollows", x.hollows(0, 0), 2);
        Checks.refused(x, "nextHollow", x.nextHollow(0), 2);
        Checks.refused(x, "shift", x.shift(0), 2);
        Checks.refused(x, "knock", x.knock(0), 2);
        Checks.denied(x, "note", x.note(0, 0), 2);
        Checks.denied(x, "hammer", x.hammer(0), 2);
        Checks.refused(x, "sure", x.sure(0, true), 2);
        Checks.denied(x, "blame", x.blame(0, true), 2);
        Checks.refused(x, "dated", x.dated(0, 0), 2);
        Checks.refused(x, "hollowAt", x.hollowAt(0), 8);
        Checks.refused(x, "bestKnock", x.bestKnock(false), 8);
        Checks.fine(x, "least", x.least(true), 0);
        Checks.fine(x, "ways", x.ways(false), 1);
        Checks.fine(x, "free ways", x.ways(true), 7);
        Checks.fine(x, "telling", x.telling(true, 0), 0);
        Checks.refused(x, "telling first", x.telling(true, 1), 8);
        Checks.fine(x, "explain", x.explain(true), 0);
        Checks.fine(x, "firstCount", x.firstCount(), 1);
        Checks.fine(x, "oaths", x.oaths(), 90);
        Checks.fine(x, "twice", x.twice(), 0);
        Checks.fine(x, "gap", x.gap(), 0);
    }

    private static void statusOfLatest() {
        HollowWall x = new HollowWall();
        x.many(9);
        Checks.same("status", x.status(), 5);
        x.fault(0);
        x.top();
        x.bottom();
        x.feed(1, 2, 3, 4, 5);
        Checks.same("status of calls that have none", x.status(), 5);
        Checks.same("status of status", x.status(), 5);
        x.many(0);
        Checks.same("status", x.status(), 0);
    }

    private static void fractions() {
        HollowWall x = Checks.built("oath 5 from 5;course 10;mason a lays 4 costs 2;mason b lays 6 costs 2;");
        Checks.accepted(x, "note", x.note(7, 1));
        Checks.accepted(x, "blame", x.blame(0, false));
        long top = x.top();
        long bottom = x.bottom();
        Checks.denied(x, "blame", x.blame(7, false), 2);
        Checks.fraction(x, "the latest", top, bottom);
        Checks.same("status behind top, bottom", x.status(), 2);
        Checks.round(x, "stop;");
        Checks.accepted(x, "odds", x.odds(0, 6, 0));
        Checks.fraction(x, "0 by 6", 0, 1);
        x.clear();
        Checks.accepted(x, "odds", x.odds(0, 6, 0));
        Checks.fraction(x, "6 by 6", 1, 1);
    }
}
