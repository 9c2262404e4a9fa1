import java.util.ArrayList;
import java.util.List;

/**
 * Two objects with one history: one call comes to the first alone, and then both are asked for all that can be seen. What
 * the call should not have changed is the same in both.
 */
final class Twins {
    interface History {
        void with(HollowWall x);
    }

    interface Call {
        long of(HollowWall x);
    }

    interface Test {
        boolean of(HollowWall x);
    }

    private static final int TEXT_AHEAD = 24;
    private static final String TEXT = " oath 5 from 4;course 2;";

    private Twins() {
    }

    static void fresh(HollowWall x) {
        Checks.same("a new object", x.status(), 0);
    }

    /** Something of all there is: TRAYS, a WALL, NOTES, a ROUND, a walk, a reading, a FRACTION, two MARKS, a text. */
    static void rich(HollowWall x) {
        x.tray(0, 0, 3);
        x.write(0, 0, 1);
        x.write(0, 2, -1);
        x.tray(1, 1, 4);
        x.write(1, 3, 300);
        x.tray(2, 1, 2);
        x.write(2, 0, -300);
        Checks.wall(x, "oath 3 from 2;course 4;course 3;mason a lays 3 costs 2;mason b lays 1 costs 4;slip at 2 by 1;"
            + "slip at 5 by 2;find at 1 year 7;find at 6 year 5;");
        Checks.same("the WALL of all histories", x.status(), 0);
        x.mark();
        Checks.round(x, "knock;note;go 2;");
        x.note(2, 1);
        x.hammer(1);
        x.mark();
        x.note(4, 1);
        x.walk(5, 8);
        Checks.holds("a reading with a SLIP", x.explain(false) > 0);
        x.odds(0, 3, 8);
        Checks.feed(x, TEXT);
    }

    /** As rich, but the latest text had a FAULT, which is not at 0. */
    static void faulty(HollowWall x) {
        rich(x);
        x.round(TEXT_AHEAD);
        Checks.same("the FAULT of the history", x.fault(1), 1);
    }

    static void threeMarks(HollowWall x) {
        rich(x);
        Checks.same("a third MARK", x.mark(), 3);
    }

    static void fullTape(HollowWall x) {
        rich(x);
        for (int i = 2; i < 45; i++) {
            x.feed(0x20202020, 0x20202020, 0x20202020, 0x20202020, 0x20202020);
        }
    }

    /** A call that answers NONE with a STATUS, and changes nothing else. */
    static void refused(String what, History history, Call call, int status) {
        alone(what, history, call, HollowWall.NONE, status);
    }

    /** A call that answers false with a STATUS, and changes nothing else. */
    static void denied(String what, History history, Test call, int status) {
        alone(what, history, x -> call.of(x) ? 1 : 0, 0, status);
    }

    private static void alone(String what, History history, Call call, long due, int status) {
        HollowWall one = new HollowWall();
        HollowWall other = new HollowWall();
        history.with(one);
        history.with(other);
        Checks.same(what, call.of(one), due);
        Checks.same("status behind " + what, one.status(), status);
        compare(what, one, other, "");
    }

    /** A call that has no STATUS, and changes nothing. */
    static void silent(String what, History history, Call call, long due) {
        HollowWall one = new HollowWall();
        HollowWall other = new HollowWall();
        history.with(one);
        history.with(other);
        one.many(9);
        other.many(9);
        Checks.same(what, call.of(one), due);
        Checks.same("status behind " + what, one.status(), 5);
        compare(what, one, other, "");
    }

    /** A call that is answered, and changes nothing but that of which the names begin so. */
    static void changesOnly(String what, History history, Call call, String but) {
        HollowWall one = new HollowWall();
        HollowWall other = new HollowWall();
        history.with(one);
        history.with(other);
        call.of(one);
        Checks.same("status behind " + what, one.status(), 0);
        compare(what, one, other, but);
    }

    private static void compare(String what, HollowWall one, HollowWall other, String but) {
        List<String> got = all(one);
        List<String> due = all(other);
        Checks.same("how much is seen behind " + what, got.size(), due.size());
        for (int i = 0; i < got.size() && i < due.size(); i++) {
            boolean meant = !but.isEmpty() && due.get(i).startsWith(but);
            Checks.holds(what + " changed " + due.get(i) + " to " + got.get(i), meant || got.get(i).equals(due.get(i)));
        }
    }

    /** What can be seen of an object, each as a name and a number; it is of no use behind that. */
    private static List<String> all(HollowWall x) {
        List<String> seen = new ArrayList<>();
        told(x, seen);
        trays(x, seen);
        site(x, seen);
        stones(x, seen);
        text(x, seen);
        for (int left = 0; left < 4; left++) {
            see(seen, "marks", x.back());
            site(x, seen);
        }
        return seen;
    }

    private static void see(List<String> seen, String name, long number) {
        seen.add(name + " " + number);
    }

    private static void told(HollowWall x, List<String> seen) {
        see(seen, "fraction top", x.top());
        see(seen, "fraction bottom", x.bottom());
        see(seen, "fault 0", x.fault(0));
        see(seen, "fault 1", x.fault(1));
        for (int k = 0; k < 4; k++) {
            see(seen, "explained stone " + k, x.slipAt(k, 0));
            see(seen, "explained by " + k, x.slipAt(k, 1));
        }
        see(seen, "explained first", x.firstCount());
        for (int what = 0; what < 4; what++) {
            see(seen, "walked " + what, x.walked(what));
        }
    }

    private static void trays(HollowWall x, List<String> seen) {
        for (int t = 0; t < 4; t++) {
            long many = 0;
            boolean there = true;
            for (int place = 0; there && place < 60; place++) {
                see(seen, "tray " + t + " place " + place, x.read(t, place));
                there = x.status() == 0;
                many += there ? 1 : 0;
            }
            see(seen, "tray " + t + " numbers", many);
            x.write(t, 0, 0x123456789abcdefL);
            see(seen, "tray " + t + " cuts", x.read(t, 0));
            see(seen, "tray " + t + " is there", x.status());
        }
    }

    /** All that a MARK keeps. */
    private static void site(HollowWall x, List<String> seen) {
        for (int what = 0; what < 9; what++) {
            see(seen, "many " + what, x.many(what));
        }
        int stones = Math.min(8, x.many(0));
        for (int s = 0; s < stones; s++) {
            see(seen, "noted " + s, x.stone(s, 6));
        }
        see(seen, "walk", x.walk(3, 8));
        see(seen, "walk came to", x.many(7));
        see(seen, "walk noted", x.many(8));
    }

    private static void stones(HollowWall x, List<String> seen) {
        int stones = Math.min(8, x.many(0));
        for (int s = 0; s < stones; s++) {
            for (int what = 0; what < 8; what++) {
                see(seen, "stone " + s + " what " + what, x.stone(s, what));
            }
        }
        int masons = x.many(2);
        for (int k = 0; k < masons; k++) {
            for (int what = 0; what < 4; what++) {
                see(seen, "mason " + k + " what " + what, x.mason(k, what));
            }
        }
    }

    /** How many bytes the tape has, and what these are read as. */
    private static void text(HollowWall x, List<String> seen) {
        see(seen, "tape", x.feed(0x3b3b3b3b, 0, 0, 0, 0));
        for (int n : new int[] {900, 880, 340, 60, TEXT_AHEAD, 20}) {
            see(seen, "tape read " + n, x.wall(n));
            if (x.status() != 5) {
                see(seen, "tape fault " + n, x.fault(0));
                see(seen, "tape place " + n, x.fault(1));
            }
        }
        see(seen, "tape stones", x.many(0));
        see(seen, "tape oath", x.many(5));
    }
}
