/** Promises 51 and 52: mark, back. */
public final class MarksTest {
    private static final String ONE = "oath 3 from 1;course 4;course 3;mason a lays 3 costs 2;slip at 2 by 1;find at 1 year 5;";
    private static final String TWO = "oath 5 from 4;course 9;";

    public static void main(String[] args) {
        howMany();
        ofNewObject();
        allIsTakenBack();
        latestFirst();
        whatStays();
        Checks.end();
    }

    private static void howMany() {
        HollowWall x = new HollowWall();
        Checks.refused(x, "back", x.back(), 8);
        for (int round = 0; round < 3; round++) {
            for (int i = 1; i <= 3; i++) {
                Checks.fine(x, "mark", x.mark(), i);
            }
            Checks.refused(x, "a fourth", x.mark(), 7);
            for (int i = 2; i >= 0; i--) {
                Checks.fine(x, "back", x.back(), i);
            }
            Checks.refused(x, "back", x.back(), 8);
        }
    }

    private static void ofNewObject() {
        HollowWall x = new HollowWall();
        x.mark();
        Checks.wall(x, ONE);
        Checks.round(x, "go 1;");
        x.knock(2);
        Checks.fine(x, "back", x.back(), 0);
        int[] due = {0, 0, 0, 0, 0, 7, 1, 0, 0};
        for (int what = 0; what < due.length; what++) {
            Checks.fine(x, "many " + what, x.many(what), due[what]);
        }
        Checks.refused(x, "no round", x.walk(0, 0), 8);
    }

    private static void allIsTakenBack() {
        HollowWall x = Checks.built(ONE);
        Checks.round(x, "go 1;knock;note;");
        x.hammer(3);
        x.note(0, 1);
        x.note(6, 0);
        Checks.fine(x, "mark", x.mark(), 1);
        Checks.wall(x, TWO);
        Checks.round(x, "turn;");
        x.hammer(8);
        x.note(0, 0);
        x.note(1, 1);
        Checks.fine(x, "back", x.back(), 0);
        int[] due = {7, 2, 1, 1, 1, 3, 1, 3, 2};
        for (int what = 0; what < due.length; what++) {
            Checks.fine(x, "many " + what, x.many(what), due[what]);
        }
        int[][] stones = {{0, 0, 0, 1, 1, 0, 1, -1}, {0, 1, 0, 2, 2, 0, -1, 5}, {0, 2, 0, 1, 3, 0, -1, -1},
            {0, 3, 0, 2, 1, 0, -1, -1}, {1, 0, 0, 3, 2, 1, -1, -1}};
        for (int s = 0; s < stones.length; s++) {
            for (int what = 0; what < 8; what++) {
                Checks.same("stone " + s + " what " + what, x.stone(s, what), stones[s][what]);
            }
        }
        Checks.fine(x, "laid", x.mason(0, 1), 7);
        Checks.fine(x, "price", x.price(), 2);
        Checks.fine(x, "dearest", x.dearest(), 0);
        Checks.fine(x, "its round", x.walk(0, 0), 3);
        Checks.fine(x, "4 is hollow", x.stone(4, 6), 1);
        // A ROUND that was not there when the MARK was made goes, too.
        HollowWall y = Checks.built(ONE);
        y.mark();
        Checks.round(y, "turn;");
        Checks.fine(y, "walk", y.walk(0, 0), 1);
        y.back();
        Checks.refused(y, "no round", y.walk(0, 0), 8);
        Checks.fine(y, "hammer", y.many(7), 0);
    }

    private static void latestFirst() {
        HollowWall x = Checks.built(TWO);
        for (int i = 1; i <= 3; i++) {
            x.note(i, 1);
            x.hammer(i);
            Checks.fine(x, "mark", x.mark(), i);
        }
        x.clear();
        x.hammer(8);
        for (int i = 3; i >= 1; i--) {
            Checks.fine(x, "back", x.back(), i - 1);
            Checks.fine(x, "hammer", x.many(7), i);
            Checks.fine(x, "noted", x.many(8), i);
            x.note(7, 0);
        }
        // What is done behind back() does not come to the MARKS that are left.
        Checks.fine(x, "noted now", x.many(8), 2);
        x.mark();
        x.note(8, 1);
        x.mark();
        x.back();
        x.back();
        Checks.refused(x, "8 is not noted", x.stone(8, 6), 8);
    }

    private static void whatStays() {
        HollowWall x = Checks.built(ONE);
        x.tray(0, 3, 2);
        x.mark();
        x.write(0, 1, 9);
        x.note(4, 1);
        x.note(3, 1);
        Checks.fine(x, "explain", x.explain(false), 2);
        int stone = x.slipAt(0, 0);
        Checks.round(x, "knock;knock;");
        x.walk(0, 16);
        Checks.wall(x, "oath 1");
        Checks.feed(x, "abc");
        Checks.fine(x, "back", x.back(), 0);
        Checks.fine(x, "trays", x.read(0, 1), 9);
        Checks.fine(x, "explained", x.slipAt(0, 0), stone);
        Checks.fine(x, "walked", x.walked(1), 2);
        Checks.same("fault", x.fault(0), 4);
        Checks.same("the tape", x.feed(0, 0, 0, 0, 0), 40);
    }
}
