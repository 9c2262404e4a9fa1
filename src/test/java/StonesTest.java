/** Promises 13 to 23: many, stone, mason, hollows, hollowAt, nextHollow, gap, shift, price, dearest, astray. */
public final class StonesTest {
    // True counts: 3 4 5 1 | 4 5 1 2 3 4 5 | 3 4 5 1 2 3 4 5; a lays 0 to 5, bo 6 to 10, c 11 to 18.
    private static final String WALL = "oath 5 from 3;course 4;course 7;course 8;mason a lays 6 costs 4;"
            + "mason bo lays 5 costs 7;mason c lays 3 costs 2;slip at 4 by 2;slip at 11 by 2;"
            + "find at 18 year 9999;find at 0 year 0;";
    private static final int[] TRUE = {3, 4, 5, 1, 4, 5, 1, 2, 3, 4, 5, 3, 4, 5, 1, 2, 3, 4, 5};
    private static final int[] SWORN = {3, 4, 5, 1, 2, 3, 4, 5, 1, 2, 3, 4, 5, 1, 2, 3, 4, 5, 1};

    public static void main(String[] args) {
        many();
        stones();
        masons();
        masonsWithout();
        hollows();
        gaps();
        shifts();
        prices();
        astray();
        Checks.end();
    }

    private static void many() {
        HollowWall x = Checks.built(WALL);
        int[] due = {19, 3, 3, 2, 2, 5, 3, 0, 0};
        for (int what = 0; what < due.length; what++) {
            Checks.fine(x, "many " + what, x.many(what), due[what]);
        }
        Checks.refused(x, "many 9", x.many(9), 5);
        Checks.refused(x, "many -1", x.many(-1), 5);
        x.hammer(17);
        x.knock(4);
        x.note(5, 0);
        x.note(6, -1);
        Checks.fine(x, "hammer", x.many(7), 17);
        Checks.fine(x, "noted", x.many(8), 2);
    }

    private static void stones() {
        HollowWall x = Checks.built(WALL);
        for (int s = 0; s < 19; s++) {
            int course = s < 4 ? 0 : s < 11 ? 1 : 2;
            int start = s < 4 ? 0 : s < 11 ? 4 : 11;
            Checks.fine(x, "course of " + s, x.stone(s, 0), course);
            Checks.fine(x, "in its course " + s, x.stone(s, 1), s - start);
            Checks.fine(x, "who laid " + s, x.stone(s, 2), s < 6 ? 0 : s < 11 ? 1 : 2);
            Checks.fine(x, "true count of " + s, x.stone(s, 3), TRUE[s]);
            Checks.fine(x, "sworn count of " + s, x.stone(s, 4), SWORN[s]);
            Checks.fine(x, "hollow " + s, x.stone(s, 5), TRUE[s] == 5 ? 1 : 0);
            Checks.refused(x, "noted " + s, x.stone(s, 6), 8);
            if (s != 0 && s != 18) {
                Checks.refused(x, "find in " + s, x.stone(s, 7), 8);
            }
        }
        Checks.fine(x, "find in 0", x.stone(0, 7), 0);
        Checks.fine(x, "find in 18", x.stone(18, 7), 9999);
        x.note(3, 0);
        x.note(4, 1);
        Checks.fine(x, "noted full", x.stone(3, 6), 0);
        Checks.fine(x, "noted hollow", x.stone(4, 6), 1);
        Checks.refused(x, "stone -1", x.stone(-1, 0), 2);
        Checks.refused(x, "stone 19", x.stone(19, 9), 2);
        Checks.refused(x, "what 8", x.stone(0, 8), 5);
        Checks.refused(x, "what -1", x.stone(0, -1), 5);
        HollowWall nobody = Checks.built("oath 5 from 3;course 4;");
        Checks.refused(nobody, "laid by nobody", nobody.stone(0, 2), 8);
    }

    private static void masons() {
        HollowWall x = Checks.built(WALL);
        int[][] due = {{0, 6, 4, 1}, {6, 5, 7, 0}, {11, 8, 2, 1}};
        for (int k = 0; k < 3; k++) {
            for (int what = 0; what < 4; what++) {
                Checks.fine(x, "mason " + k + " what " + what, x.mason(k, what), due[k][what]);
            }
        }
        Checks.refused(x, "mason 3", x.mason(3, 9), 2);
        Checks.refused(x, "mason -1", x.mason(-1, 0), 2);
        Checks.refused(x, "what 4", x.mason(0, 4), 5);
        Checks.refused(x, "what -1", x.mason(0, -1), 5);
    }

    private static void masonsWithout() {
        HollowWall x = Checks.built("oath 5 from 3;mason a lays 6 costs 1;mason b lays 6 costs 2;mason c lays 6 costs 3;"
                + "mason d lays 1 costs 4;course 10;");
        Checks.fine(x, "b lays less than told", x.mason(1, 1), 4);
        Checks.fine(x, "from", x.mason(1, 0), 6);
        Checks.refused(x, "c lays none", x.mason(2, 0), 8);
        Checks.fine(x, "c lays 0", x.mason(2, 1), 0);
        Checks.fine(x, "c costs", x.mason(2, 2), 3);
        Checks.fine(x, "c slips", x.mason(2, 3), 0);
        Checks.refused(x, "d lays none", x.mason(3, 0), 8);
        Checks.fine(x, "d lays 0", x.mason(3, 1), 0);
        HollowWall exact = Checks.built("oath 5 from 3;mason a lays 6 costs 1;mason b lays 6 costs 2;course 6;");
        Checks.refused(exact, "b lays none", exact.mason(1, 0), 8);
        HollowWall alone = Checks.built("oath 5 from 3;mason a lays 1 costs 1;course 6;");
        Checks.fine(alone, "the last lays all that are left", alone.mason(0, 1), 6);
        HollowWall empty = Checks.built("oath 5 from 3;mason a lays 1 costs 1;");
        Checks.refused(empty, "no stones to lay", empty.mason(0, 0), 8);
    }

    private static void hollows() {
        HollowWall x = Checks.built(WALL);
        int[] where = {2, 5, 10, 13, 18};
        Checks.fine(x, "all", x.hollows(0, 18), 5);
        Checks.fine(x, "both ends count", x.hollows(2, 5), 2);
        Checks.fine(x, "none", x.hollows(6, 9), 0);
        Checks.fine(x, "one stone", x.hollows(13, 13), 1);
        Checks.refused(x, "turned", x.hollows(5, 4), 5);
        Checks.refused(x, "none such", x.hollows(-1, 5), 2);
        Checks.refused(x, "none such", x.hollows(0, 19), 2);
        Checks.refused(x, "none such, turned", x.hollows(19, 0), 2);
        for (int k = 0; k < where.length; k++) {
            Checks.fine(x, "hollowAt " + k, x.hollowAt(k), where[k]);
        }
        Checks.refused(x, "hollowAt 5", x.hollowAt(5), 8);
        Checks.refused(x, "hollowAt -1", x.hollowAt(-1), 8);
        Checks.fine(x, "next from 3", x.nextHollow(3), 5);
        Checks.fine(x, "next from 5", x.nextHollow(5), 5);
        Checks.fine(x, "next from 14", x.nextHollow(14), 18);
        Checks.refused(x, "next from 19", x.nextHollow(19), 2);
        Checks.refused(x, "next from -1", x.nextHollow(-1), 2);
        HollowWall none = Checks.built("oath 13 from 1;course 5;");
        Checks.refused(none, "next of none", none.nextHollow(0), 8);
        Checks.refused(none, "first of none", none.hollowAt(0), 8);
    }

    private static void gaps() {
        HollowWall x = Checks.built(WALL);
        Checks.fine(x, "gap", x.gap(), 4);
        HollowWall behind = Checks.built("oath 7 from 7;course 5;");
        Checks.fine(behind, "gap to the end", behind.gap(), 4);
        HollowWall ahead = Checks.built("oath 7 from 2;course 7;");
        Checks.fine(ahead, "gap from the beginning", ahead.gap(), 5);
        HollowWall none = Checks.built("oath 2 from 2;course 1;");
        Checks.fine(none, "all hollow", none.gap(), 0);
    }

    private static void shifts() {
        HollowWall x = Checks.built(WALL);
        for (int s = 0; s < 19; s++) {
            Checks.fine(x, "shift of " + s, x.shift(s), s < 4 ? 0 : s < 11 ? 2 : 4);
        }
        Checks.refused(x, "none such", x.shift(19), 2);
        HollowWall round = Checks.built("oath 5 from 3;course 9;slip at 2 by 3;slip at 6 by 4;");
        Checks.fine(round, "3", round.shift(5), 3);
        Checks.fine(round, "7 is 2", round.shift(6), 2);
        HollowWall whole = Checks.built("oath 5 from 3;course 9;slip at 2 by 3;slip at 6 by 2;");
        Checks.fine(whole, "5 is 0", whole.shift(8), 0);
    }

    private static void prices() {
        HollowWall x = Checks.built(WALL);
        // at 4 in what a laid: 4; at 11, where the count came to c: 1
        Checks.fine(x, "price", x.price(), 5);
        Checks.fine(x, "dearest", x.dearest(), 0);
        HollowWall nobody = Checks.built("oath 5 from 3;course 9;slip at 2 by 3;slip at 6 by 4;");
        Checks.fine(nobody, "price of nobody", nobody.price(), 2);
        Checks.refused(nobody, "dearest of nobody", nobody.dearest(), 8);
        HollowWall even = Checks.built("oath 5 from 3;course 9;mason a lays 3 costs 2;mason b lays 3 costs 9;"
                + "mason c lays 3 costs 1;slip at 1 by 1;slip at 3 by 1;slip at 6 by 1;slip at 7 by 1;");
        Checks.fine(even, "price", even.price(), 5);
        Checks.fine(even, "of several the first", even.dearest(), 0);
        HollowWall second = Checks.built("oath 5 from 3;course 9;mason a lays 3 costs 2;mason b lays 6 costs 3;"
                + "slip at 1 by 1;slip at 4 by 1;");
        Checks.fine(second, "dearest", second.dearest(), 1);
        HollowWall none = Checks.built("oath 5 from 3;course 9;mason a lays 3 costs 2;");
        Checks.fine(none, "no slips", none.price(), 0);
        Checks.refused(none, "no slips", none.dearest(), 8);
    }

    private static void astray() {
        HollowWall x = Checks.built(WALL);
        Checks.fine(x, "astray", x.astray(), 5);
        HollowWall sworn = Checks.built("oath 5 from 3;course 2;slip at 1 by 4;");
        Checks.refused(sworn, "a slip that is not heard", sworn.astray(), 8);
        HollowWall missed = Checks.built("oath 5 from 3;course 3;slip at 1 by 4;");
        Checks.fine(missed, "sworn hollow, truly full", missed.astray(), 2);
    }
}
