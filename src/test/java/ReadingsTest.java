/** Promises 28 to 40: READINGS, oaths, stones counted twice, on walls small enough to be counted by hand. */
public final class ReadingsTest {
    public static void main(String[] args) {
        nothingNoted();
        noReading();
        oneSlip();
        handsChanged();
        explained();
        sureOrNot();
        blamed();
        tellings();
        tellingOfMany();
        manyWays();
        oaths();
        bestKnocks();
        twice();
        Checks.end();
    }

    private static HollowWall noted(String wall, int... stonesAndNotes) {
        HollowWall x = Checks.built(wall);
        for (int i = 0; i < stonesAndNotes.length; i += 2) {
            x.note(stonesAndNotes[i], stonesAndNotes[i + 1]);
        }
        return x;
    }

    private static void nothingNoted() {
        HollowWall x = Checks.built("oath 4 from 2;course 6;slip at 3 by 1;");
        Checks.fine(x, "least", x.least(false), 0);
        Checks.fine(x, "ways", x.ways(false), 1);
        Checks.fine(x, "free ways", x.ways(true), 4);
        Checks.fine(x, "explain", x.explain(false), 0);
        Checks.fine(x, "as told", x.firstCount(), 2);
        Checks.fine(x, "explain", x.explain(true), 0);
        Checks.fine(x, "the first", x.firstCount(), 1);
        HollowWall empty = Checks.built("oath 4 from 2;");
        Checks.fine(empty, "no stones: ways", empty.ways(true), 4);
        Checks.fine(empty, "no stones: as told", empty.ways(false), 1);
        Checks.fine(empty, "no stones: explain", empty.explain(false), 0);
        Checks.fine(empty, "no stones: first", empty.firstCount(), 2);
    }

    private static void noReading() {
        HollowWall x = noted("oath 4 from 2;course 6;mason a lays 2 costs 1;", 0, 1);
        Checks.refused(x, "least", x.least(false), 8);
        Checks.refused(x, "ways", x.ways(false), 8);
        Checks.refused(x, "explain", x.explain(false), 8);
        Checks.refused(x, "firstCount", x.firstCount(), 8);
        Checks.refused(x, "sure", x.sure(0, false), 8);
        Checks.refused(x, "sure of no stone", x.sure(6, false), 2);
        Checks.denied(x, "blame", x.blame(0, false), 8);
        Checks.denied(x, "blame of no mason", x.blame(1, false), 2);
        Checks.refused(x, "telling", x.telling(false, 0), 8);
        Checks.refused(x, "telling first", x.telling(false, 1), 8);
        Checks.refused(x, "telling 2", x.telling(false, 2), 5);
        Checks.refused(x, "bestKnock", x.bestKnock(false), 8);
        Checks.fine(x, "free", x.least(true), 0);
        Checks.fine(x, "free", x.explain(true), 0);
        Checks.fine(x, "hollow", x.firstCount(), 4);
        Checks.refused(x, "explain", x.explain(false), 8);
        Checks.fine(x, "stays", x.firstCount(), 4);
    }

    private static void oneSlip() {
        // Sworn 1 2 3 4 1 2: heard hollow at 2, so a SLIP by 1 at 1 or at 2.
        HollowWall x = noted("oath 4 from 1;course 6;", 2, 1);
        Checks.fine(x, "least", x.least(false), 1);
        Checks.fine(x, "ways", x.ways(false), 2);
        Checks.fine(x, "explain", x.explain(false), 1);
        Checks.fine(x, "none is ahead of by 1", x.slipAt(0, 0), 2);
        Checks.fine(x, "by", x.slipAt(0, 1), 1);
        Checks.refused(x, "no second", x.slipAt(1, 0), 8);
        Checks.refused(x, "no such", x.slipAt(-1, 0), 8);
        Checks.refused(x, "what 2", x.slipAt(0, 2), 5);
        Checks.refused(x, "what -1", x.slipAt(7, -1), 5);
        Checks.fine(x, "free", x.least(true), 0);
        Checks.fine(x, "free", x.ways(true), 1);
        Checks.fine(x, "free", x.explain(true), 0);
        Checks.fine(x, "free first", x.firstCount(), 2);
        Checks.refused(x, "none now", x.slipAt(0, 0), 8);
        x.note(1, 0);
        Checks.fine(x, "less", x.ways(false), 2);
        x.note(3, 1);
        Checks.fine(x, "two slips", x.least(false), 2);
    }

    private static void handsChanged() {
        String wall = "oath 4 from 1;course 6;mason a lays 2 costs 5;mason b lays 3 costs 3;";
        HollowWall x = noted(wall, 2, 1);
        Checks.fine(x, "where b begins", x.least(false), 1);
        Checks.fine(x, "one way", x.ways(false), 1);
        x.note(2, -1);
        x.note(1, 1);
        Checks.fine(x, "in what a laid", x.least(false), 5);
        x.clear();
        x.note(5, 1);
        x.note(2, 0);
        x.note(3, 1);
        // 3 is hollow as sworn, then 5: 2 more at 4 or 5, 3 each.
        Checks.fine(x, "in what b laid", x.least(false), 3);
        Checks.fine(x, "two ways", x.ways(false), 2);
        // A MASON that lays none has no first STONE.
        HollowWall z = noted("oath 4 from 1;course 6;mason a lays 6 costs 5;mason b lays 3 costs 3;", 2, 1);
        Checks.fine(z, "a alone", z.least(false), 5);
    }

    private static void explained() {
        HollowWall x = noted("oath 5 from 1;course 9;", 1, 1, 4, 1, 5, 1);
        Checks.fine(x, "three slips", x.explain(false), 3);
        int[][] due = {{1, 3}, {4, 2}, {5, 4}};
        for (int k = 0; k < 3; k++) {
            Checks.fine(x, "stone of slip " + k, x.slipAt(k, 0), due[k][0]);
            Checks.fine(x, "by of slip " + k, x.slipAt(k, 1), due[k][1]);
        }
        Checks.wall(x, "oath 4 from 2;");
        Checks.fine(x, "told of explain() latest", x.slipAt(2, 0), 5);
        Checks.fine(x, "told of explain() latest", x.firstCount(), 1);
    }

    private static void sureOrNot() {
        HollowWall x = noted("oath 4 from 1;course 8;", 2, 1);
        int[] due = {0, 0, 2, 0, 0, 0, 2, 0};
        for (int s = 0; s < 8; s++) {
            Checks.fine(x, "sure " + s, x.sure(s, false), due[s]);
        }
        Checks.refused(x, "none such", x.sure(8, false), 2);
        Checks.refused(x, "none such", x.sure(-1, true), 2);
        // 3 hollow (as sworn), 6 hollow: 3 more at 4, 5 or 6.
        x = noted("oath 4 from 1;course 8;", 2, 0, 3, 1, 6, 1);
        Checks.fine(x, "ways", x.ways(false), 3);
        x.note(6, -1);
        x.note(5, 1);
        Checks.fine(x, "ways", x.ways(false), 2);
        x = noted("oath 3 from 1;course 6;", 5, 0);
        // Sworn 1 2 3 1 2 3: by 1 or 2 at 1, 2, 3, 4 or 5.
        Checks.fine(x, "ways", x.ways(false), 10);
        Checks.fine(x, "sure 0", x.sure(0, false), 0);
        Checks.fine(x, "sure 1", x.sure(1, false), 1);
        Checks.fine(x, "sure 2", x.sure(2, false), 1);
        Checks.fine(x, "sure 5", x.sure(5, false), 0);
    }

    private static void blamed() {
        HollowWall x = noted("oath 3 from 1;course 6;mason a lays 2 costs 1;mason b lays 3 costs 1;mason c lays 1 costs 1;",
            5, 0);
        Checks.fine(x, "ways", x.ways(false), 10);
        int[][] due = {{1, 5}, {3, 5}, {1, 5}};
        for (int k = 0; k < 3; k++) {
            Checks.accepted(x, "blame", x.blame(k, false));
            Checks.fraction(x, "blame of " + k, due[k][0], due[k][1]);
        }
        Checks.denied(x, "none such", x.blame(3, false), 2);
        Checks.denied(x, "none such", x.blame(-1, false), 2);
        Checks.accepted(x, "free", x.blame(0, true));
        Checks.fraction(x, "free: no slip", 0, 1);
        // both 2 and 3 need a SLIP each: a has one of them in each READING.
        x = noted("oath 4 from 1;course 4;mason a lays 3 costs 2;mason b lays 1 costs 9;", 2, 1, 3, 1);
        Checks.accepted(x, "blame", x.blame(0, false));
        Checks.fraction(x, "always", 1, 1);
        Checks.accepted(x, "blame", x.blame(1, false));
        Checks.fraction(x, "always, too", 1, 1);
        x = noted("oath 4 from 1;course 4;mason a lays 4 costs 2;mason b lays 1 costs 9;", 2, 1, 3, 1);
        Checks.accepted(x, "blame", x.blame(1, false));
        Checks.fraction(x, "who lays none", 0, 1);
    }

    private static void tellings() {
        HollowWall x = Checks.built("oath 4 from 1;course 8;");
        Checks.fine(x, "one reading", x.telling(false, 0), 0);
        Checks.refused(x, "none is needed", x.telling(false, 1), 8);
        Checks.fine(x, "four in a row", x.telling(true, 0), 3);
        Checks.fine(x, "first", x.telling(true, 1), 0);
        Checks.refused(x, "what 2", x.telling(true, 2), 5);
        Checks.refused(x, "what -1", x.telling(true, -1), 5);
        // Two READINGS that say the same of each STONE.
        x = noted("oath 4 from 1;course 8;", 2, 1);
        Checks.fine(x, "ways", x.ways(false), 2);
        Checks.fine(x, "told apart by nothing", x.telling(false, 0), 0);
        Checks.refused(x, "none is needed", x.telling(false, 1), 8);
        // One STONE, 2 FIRST counts.
        x = Checks.built("oath 2 from 1;course 1;");
        Checks.fine(x, "one knock", x.telling(true, 0), 1);
        Checks.fine(x, "at 0", x.telling(true, 1), 0);
        // 3 1 2 3, 1 2 3 1, 2 3 1 2 with 0 known to be full: 2 or 1 is asked.
        x = noted("oath 3 from 1;course 4;", 0, 0);
        Checks.fine(x, "one knock", x.telling(true, 0), 1);
        Checks.fine(x, "not 0, of which all say the same", x.telling(true, 1), 1);
    }

    private static void tellingOfMany() {
        HollowWall x = Checks.built("oath 13 from 1;course 16;");
        Checks.fine(x, "13 ways", x.ways(true), 13);
        Checks.refused(x, "more than 12", x.telling(true, 0), 9);
        Checks.refused(x, "more than 12", x.telling(true, 1), 9);
        x.note(0, 0);
        Checks.fine(x, "12 ways", x.ways(true), 12);
        Checks.fine(x, "12 apart", x.telling(true, 0), 11);
        Checks.fine(x, "first", x.telling(true, 1), 1);
        // 13 READINGS of no STONES: none is needed, which is ahead of more than 12.
        x = Checks.built("oath 13 from 1;");
        Checks.refused(x, "more than 12", x.telling(true, 0), 9);
        Checks.refused(x, "none is needed", x.telling(true, 1), 8);
        // Two SLIPS, 4 places by 4 places, heard where they end.
        x = noted("oath 13 from 9;course 16;", 0, 0, 1, 0, 2, 0, 3, 0, 4, 1, 5, 0, 6, 0, 7, 0, 8, 1);
        Checks.fine(x, "as sworn, then 4 places", x.ways(false), 4);
        Checks.fine(x, "the same of each", x.telling(false, 0), 0);
    }

    private static void manyWays() {
        StringBuilder wall = new StringBuilder("oath 13 from 1;");
        wall.append("course 16;".repeat(6));
        HollowWall x = Checks.built(wall.append("mason a lays 96 costs 2;").toString());
        x.note(95, 1);
        x.note(60, 1);
        x.note(30, 1);
        x.note(40, 1);
        Checks.fine(x, "least", x.least(false), 8);
        Checks.fine(x, "30 times 10 times 20 times 35", x.ways(false), 210000);
        Checks.accepted(x, "blame", x.blame(0, false));
        Checks.fraction(x, "blame", 1, 1);
        x.note(80, 1);
        Checks.fine(x, "30 times 10 times 20 times 20 times 15", x.ways(false), 999999);
        Checks.denied(x, "blame", x.blame(0, false), 9);
        Checks.refused(x, "bestKnock", x.bestKnock(false), 9);
        Checks.refused(x, "telling", x.telling(false, 0), 9);
        Checks.fine(x, "sure", x.sure(80, false), 2);
        Checks.fine(x, "hollow if the slip is behind it", x.sure(73, false), 1);
        Checks.fine(x, "explain", x.explain(false), 5);
        int[] due = {30, 40, 60, 80, 95};
        for (int k = 0; k < due.length; k++) {
            Checks.fine(x, "the first has its slips late", x.slipAt(k, 0), due[k]);
        }
        for (int s = 0; s < 96; s++) {
            x.knock(s);
        }
        Checks.refused(x, "all are noted", x.bestKnock(false), 8);
    }

    private static void oaths() {
        HollowWall x = Checks.built("oath 7 from 1;course 9;slip at 3 by 2;");
        Checks.fine(x, "all", x.oaths(), 90);
        Checks.fine(x, "the first: M", x.oathAt(0, 0), 2);
        Checks.fine(x, "the first: FIRST", x.oathAt(0, 1), 1);
        Checks.fine(x, "the second: FIRST", x.oathAt(1, 1), 2);
        Checks.fine(x, "the third: M", x.oathAt(2, 0), 3);
        Checks.fine(x, "the last: M", x.oathAt(89, 0), 13);
        Checks.fine(x, "the last: FIRST", x.oathAt(89, 1), 13);
        Checks.refused(x, "none such", x.oathAt(90, 0), 8);
        Checks.refused(x, "none such", x.oathAt(-1, 0), 8);
        Checks.refused(x, "what 2", x.oathAt(0, 2), 5);
        Checks.refused(x, "what -1", x.oathAt(90, -1), 5);
        x.note(1, 1);
        x.note(4, 1);
        x.note(5, 0);
        // 3: 2; 13: none, as 4 would be full.
        Checks.fine(x, "one", x.oaths(), 1);
        Checks.fine(x, "M", x.oathAt(0, 0), 3);
        Checks.fine(x, "FIRST", x.oathAt(0, 1), 2);
        x.note(2, 1);
        Checks.fine(x, "none", x.oaths(), 0);
        Checks.refused(x, "none", x.oathAt(0, 0), 8);
    }

    private static void bestKnocks() {
        HollowWall x = Checks.built("oath 4 from 1;course 8;");
        Checks.fine(x, "one reading: the first stone", x.bestKnock(false), 0);
        x.note(0, 0);
        Checks.fine(x, "of which nothing is noted", x.bestKnock(false), 1);
        x.clear();
        // 1 of 4 READINGS is hollow at each STONE.
        Checks.fine(x, "of several the first", x.bestKnock(true), 0);
        // Sworn 1 2 3 1 2 3; a SLIP at 1 to 5, by 1 or 2: 10 READINGS.
        x = noted("oath 3 from 1;course 6;", 5, 0);
        Checks.fine(x, "ways", x.ways(false), 10);
        Checks.fine(x, "bestKnock", x.bestKnock(false), bestOf(x));
        for (int s = 0; s < 6; s++) {
            x.note(s, 0);
        }
        Checks.refused(x, "all are noted", x.bestKnock(false), 8);
    }

    /** By noting each STONE in turn, and counting what is left at the same COST. */
    private static int bestOf(HollowWall x) {
        int cost = x.least(false);
        int best = -1;
        int fewest = Integer.MAX_VALUE;
        for (int s = 0; s < x.many(0); s++) {
            if (x.stone(s, 6) != HollowWall.NONE) {
                continue;
            }
            int most = 0;
            for (int what = 0; what < 2; what++) {
                x.note(s, what);
                if (x.least(false) == cost) {
                    most = Math.max(most, x.ways(false));
                }
            }
            x.note(s, -1);
            if (most < fewest) {
                fewest = most;
                best = s;
            }
        }
        return best;
    }

    private static void twice() {
        HollowWall x = Checks.built("oath 4 from 1;course 8;");
        Checks.fine(x, "nothing noted", x.twice(), 7);
        for (int k = 0; k < 7; k++) {
            Checks.fine(x, "twiceAt " + k, x.twiceAt(k), k + 1);
        }
        Checks.refused(x, "none such", x.twiceAt(7), 8);
        Checks.refused(x, "none such", x.twiceAt(-1), 8);
        x.note(4, 1);
        // 4 is hollow where one of 1 to 4 was counted twice.
        Checks.fine(x, "four", x.twice(), 4);
        Checks.fine(x, "the last of them", x.twiceAt(3), 4);
        x.note(3, 1);
        Checks.fine(x, "the one ahead is hollow, too", x.twice(), 1);
        Checks.fine(x, "at 4", x.twiceAt(0), 4);
        x.note(0, 1);
        Checks.fine(x, "FIRST is as told", x.twice(), 0);
        Checks.refused(x, "none", x.twiceAt(0), 8);
        HollowWall one = Checks.built("oath 4 from 1;course 1;");
        Checks.fine(one, "not stone 0", one.twice(), 0);
    }
}
