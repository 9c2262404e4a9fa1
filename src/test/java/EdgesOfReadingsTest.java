/** The bounds of READINGS and of what is told of them (Terms 2 and 3; promises 28 to 40). */
public final class EdgesOfReadingsTest {
    private static final String SIX = "course 16;".repeat(6);

    public static void main(String[] args) {
        noStones();
        oneStone();
        nothingNoted();
        firstAsTold();
        freeAlways();
        noSlipAtStone0();
        slipAtTheLast();
        byOneToMLessOne();
        byLessOneBeginsAnew();
        allHollow();
        allFullByTwo();
        costsAtHands();
        cheapestHands();
        mostWays();
        explainedFirst();
        explainedLatest();
        explainedNone();
        sureOfAll();
        blameOfAll();
        blameOfMostWays();
        twelveToTell();
        thirteenToTell();
        noneToTell();
        bestFirstOfSeveral();
        oathsAtTheEnds();
        oathsOfAllNoted();
        bestKnockAtTheEnds();
        bestKnockByLeastCost();
        twiceAtTheEnds();
        twiceBeginsAnew();
        Checks.end();
    }

    private static HollowWall noted(String wall, int... stonesAndNotes) {
        HollowWall x = Checks.built(wall);
        for (int i = 0; i < stonesAndNotes.length; i += 2) {
            x.note(stonesAndNotes[i], stonesAndNotes[i + 1]);
        }
        return x;
    }

    private static void leastAndWays(HollowWall x, boolean free, int least, int ways) {
        Checks.fine(x, "least", x.least(free), least);
        Checks.fine(x, "ways", x.ways(free), ways);
    }

    private static void noStones() {
        for (int m = 2; m <= 13; m++) {
            HollowWall x = Checks.built("oath " + m + " from " + m + ";");
            leastAndWays(x, false, 0, 1);
            leastAndWays(x, true, 0, m);
            Checks.fine(x, "explain", x.explain(false), 0);
            Checks.fine(x, "FIRST as told", x.firstCount(), m);
            Checks.fine(x, "explain, FREE", x.explain(true), 0);
            Checks.fine(x, "the first FIRST", x.firstCount(), 1);
            Checks.fine(x, "oaths", x.oaths(), 90);
            Checks.fine(x, "twice", x.twice(), 0);
        }
    }

    private static void oneStone() {
        for (int m = 2; m <= 13; m++) {
            HollowWall x = Checks.built("oath " + m + " from " + m + ";course 1;");
            leastAndWays(x, true, 0, m);
            x.note(0, 1);
            leastAndWays(x, false, 0, 1);
            leastAndWays(x, true, 0, 1);
            x.note(0, 0);
            Checks.refused(x, "full, with the count M", x.least(false), 8);
            leastAndWays(x, true, 0, m - 1);
        }
    }

    private static void nothingNoted() {
        HollowWall x = Checks.built("oath 13 from 13;" + SIX + "slip at 5 by 1;");
        leastAndWays(x, false, 0, 1);
        leastAndWays(x, true, 0, 13);
        for (int s = 0; s < 96; s++) {
            x.knock(s);
        }
        // hollow at 12, not at 13: anywhere up to 12
        leastAndWays(x, false, 1, 12);
        Checks.fine(x, "explain", x.explain(false), 1);
        Checks.fine(x, "the latest", x.slipAt(0, 0), 12);
    }

    /** "the FIRST count as told": STONE 0 can't be what that does not say. */
    private static void firstAsTold() {
        for (int m = 2; m <= 13; m++) {
            for (int f = 1; f <= m; f++) {
                HollowWall x = noted("oath " + m + " from " + f + ";course 3;", 0, 1);
                if (f == m) {
                    leastAndWays(x, false, 0, 1);
                } else {
                    Checks.refused(x, "hollow, but FIRST is not M", x.ways(false), 8);
                }
                x.note(0, 0);
                if (f < m) {
                    leastAndWays(x, false, 0, 1);
                } else {
                    Checks.refused(x, "full, but FIRST is M", x.ways(false), 8);
                }
            }
        }
    }

    /** "if it is FREE, any from 1 to M": whatever is NOTED has a READING then. */
    private static void freeAlways() {
        for (int m = 2; m <= 13; m += 11) {
            for (int all = 0; all < 32; all++) {
                HollowWall x = Checks.built("oath " + m + " from 1;course 5;");
                for (int s = 0; s < 5; s++) {
                    x.note(s, all >> s & 1);
                }
                x.least(true);
                Checks.same("a READING of " + all, x.status(), 0);
                x.explain(true);
                int first = x.firstCount();
                Checks.holds("FIRST is 1 to M", first >= 1 && first <= m && (first == m) == ((all & 1) == 1));
            }
        }
    }

    private static void noSlipAtStone0() {
        HollowWall x = noted("oath 4 from 1;course 9;mason a lays 9 costs 1;", 1, 1);
        leastAndWays(x, false, 1, 1);
        Checks.fine(x, "explain", x.explain(false), 1);
        Checks.fine(x, "not ahead of STONE 1", x.slipAt(0, 0), 1);
        Checks.fine(x, "by", x.slipAt(0, 1), 2);
    }

    private static void slipAtTheLast() {
        HollowWall x = noted("oath 13 from 13;" + SIX, 91, 1, 95, 1);
        leastAndWays(x, false, 1, 4);
        Checks.fine(x, "explain", x.explain(false), 1);
        Checks.fine(x, "the last STONE", x.slipAt(0, 0), 95);
        Checks.fine(x, "by", x.slipAt(0, 1), 9);
    }

    /** "each BY 1 to M less 1": the second STONE is full by all of them but one. */
    private static void byOneToMLessOne() {
        for (int m = 2; m <= 13; m++) {
            HollowWall x = noted("oath " + m + " from " + (m - 1) + ";course 2;", 1, 0);
            leastAndWays(x, false, 1, m - 1);
            Checks.fine(x, "explain", x.explain(false), 1);
            Checks.fine(x, "none ahead of BY 1, 2 ..", x.slipAt(0, 1), 1);
        }
    }

    /** By M less 1 the count stays where it was: M, and M again. */
    private static void byLessOneBeginsAnew() {
        for (int m = 2; m <= 13; m++) {
            HollowWall x = noted("oath " + m + " from " + m + ";course 3;", 0, 1, 1, 1);
            leastAndWays(x, false, 1, 1);
            Checks.fine(x, "explain", x.explain(false), 1);
            Checks.fine(x, "STONE", x.slipAt(0, 0), 1);
            Checks.fine(x, "by", x.slipAt(0, 1), m - 1);
        }
    }

    private static void allHollow() {
        HollowWall x = Checks.built("oath 13 from 13;" + SIX + "mason a lays 1 costs 9;mason b lays 95 costs 9;");
        for (int s = 0; s < 96; s++) {
            x.note(s, 1);
        }
        leastAndWays(x, false, 1 + 94 * 9, 1);
        Checks.fine(x, "a SLIP at each but 0", x.explain(false), 95);
        Checks.fine(x, "the first", x.slipAt(0, 0), 1);
        Checks.fine(x, "the last", x.slipAt(94, 0), 95);
        Checks.fine(x, "by", x.slipAt(94, 1), 12);
        Checks.refused(x, "no more", x.slipAt(95, 0), 8);
        Checks.refused(x, "all are NOTED", x.bestKnock(false), 8);
        Checks.fine(x, "sure", x.sure(95, false), 2);
        Checks.fine(x, "oaths", x.oaths(), 0);
    }

    private static void allFullByTwo() {
        HollowWall x = Checks.built("oath 2 from 1;" + SIX);
        for (int s = 0; s < 96; s++) {
            x.note(s, 0);
        }
        leastAndWays(x, false, 95, 1);
        leastAndWays(x, true, 95, 1);
        Checks.fine(x, "sure", x.sure(95, false), 0);
    }

    /** "a SLIP at the first STONE of a MASON that is not the first one COSTS 1 (the count changed hands)" */
    private static void costsAtHands() {
        int[] due = {0, 7, 7, 1, 1, 5, 5};
        for (int s = 1; s < due.length; s++) {
            // The STONE ahead is hollow as sworn: if this one is, too, the SLIP is at it.
            HollowWall x = noted("oath 13 from " + (14 - s) + ";course 7;mason a lays 3 costs 7;mason b lays 1 costs 6;"
                + "mason c lays 1 costs 5;", s - 1, 1, s, 1);
            leastAndWays(x, false, due[s], 1);
        }
        // who laid it, where a and b lay one STONE each
        HollowWall one = noted("oath 5 from 5;course 3;mason a lays 1 costs 9;mason b lays 1 costs 9;mason c lays 1 costs 9;", 1, 1,
            2, 1);
        leastAndWays(one, false, 2, 1);
        HollowWall nobody = noted("oath 5 from 5;course 3;", 1, 1, 2, 1);
        leastAndWays(nobody, false, 2, 1);
        HollowWall first = noted("oath 5 from 5;course 3;mason a lays 3 costs 9;mason b lays 1 costs 1;", 1, 1, 2, 1);
        leastAndWays(first, false, 18, 1);
    }

    /** A SLIP at 1 or 2, where hands change, by 1 is cheaper than one at 3. */
    private static void cheapestHands() {
        HollowWall x = noted("oath 4 from 4;course 5;mason a lays 1 costs 9;mason b lays 1 costs 2;mason c lays 3 costs 9;", 0, 1, 3,
            1);
        leastAndWays(x, false, 1, 2);
        x.note(1, 0);
        x.note(2, 0);
        leastAndWays(x, false, 1, 2);
        x.note(1, 1);
        leastAndWays(x, false, 2, 1);
        x.note(2, 1);
        leastAndWays(x, false, 11, 1);
    }

    /** "999,999 at most"; "9: above 999,998 WAYS"; "9: 999,999 WAYS now" */
    private static void mostWays() {
        HollowWall below = new HollowWall();
        ManyWays.below(below);
        leastAndWays(below, false, 5, 999998);
        Checks.accepted(below, "blame", below.blame(0, false));
        Checks.fraction(below, "blame", 1, 1);
        int best = below.bestKnock(false);
        Checks.same("status", below.status(), 0);
        Checks.refused(below, "nothing is NOTED of it", below.stone(best, 6), 8);
        int most = 0;
        for (int what = 0; what < 2; what++) {
            below.note(best, what);
            Checks.fine(below, "the same COST", below.least(false), 5);
            most = Math.max(most, below.ways(false));
        }
        Checks.holds("half of them are left, or some more", most >= 499999 && most < 999998);
        below.note(best, -1);
        Checks.refused(below, "telling", below.telling(false, 0), 9);
        HollowWall at = new HollowWall();
        ManyWays.most(at);
        leastAndWays(at, false, 5, 999999);
        Checks.denied(at, "blame", at.blame(0, false), 9);
        Checks.refused(at, "bestKnock", at.bestKnock(false), 9);
        at.note(26, 0);
        leastAndWays(at, false, 5, 999999);
        HollowWall above = new HollowWall();
        ManyWays.above(above);
        leastAndWays(above, false, 5, 999999);
        Checks.fine(above, "sure", above.sure(85, false), 2);
        Checks.fine(above, "sure", above.sure(84, false), 1);
        Checks.fine(above, "explain", above.explain(false), 5);
        HollowWall far = noted("oath 5 from 5;" + SIX, 16, 1, 32, 1, 48, 1, 64, 1, 80, 1, 94, 1);
        leastAndWays(far, false, 6, 999999);
        // By the FIRST count that has 16 hollow: 16 to the 4th times 14.
        leastAndWays(far, true, 5, 917504);
    }

    /** "by the FIRST count, then STONE by STONE: none ahead of BY 1, 2 .." */
    private static void explainedFirst() {
        HollowWall x = noted("oath 5 from 3;course 4;", 3, 0);
        leastAndWays(x, true, 0, 4);
        Checks.fine(x, "no SLIP", x.explain(true), 0);
        Checks.fine(x, "1 is ahead of 2", x.firstCount(), 1);
        x = noted("oath 5 from 1;course 9;", 4, 0);
        leastAndWays(x, false, 1, 16);
        Checks.fine(x, "one SLIP", x.explain(false), 1);
        Checks.fine(x, "none as long as can be", x.slipAt(0, 0), 4);
        Checks.fine(x, "BY 1 ahead of 2", x.slipAt(0, 1), 1);
        // BY 1 can't be: 5 would be hollow.
        x.note(3, 0);
        x.note(8, 1);
        Checks.fine(x, "one SLIP", x.explain(false), 1);
        Checks.fine(x, "at 4", x.slipAt(0, 0), 4);
        Checks.fine(x, "by 1: hollow again at 8", x.slipAt(0, 1), 1);
        x.note(8, 0);
        Checks.fine(x, "one SLIP", x.explain(false), 1);
        Checks.fine(x, "by 2", x.slipAt(0, 1), 2);
    }

    /** "by explain() latest with STATUS 0" */
    private static void explainedLatest() {
        HollowWall x = Checks.built("oath 4 from 1;course 6;");
        Checks.refused(x, "none yet", x.firstCount(), 8);
        Checks.refused(x, "none yet", x.slipAt(0, 0), 8);
        Checks.refused(x, "none yet, and what 2", x.slipAt(0, 2), 5);
        x.note(2, 1);
        Checks.fine(x, "one SLIP", x.explain(false), 1);
        x.note(0, 1);
        Checks.refused(x, "no READING", x.explain(false), 8);
        Checks.fine(x, "the one ahead", x.slipAt(0, 0), 2);
        Checks.fine(x, "the one ahead", x.slipAt(0, 1), 1);
        Checks.fine(x, "the one ahead", x.firstCount(), 1);
        Checks.refused(x, "behind its last", x.slipAt(1, 0), 8);
        Checks.fine(x, "another, FREE", x.explain(true), 1);
        Checks.fine(x, "its FIRST", x.firstCount(), 4);
        Checks.fine(x, "its SLIP", x.slipAt(0, 0), 2);
        Checks.fine(x, "its BY", x.slipAt(0, 1), 2);
        x.clear();
        Checks.fine(x, "still", x.slipAt(0, 1), 2);
        Checks.fine(x, "no SLIP now", x.explain(false), 0);
        Checks.refused(x, "no SLIP now", x.slipAt(0, 0), 8);
        Checks.fine(x, "FIRST", x.firstCount(), 1);
    }

    private static void explainedNone() {
        HollowWall x = noted("oath 4 from 1;course 6;", 0, 1);
        Checks.refused(x, "no READING", x.explain(false), 8);
        Checks.refused(x, "none yet", x.firstCount(), 8);
        Checks.refused(x, "none yet", x.slipAt(0, 1), 8);
    }

    /** "in all READINGS with the LEAST COST (2), in none (0), or in some (1)" */
    private static void sureOfAll() {
        HollowWall x = noted("oath 2 from 2;course 4;", 0, 1, 3, 1);
        leastAndWays(x, false, 1, 3);
        int[] due = {2, 1, 1, 2};
        for (int s = 0; s < 4; s++) {
            Checks.fine(x, "sure of " + s, x.sure(s, false), due[s]);
        }
        // hollow in all but one, and in one alone
        x = noted("oath 2 from 2;course 6;", 0, 1, 5, 1);
        Checks.fine(x, "some", x.sure(1, false), 1);
        Checks.fine(x, "some", x.sure(4, false), 1);
        // READINGS that COST more do not count.
        x = noted("oath 4 from 4;course 3;", 2, 0);
        Checks.fine(x, "in none", x.sure(1, false), 0);
        Checks.fine(x, "in none", x.sure(2, false), 0);
        Checks.fine(x, "in all", x.sure(0, false), 2);
        Checks.fine(x, "in some", x.sure(1, true), 1);
        Checks.refused(x, "behind the last", x.sure(3, true), 2);
    }

    /** In none, in some, in all of them; none in what a MASON that came to lay none laid. */
    private static void blameOfAll() {
        HollowWall x = noted("oath 4 from 4;course 6;mason a lays 3 costs 1;mason b lays 2 costs 1;mason c lays 1 costs 1;"
            + "mason d lays 1 costs 1;", 0, 1, 5, 1);
        leastAndWays(x, false, 1, 5);
        int[][] due = {{2, 5}, {2, 5}, {1, 5}, {0, 1}};
        for (int k = 0; k < 4; k++) {
            Checks.accepted(x, "blame", x.blame(k, false));
            Checks.fraction(x, "blame of " + k, due[k][0], due[k][1]);
        }
        x.note(4, 1);
        leastAndWays(x, false, 1, 1);
        Checks.accepted(x, "blame", x.blame(0, false));
        Checks.fraction(x, "the 4th is as sworn", 0, 1);
        Checks.accepted(x, "blame", x.blame(2, false));
        Checks.fraction(x, "in all", 1, 1);
        Checks.denied(x, "no MASON", x.blame(4, false), 2);
        Checks.fraction(x, "as ahead", 1, 1);
        Checks.denied(x, "no MASON", x.blame(-1, false), 2);
    }

    /** b laid 12 to 20: some of two of the three places at which there are SLIPS, so that the FRACTION is a long one. */
    private static void blameOfMostWays() {
        HollowWall x = new HollowWall();
        ManyWays.below(x, "mason a lays 12 costs 1;mason b lays 9 costs 1;mason c lays 43 costs 1;");
        leastAndWays(x, false, 5, 999998);
        Checks.same("of STONES 1 to 16", pairs(x, 0, 99, 99), 127);
        Checks.same("of STONES 17 to 32", pairs(x, 16, 99, 99), 254);
        long without = (long) pairs(x, 0, 12, 20) * pairs(x, 16, 12, 20) * 31;
        long blamed = 999998 - without;
        Checks.holds("some, not all", without > 0 && blamed > 0);
        Checks.accepted(x, "blame", x.blame(1, false));
        Checks.same("blame of b", x.top() * 999998, x.bottom() * blamed);
        Checks.holds("a long one", x.bottom() > 10000);
        for (int d = 2; d <= x.bottom() && d < 150; d++) {
            Checks.holds("no common divisor", x.top() % d != 0 || x.bottom() % d != 0);
        }
    }

    /** How many couples of SLIPS, by 8 together, explain 16 STONES behind a hollow one, none of them between two STONES. */
    private static int pairs(HollowWall x, int base, int from, int to) {
        int[] notes = new int[17];
        for (int s = 0; s < 17; s++) {
            notes[s] = x.stone(base + s, 6);
        }
        int found = 0;
        for (int one = 1; one < 16; one++) {
            for (int two = one + 1; two <= 16; two++) {
                for (int by = 1; by < 8; by++) {
                    boolean good = (base + one < from || base + one > to) && (base + two < from || base + two > to);
                    for (int s = 1; s < 17; s++) {
                        int count = s + (s >= one ? by : 0) + (s >= two ? 8 - by : 0);
                        good &= notes[s] < 0 || notes[s] == (count % 8 == 0 ? 1 : 0);
                    }
                    found += good ? 1 : 0;
                }
            }
        }
        return found;
    }

    /** "of at most 12 READINGS" */
    private static void twelveToTell() {
        HollowWall x = Checks.built("oath 12 from 1;course 11;");
        Checks.fine(x, "12", x.ways(true), 12);
        Checks.fine(x, "11 STONES that are one by one", x.telling(true, 0), 11);
        Checks.fine(x, "the first", x.telling(true, 1), 0);
        x = noted("oath 13 from 1;course 16;", 4, 0);
        Checks.fine(x, "12", x.ways(true), 12);
        Checks.fine(x, "all but one of 12", x.telling(true, 0), 11);
        // 12 that say the same of each STONE
        x = noted("oath 13 from 13;course 13;", 0, 1, 12, 1);
        Checks.fine(x, "12", x.ways(false), 12);
        Checks.fine(x, "told apart by nothing", x.telling(false, 0), 0);
        Checks.refused(x, "none is needed", x.telling(false, 1), 8);
    }

    /** "9: more than 12" */
    private static void thirteenToTell() {
        HollowWall x = Checks.built("oath 13 from 1;course 16;");
        Checks.fine(x, "13", x.ways(true), 13);
        Checks.refused(x, "KNOCKS", x.telling(true, 0), 9);
        Checks.refused(x, "the first", x.telling(true, 1), 9);
        Checks.refused(x, "what ahead of that", x.telling(true, 2), 5);
        x = noted("oath 3 from 3;course 14;", 0, 1, 13, 1);
        Checks.fine(x, "13", x.ways(false), 13);
        Checks.refused(x, "KNOCKS", x.telling(false, 0), 9);
        Checks.refused(x, "the first", x.telling(false, 1), 9);
        x.note(1, 0);
        x.note(2, 0);
        x.note(3, 1);
        Checks.fine(x, "10", x.ways(false), 10);
        Checks.holds("some KNOCKS", x.telling(false, 0) > 0);
    }

    private static void noneToTell() {
        HollowWall x = noted("oath 4 from 1;course 6;", 0, 1);
        Checks.refused(x, "no READING: KNOCKS", x.telling(false, 0), 8);
        Checks.refused(x, "no READING: the first", x.telling(false, 1), 8);
        x.note(0, 0);
        Checks.fine(x, "one READING", x.telling(false, 0), 0);
        Checks.refused(x, "one READING", x.telling(false, 1), 8);
    }

    /** "the best first STONE: of several the least" */
    private static void bestFirstOfSeveral() {
        // 1 2 or 2 1: each STONE of 6 parts them.
        HollowWall x = Checks.built("oath 2 from 1;course 6;");
        Checks.fine(x, "KNOCKS", x.telling(true, 0), 1);
        Checks.fine(x, "the least", x.telling(true, 1), 0);
        // A SLIP at 1, 2 or 3 by 1: 2 1 2 2 and 2 1 1 2 and 2 2 1 2; first 1 or 2, then the other.
        x = noted("oath 2 from 2;course 4;", 0, 1, 3, 1);
        Checks.fine(x, "3", x.ways(false), 3);
        Checks.fine(x, "KNOCKS", x.telling(false, 0), 2);
        Checks.fine(x, "the least that parts them", x.telling(false, 1), 1);
        // Four FIRST counts: halves by no STONE, as 1 of 4 is hollow at each.
        x = Checks.built("oath 4 from 1;course 2;");
        Checks.fine(x, "hollow at 0, at 1, or at none", x.telling(true, 0), 2);
        Checks.fine(x, "the least", x.telling(true, 1), 0);
    }

    /** "all oaths M (2 to 13) and FIRST counts (1 to M)": "by M, then by FIRST" */
    private static void oathsAtTheEnds() {
        HollowWall x = Checks.built("oath 7 from 1;course 1;");
        int k = 0;
        for (int m = 2; m <= 13; m++) {
            for (int f = 1; f <= m; f++) {
                Checks.fine(x, "M", x.oathAt(k, 0), m);
                Checks.fine(x, "FIRST", x.oathAt(k, 1), f);
                k++;
            }
        }
        Checks.fine(x, "all", x.oaths(), 90);
        Checks.refused(x, "behind the last", x.oathAt(90, 0), 8);
        x.note(0, 1);
        Checks.fine(x, "one of each M", x.oaths(), 12);
        Checks.fine(x, "the least M", x.oathAt(0, 0), 2);
        Checks.fine(x, "the greatest M", x.oathAt(11, 0), 13);
        Checks.fine(x, "its FIRST", x.oathAt(11, 1), 13);
        Checks.refused(x, "behind the last", x.oathAt(12, 1), 8);
        x.note(0, 0);
        Checks.fine(x, "all but these", x.oaths(), 78);
    }

    private static void oathsOfAllNoted() {
        for (int m = 2; m <= 13; m++) {
            int f = m == 2 ? 1 : m - 1;
            HollowWall x = Checks.built("oath 7 from 1;course 16;course 16;");
            for (int s = 0; s < 32; s++) {
                x.note(s, (f + s) % m == 0 ? 1 : 0);
            }
            Checks.fine(x, "one", x.oaths(), 1);
            Checks.fine(x, "M", x.oathAt(0, 0), m);
            Checks.fine(x, "FIRST", x.oathAt(0, 1), f);
            x.note(31, x.stone(31, 6) == 1 ? 0 : 1);
            Checks.fine(x, "the last is wrong", x.oaths(), 0);
            Checks.refused(x, "none", x.oathAt(0, 0), 8);
        }
        HollowWall full = Checks.built("oath 7 from 1;course 12;");
        for (int s = 0; s < 12; s++) {
            full.note(s, 0);
        }
        Checks.fine(full, "12 full ones", full.oaths(), 1);
        Checks.fine(full, "M", full.oathAt(0, 0), 13);
        Checks.fine(full, "FIRST", full.oathAt(0, 1), 1);
    }

    private static void bestKnockAtTheEnds() {
        HollowWall x = Checks.built("oath 4 from 1;course 8;");
        Checks.fine(x, "one READING: the first", x.bestKnock(false), 0);
        for (int s = 0; s < 7; s++) {
            x.knock(s);
        }
        Checks.fine(x, "the last", x.bestKnock(false), 7);
        x.knock(7);
        Checks.refused(x, "all are NOTED", x.bestKnock(false), 8);
        x.note(0, 1);
        Checks.refused(x, "all are NOTED, and there is no READING", x.bestKnock(false), 8);
        x.note(7, -1);
        Checks.refused(x, "there is no READING", x.bestKnock(false), 8);
    }

    /** "(READINGS of another COST do not count)" */
    private static void bestKnockByLeastCost() {
        // As sworn, or with one SLIP more: only the first counts, so each STONE leaves 1.
        HollowWall x = noted("oath 4 from 1;course 8;", 3, 1);
        Checks.fine(x, "the first", x.bestKnock(false), 0);
        // 3 2-count walls: 2 1 2 2, 2 1 1 2, 2 2 1 2: at 1 and at 2 two of three say the same.
        x = noted("oath 2 from 2;course 4;", 0, 1, 3, 1);
        Checks.fine(x, "of several the first", x.bestKnock(false), 1);
        // 5 READINGS, a SLIP at 1 to 5: hollow at 1 in 1, at 2 in 3, at 3 in 3 ..
        x = noted("oath 2 from 2;course 6;", 0, 1, 5, 1);
        Checks.fine(x, "5", x.ways(false), 5);
        Checks.fine(x, "the nearest to half", x.bestKnock(false), 2);
    }

    /** "the set of STONES but 0" */
    private static void twiceAtTheEnds() {
        HollowWall x = Checks.built("oath 13 from 1;" + SIX);
        Checks.fine(x, "all but 0", x.twice(), 95);
        Checks.fine(x, "the first", x.twiceAt(0), 1);
        Checks.fine(x, "the last", x.twiceAt(94), 95);
        Checks.refused(x, "no more", x.twiceAt(95), 8);
        x.note(12, 0);
        Checks.fine(x, "12 is not hollow: one up to it", x.twice(), 12);
        Checks.fine(x, "the last of them", x.twiceAt(11), 12);
        x.note(90, 1);
        Checks.fine(x, "nor is the count one less behind", x.twice(), 0);
        Checks.refused(x, "none", x.twiceAt(0), 8);
        HollowWall one = Checks.built("oath 13 from 1;course 1;");
        Checks.fine(one, "STONE 0 alone", one.twice(), 0);
        Checks.refused(one, "STONE 0 alone", one.twiceAt(0), 8);
    }

    private static void twiceBeginsAnew() {
        for (int m = 2; m <= 13; m++) {
            HollowWall x = noted("oath " + m + " from " + m + ";course 16;", 0, 1, 1, 1);
            Checks.fine(x, "counted M twice", x.twice(), 1);
            Checks.fine(x, "at 1", x.twiceAt(0), 1);
            x = noted("oath " + m + " from 1;course 16;", m - 1, 0, m, 1);
            Checks.fine(x, "up to M less 1", x.twice(), m - 1);
            Checks.fine(x, "the last", x.twiceAt(m - 2), m - 1);
            x = noted("oath " + m + " from 1;course 16;", m - 1, 1, m, 1);
            Checks.fine(x, "M again", x.twice(), 1);
            Checks.fine(x, "M again", x.twiceAt(0), m);
        }
    }
}
