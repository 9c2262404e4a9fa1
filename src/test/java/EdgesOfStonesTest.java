/** The bounds of what is told of STONES, COURSES, MASONS, SLIPS and NOTES (Terms 1 to 3; promises 13 to 27). */
public final class EdgesOfStonesTest {
    private static final String SIX = "course 16;".repeat(6);

    public static void main(String[] args) {
        countsBeginAnew();
        firstAndLastStoneHollow();
        slipsBeginAnew();
        slipsInARow();
        slipAtTheLast();
        coursesOfOne();
        coursesEnd();
        lastStoneOfAll();
        masonsTurn();
        lastMasonLaysTheRest();
        masonsThatLayNone();
        masonsToldAheadOfCourses();
        slipsOfMasons();
        hollowsBetween();
        hollowsAsked();
        gapsAtTheEnds();
        shifts();
        prices();
        dearest();
        astray();
        notesOfAll();
        knockOfWhatIsNoted();
        wrongs();
        manyOfAll();
        Checks.end();
    }

    /** "that of STONE 0 is FIRST; each next one is 1 more"; "M is followed by 1"; "HOLLOW, if its count is M" */
    private static void countsBeginAnew() {
        for (int m = 2; m <= 13; m++) {
            for (int f = 1; f <= m; f++) {
                HollowWall x = Checks.built("oath " + m + " from " + f + ";course 15;");
                int count = f;
                int hollows = 0;
                for (int s = 0; s < 15; s++) {
                    Checks.fine(x, "true count", x.stone(s, 3), count);
                    Checks.fine(x, "sworn count", x.stone(s, 4), count);
                    Checks.fine(x, "hollow", x.stone(s, 5), count == m ? 1 : 0);
                    hollows += count == m ? 1 : 0;
                    count = count == m ? 1 : count + 1;
                }
                Checks.fine(x, "hollows", x.hollows(0, 14), hollows);
            }
        }
    }

    private static void firstAndLastStoneHollow() {
        HollowWall x = Checks.built("oath 13 from 13;course 14;");
        Checks.fine(x, "the first", x.stone(0, 5), 1);
        Checks.fine(x, "the last", x.stone(13, 5), 1);
        Checks.fine(x, "behind M", x.stone(1, 3), 1);
        Checks.fine(x, "hollows", x.hollows(0, 13), 2);
        Checks.fine(x, "without the last", x.hollows(0, 12), 1);
        Checks.fine(x, "without the first", x.hollows(1, 13), 1);
        Checks.fine(x, "without both", x.hollows(1, 12), 0);
        Checks.fine(x, "gap", x.gap(), 12);
    }

    /** "BY more where a SLIP is", from each count, by each BY. */
    private static void slipsBeginAnew() {
        for (int m = 2; m <= 13; m++) {
            for (int by = 1; by < m; by++) {
                for (int f = 1; f <= m; f += m == 13 ? 4 : 1) {
                    HollowWall x = Checks.built("oath " + m + " from " + f + ";course 4;slip at 2 by " + by + ";");
                    for (int s = 0; s < 4; s++) {
                        int more = s < 2 ? 0 : by;
                        Checks.fine(x, "true count", x.stone(s, 3), (f - 1 + s + more) % m + 1);
                        Checks.fine(x, "sworn count", x.stone(s, 4), (f - 1 + s) % m + 1);
                        Checks.fine(x, "hollow", x.stone(s, 5), (f + s + more) % m == 0 ? 1 : 0);
                        Checks.fine(x, "shift", x.shift(s), more);
                    }
                }
            }
        }
    }

    private static void slipsInARow() {
        HollowWall x = Checks.built("oath 13 from 13;course 8;slip at 1 by 12;slip at 2 by 12;slip at 3 by 12;slip at 4 by 12;"
            + "slip at 5 by 12;slip at 6 by 12;");
        for (int s = 0; s < 7; s++) {
            Checks.fine(x, "counted again and again", x.stone(s, 3), 13);
            Checks.fine(x, "shift", x.shift(s), s == 0 ? 0 : 13 - s);
        }
        Checks.fine(x, "then on", x.stone(7, 3), 1);
        Checks.fine(x, "shift", x.shift(7), 7);
        HollowWall two = Checks.built("oath 2 from 1;course 8;slip at 1 by 1;slip at 2 by 1;slip at 3 by 1;");
        int[] due = {1, 1, 1, 1, 2, 1, 2, 1};
        for (int s = 0; s < 8; s++) {
            Checks.fine(two, "oath 2", two.stone(s, 3), due[s]);
        }
    }

    private static void slipAtTheLast() {
        HollowWall x = Checks.built("oath 7 from 1;" + SIX + "slip at 95 by 2;");
        Checks.fine(x, "ahead of it", x.stone(94, 3), 94 % 7 + 1);
        Checks.fine(x, "at it", x.stone(95, 3), (95 + 2) % 7 + 1);
        Checks.fine(x, "shift ahead", x.shift(94), 0);
        Checks.fine(x, "shift", x.shift(95), 2);
        HollowWall one = Checks.built("oath 7 from 1;course 2;slip at 1 by 6;");
        Checks.fine(one, "at STONE 1", one.stone(1, 3), 1);
        Checks.fine(one, "shift", one.shift(1), 6);
        Checks.fine(one, "shift of STONE 0", one.shift(0), 0);
    }

    /** "COURSES, at most 6, of 1 to 16 STONES each, one laid behind the other" */
    private static void coursesOfOne() {
        HollowWall x = Checks.built("oath 7 from 1;" + "course 1;".repeat(6));
        for (int s = 0; s < 6; s++) {
            Checks.fine(x, "COURSE", x.stone(s, 0), s);
            Checks.fine(x, "the how manieth", x.stone(s, 1), 0);
        }
        Checks.refused(x, "no seventh", x.stone(6, 0), 2);
    }

    private static void coursesEnd() {
        HollowWall x = Checks.built("oath 7 from 1;course 16;course 1;course 2;");
        int[][] due = {{0, 0, 0}, {15, 0, 15}, {16, 1, 0}, {17, 2, 0}, {18, 2, 1}};
        for (int[] row : due) {
            Checks.fine(x, "COURSE of " + row[0], x.stone(row[0], 0), row[1]);
            Checks.fine(x, "the how manieth is " + row[0], x.stone(row[0], 1), row[2]);
        }
    }

    private static void lastStoneOfAll() {
        HollowWall x = Checks.built("oath 13 from 5;" + SIX + "mason a lays 95 costs 1;mason b lays 1 costs 9;slip at 95 by 12;"
            + "find at 95 year 9999;");
        x.note(95, 1);
        int[] due = {5, 15, 1, (4 + 95 + 12) % 13 + 1, (4 + 95) % 13 + 1, 0, 1, 9999};
        for (int what = 0; what < due.length; what++) {
            Checks.fine(x, "what " + what, x.stone(95, what), due[what]);
        }
        Checks.fine(x, "laid by b", x.mason(1, 0), 95);
        Checks.fine(x, "one alone", x.mason(1, 1), 1);
        Checks.fine(x, "where b begins", x.price(), 1);
        Checks.refused(x, "no STONE 96", x.stone(96, 0), 2);
    }

    /** "how many STONES each lays (1 to 96), one behind the other from STONE 0 on" */
    private static void masonsTurn() {
        HollowWall x = Checks.built("oath 7 from 1;course 16;mason a lays 1 costs 9;mason b lays 2 costs 1;mason c lays 3 costs 5;"
            + "mason d lays 1 costs 4;");
        int[] by = {0, 1, 1, 2, 2, 2, 3, 3, 3, 3, 3, 3, 3, 3, 3, 3};
        for (int s = 0; s < 16; s++) {
            Checks.fine(x, "who laid " + s, x.stone(s, 2), by[s]);
        }
        int[][] due = {{0, 1, 9, 0}, {1, 2, 1, 0}, {3, 3, 5, 0}, {6, 10, 4, 0}};
        for (int k = 0; k < 4; k++) {
            for (int what = 0; what < 4; what++) {
                Checks.fine(x, "mason " + k + " what " + what, x.mason(k, what), due[k][what]);
            }
        }
    }

    /** "the last one lays all that are left, too" */
    private static void lastMasonLaysTheRest() {
        HollowWall alone = Checks.built("oath 7 from 1;" + SIX + "mason a lays 1 costs 1;");
        Checks.fine(alone, "all", alone.mason(0, 1), 96);
        Checks.fine(alone, "the last STONE", alone.stone(95, 2), 0);
        HollowWall more = Checks.built("oath 7 from 1;course 5;mason a lays 96 costs 1;");
        Checks.fine(more, "no more than there are", more.mason(0, 1), 5);
        HollowWall last = Checks.built("oath 7 from 1;course 5;mason a lays 4 costs 1;mason b lays 96 costs 1;");
        Checks.fine(last, "the one that is left", last.mason(1, 1), 1);
        Checks.fine(last, "the ones ahead", last.mason(0, 1), 4);
    }

    /** "(8: it came to lay none)" */
    private static void masonsThatLayNone() {
        HollowWall exact = Checks.built("oath 7 from 1;course 5;mason a lays 5 costs 1;mason b lays 1 costs 3;");
        Checks.fine(exact, "all", exact.mason(0, 1), 5);
        Checks.refused(exact, "none", exact.mason(1, 0), 8);
        Checks.fine(exact, "none", exact.mason(1, 1), 0);
        Checks.fine(exact, "COSTS", exact.mason(1, 2), 3);
        Checks.fine(exact, "SLIPS", exact.mason(1, 3), 0);
        HollowWall fewer = Checks.built("oath 7 from 1;course 5;mason a lays 6 costs 1;mason b lays 1 costs 3;");
        Checks.fine(fewer, "not those that are not there", fewer.mason(0, 1), 5);
        Checks.refused(fewer, "none", fewer.mason(1, 0), 8);
        HollowWall none = Checks.built("oath 7 from 1;mason a lays 6 costs 1;mason b lays 1 costs 3;");
        Checks.refused(none, "no STONES", none.mason(0, 0), 8);
        Checks.fine(none, "no STONES", none.mason(0, 1), 0);
        Checks.refused(none, "no STONES", none.mason(1, 0), 8);
    }

    private static void masonsToldAheadOfCourses() {
        HollowWall x = Checks.built("oath 7 from 1;mason a lays 2 costs 9;course 3;slip at 2 by 1;mason b lays 1 costs 5;course 1;");
        Checks.fine(x, "who laid 1", x.stone(1, 2), 0);
        Checks.fine(x, "who laid 2", x.stone(2, 2), 1);
        Checks.fine(x, "who laid 3", x.stone(3, 2), 1);
        Checks.fine(x, "b begins at the SLIP", x.price(), 1);
    }

    private static void slipsOfMasons() {
        HollowWall x = Checks.built("oath 7 from 1;course 9;mason a lays 3 costs 2;mason b lays 3 costs 3;mason c lays 3 costs 4;"
            + "slip at 2 by 1;slip at 3 by 1;slip at 5 by 1;slip at 6 by 1;slip at 7 by 1;slip at 8 by 1;");
        int[] due = {1, 2, 3};
        for (int k = 0; k < 3; k++) {
            Checks.fine(x, "SLIPS of " + k, x.mason(k, 3), due[k]);
        }
        Checks.fine(x, "2, 1 and 3, 1 and 4 and 4", x.price(), 15);
    }

    private static void hollowsBetween() {
        HollowWall x = Checks.built("oath 2 from 1;" + SIX);
        Checks.fine(x, "all", x.hollows(0, 95), 48);
        Checks.fine(x, "one full STONE", x.hollows(0, 0), 0);
        Checks.fine(x, "one hollow STONE", x.hollows(95, 95), 1);
        Checks.fine(x, "both, too", x.hollows(1, 3), 2);
        Checks.refused(x, "just turned", x.hollows(1, 0), 5);
        Checks.refused(x, "the second is none", x.hollows(95, 96), 2);
        Checks.refused(x, "the first is none", x.hollows(-1, 0), 2);
    }

    private static void hollowsAsked() {
        HollowWall x = Checks.built("oath 2 from 1;" + SIX);
        Checks.fine(x, "the first", x.hollowAt(0), 1);
        Checks.fine(x, "the last", x.hollowAt(47), 95);
        Checks.refused(x, "behind the last", x.hollowAt(48), 8);
        Checks.fine(x, "it, too", x.nextHollow(95), 95);
        Checks.fine(x, "the one behind", x.nextHollow(94), 95);
        HollowWall y = Checks.built("oath 13 from 13;course 13;");
        Checks.fine(y, "the first is STONE 0", y.hollowAt(0), 0);
        Checks.refused(y, "no second", y.hollowAt(1), 8);
        Checks.fine(y, "it, too", y.nextHollow(0), 0);
        Checks.refused(y, "none behind the only one", y.nextHollow(1), 8);
        Checks.refused(y, "none at the end", y.nextHollow(12), 8);
    }

    private static void gapsAtTheEnds() {
        gap("oath 13 from 1;course 12;", 12);
        gap("oath 13 from 1;course 13;", 12);
        gap("oath 13 from 13;course 1;", 0);
        gap("oath 13 from 13;course 4;", 3);
        gap("oath 13 from 9;course 12;", 7);
        gap("oath 13 from 4;course 12;", 9);
        gap("oath 2 from 1;" + SIX, 1);
        gap("oath 13 from 1;", 0);
        // never M: a STONE counted again ahead of each
        gap("oath 13 from 12;course 7;slip at 1 by 12;slip at 2 by 12;slip at 3 by 12;slip at 4 by 12;slip at 5 by 12;"
            + "slip at 6 by 12;", 7);
    }

    private static void gap(String wall, int due) {
        HollowWall x = Checks.built(wall);
        Checks.fine(x, "gap of " + wall, x.gap(), due);
    }

    /** "0 to M less 1" */
    private static void shifts() {
        HollowWall x = Checks.built("oath 5 from 5;course 16;slip at 1 by 4;slip at 3 by 1;slip at 5 by 3;slip at 7 by 3;"
            + "slip at 9 by 4;slip at 11 by 4;");
        int[] due = {0, 4, 4, 0, 0, 3, 3, 1, 1, 0, 0, 4, 4, 4, 4, 4};
        for (int s = 0; s < 16; s++) {
            Checks.fine(x, "shift of " + s, x.shift(s), due[s]);
        }
        Checks.refused(x, "no STONE", x.shift(16), 2);
        Checks.refused(x, "no STONE", x.shift(-1), 2);
    }

    private static void prices() {
        price("oath 13 from 1;course 9;", 0);
        price("oath 13 from 1;", 0);
        price("oath 13 from 1;course 9;mason a lays 9 costs 9;slip at 1 by 1;slip at 2 by 1;slip at 3 by 1;slip at 4 by 1;"
            + "slip at 5 by 1;slip at 8 by 1;", 54);
        price("oath 13 from 1;course 9;slip at 1 by 1;slip at 2 by 1;slip at 3 by 1;slip at 4 by 1;slip at 5 by 1;slip at 8 by 1;",
            6);
        // the STONES around that at which b begins
        String two = "oath 13 from 1;course 9;mason a lays 4 costs 9;mason b lays 5 costs 8;";
        price(two + "slip at 3 by 1;", 9);
        price(two + "slip at 4 by 1;", 1);
        price(two + "slip at 5 by 1;", 8);
        price(two + "slip at 1 by 12;", 9);
        price(two + "slip at 8 by 12;", 8);
        // b lays none: no STONE is its first.
        price("oath 13 from 1;course 4;mason a lays 4 costs 9;mason b lays 5 costs 8;slip at 3 by 1;", 9);
        // each begins with its own first STONE
        price("oath 13 from 1;course 4;mason a lays 1 costs 9;mason b lays 1 costs 9;mason c lays 1 costs 9;mason d lays 1 costs 9;"
            + "slip at 1 by 1;slip at 2 by 1;slip at 3 by 1;", 3);
    }

    private static void price(String wall, int due) {
        HollowWall x = Checks.built(wall);
        Checks.fine(x, "price of " + wall, x.price(), due);
    }

    /** "of several the first"; "(8: no SLIPS in what a MASON laid)" */
    private static void dearest() {
        String four = "oath 13 from 1;course 16;mason a lays 4 costs 3;mason b lays 4 costs 3;mason c lays 4 costs 6;"
            + "mason d lays 4 costs 6;";
        dearest(four + "slip at 15 by 1;", 3);
        dearest(four + "slip at 3 by 1;", 0);
        dearest(four + "slip at 1 by 1;slip at 2 by 1;slip at 9 by 1;slip at 13 by 1;", 0);
        dearest(four + "slip at 1 by 1;slip at 5 by 1;slip at 9 by 1;slip at 13 by 1;", 2);
        dearest(four + "slip at 1 by 1;slip at 8 by 1;slip at 12 by 1;", 0);
        dearest(four + "slip at 4 by 1;slip at 8 by 1;slip at 12 by 1;", 1);
        dearest(four + "slip at 12 by 1;", 3);
        HollowWall none = Checks.built(four);
        Checks.refused(none, "no SLIPS", none.dearest(), 8);
        HollowWall nobody = Checks.built("oath 13 from 1;course 16;slip at 3 by 1;");
        Checks.refused(nobody, "laid by nobody", nobody.dearest(), 8);
    }

    private static void dearest(String wall, int due) {
        HollowWall x = Checks.built(wall);
        Checks.fine(x, "dearest of " + wall, x.dearest(), due);
    }

    /** "The first STONE whose HOLLOW is not as the SWORN counts say (8: none)." */
    private static void astray() {
        astray("oath 2 from 1;course 3;slip at 1 by 1;", 1);
        astray("oath 2 from 1;course 3;slip at 2 by 1;", 2);
        astray("oath 7 from 1;course 7;slip at 1 by 6;", 6);
        astray("oath 7 from 1;course 6;slip at 1 by 6;", HollowWall.NONE);
        astray("oath 7 from 1;course 5;slip at 1 by 1;", HollowWall.NONE);
        astray("oath 7 from 1;course 6;slip at 1 by 1;", 5);
        // two SLIPS that are together M
        astray("oath 7 from 1;course 16;slip at 8 by 3;slip at 9 by 4;", HollowWall.NONE);
        astray("oath 7 from 1;" + SIX + "slip at 95 by 1;", HollowWall.NONE);
        astray("oath 7 from 1;" + SIX + "slip at 95 by 2;", 95);
        astray("oath 8 from 1;" + SIX + "slip at 95 by 1;", 95);
        astray("oath 8 from 1;" + SIX, HollowWall.NONE);
    }

    private static void astray(String wall, int due) {
        HollowWall x = Checks.built(wall);
        Checks.same("astray of " + wall, x.astray(), due);
        Checks.same("status", x.status(), due == HollowWall.NONE ? 8 : 0);
    }

    /** Nothing, one and all STONES NOTED. */
    private static void notesOfAll() {
        HollowWall x = Checks.built("oath 13 from 1;" + SIX);
        Checks.fine(x, "nothing", x.clear(), 0);
        Checks.accepted(x, "the last", x.note(95, 1));
        Checks.fine(x, "one", x.many(8), 1);
        Checks.fine(x, "one", x.clear(), 1);
        for (int s = 0; s < 96; s++) {
            x.note(s, s % 2);
        }
        Checks.fine(x, "all", x.many(8), 96);
        Checks.accepted(x, "nothing of the first", x.note(0, HollowWall.NONE));
        Checks.fine(x, "all but one", x.many(8), 95);
        Checks.fine(x, "all but one", x.clear(), 95);
        Checks.fine(x, "nothing", x.many(8), 0);
        Checks.refused(x, "of the last", x.stone(95, 6), 8);
        HollowWall empty = new HollowWall();
        Checks.fine(empty, "clear of no STONES", empty.clear(), 0);
    }

    private static void knockOfWhatIsNoted() {
        HollowWall x = Checks.built("oath 13 from 13;course 14;");
        x.note(0, 0);
        x.note(1, 1);
        Checks.fine(x, "the first", x.knock(0), 1);
        Checks.fine(x, "the last", x.knock(13), 1);
        Checks.fine(x, "a full one", x.knock(1), 0);
        Checks.fine(x, "noted anew", x.stone(0, 6), 1);
        Checks.fine(x, "noted anew", x.stone(1, 6), 0);
        Checks.fine(x, "the last is noted", x.stone(13, 6), 1);
        Checks.fine(x, "three", x.many(8), 3);
    }

    /** "The first STONE whose NOTE is not as the SWORN counts say (8: none)." */
    private static void wrongs() {
        HollowWall x = Checks.built("oath 13 from 13;course 14;slip at 1 by 12;");
        Checks.fine(x, "truly hollow, sworn full", x.knock(1), 1);
        Checks.fine(x, "at 1", x.wrong(), 1);
        x.note(0, 0);
        Checks.fine(x, "the first", x.wrong(), 0);
        x.clear();
        x.note(13, 0);
        Checks.fine(x, "the last", x.wrong(), 13);
        x.note(13, 1);
        Checks.refused(x, "as sworn", x.wrong(), 8);
        x.note(0, 1);
        x.note(1, 0);
        Checks.refused(x, "as sworn", x.wrong(), 8);
    }

    /** All full: 96 STONES, 6 COURSES, 4 MASONS, 6 SLIPS, 8 FINDS. */
    private static void manyOfAll() {
        HollowWall x = Checks.built("oath 13 from 13;" + SIX + "mason a lays 1 costs 1;mason b lays 1 costs 1;"
            + "mason c lays 1 costs 1;mason d lays 1 costs 1;slip at 90 by 1;slip at 91 by 1;slip at 92 by 1;slip at 93 by 1;"
            + "slip at 94 by 1;slip at 95 by 1;find at 95 year 0;find at 94 year 0;find at 93 year 0;find at 92 year 0;"
            + "find at 3 year 0;find at 2 year 0;find at 1 year 0;find at 0 year 0;");
        x.hammer(95);
        for (int s = 0; s < 96; s++) {
            x.note(s, 0);
        }
        int[] due = {96, 6, 4, 6, 8, 13, 13, 95, 96};
        for (int what = 0; what < due.length; what++) {
            Checks.fine(x, "many " + what, x.many(what), due[what]);
        }
        Checks.refused(x, "many 9", x.many(9), 5);
        Checks.refused(x, "many -1", x.many(-1), 5);
    }
}
