/** The bounds of pieces, of two oaths, and of YEARS (Term 3; promises 41 to 46). */
public final class EdgesOfPiecesTest {
    private static final String SIX = "course 16;".repeat(6);

    public static void main(String[] args) {
        oneToSixteen();
        eachStoneIsThere();
        trulyAsItSays();
        numbersOfAPiece();
        tooFewNumbers();
        fitsOrder();
        bothAtOnce();
        bothBeginAnew();
        bothLatest();
        bothNever();
        bothBounds();
        joinBounds();
        joinFirst();
        joinGoesOnBehindSlips();
        yearsOfNone();
        yearsThatStay();
        yearsThatFall();
        yearsInFullStones();
        yearsByStones();
        eightFinds();
        datedAtTheEnds();
        datedByOne();
        datedCrossed();
        Checks.end();
    }

    private static void piece(HollowWall x, int tray, int many, int number) {
        x.tray(tray, 0, many);
        for (int i = 0; i < many; i++) {
            x.write(tray, i, number);
        }
    }

    /** "the first so many numbers (1 to 16)" */
    private static void oneToSixteen() {
        HollowWall x = Checks.built("oath 13 from 1;" + SIX);
        piece(x, 0, 60, -1);
        Checks.fine(x, "1", x.fits(0, 1, 0), 96);
        Checks.fine(x, "16", x.fits(0, 16, 0), 81);
        Checks.refused(x, "0", x.fits(0, 0, 0), 5);
        Checks.refused(x, "17", x.fits(0, 17, 0), 5);
        Checks.refused(x, "60", x.fits(0, 60, 0), 5);
        Checks.refused(x, "61: too few", x.fits(0, 61, 0), 4);
        Checks.refused(x, "-1", x.fits(0, -1, 0), 5);
        x.write(0, 15, 1);
        Checks.fine(x, "the 16th is hollow", x.fits(0, 16, 0), 6);
        Checks.fine(x, "the first", x.fits(0, 16, 1), 10);
        Checks.fine(x, "the 16th is not asked", x.fits(0, 15, 0), 82);
        x.write(0, 16, 7);
        Checks.fine(x, "nor is the 17th", x.fits(0, 16, 0), 6);
    }

    /** "so that each of its STONES is there" */
    private static void eachStoneIsThere() {
        HollowWall x = Checks.built("oath 13 from 1;course 5;");
        piece(x, 0, 6, 0);
        for (int many = 1; many <= 5; many++) {
            Checks.fine(x, "as long as " + many, x.fits(0, many, 0), 6 - many);
            Checks.fine(x, "from 0", x.fits(0, many, 1), 0);
        }
        Checks.refused(x, "one longer than the WALL", x.fits(0, 6, 0), 8);
        Checks.refused(x, "one longer than the WALL", x.fits(0, 6, 1), 8);
        HollowWall none = new HollowWall();
        piece(none, 0, 1, -1);
        Checks.refused(none, "no STONES", none.fits(0, 1, 0), 8);
        HollowWall last = Checks.built("oath 13 from 9;course 5;");
        piece(last, 0, 1, 1);
        Checks.fine(last, "at the last STONE alone", last.fits(0, 1, 0), 1);
        Checks.fine(last, "at the last STONE alone", last.fits(0, 1, 1), 4);
    }

    private static void trulyAsItSays() {
        HollowWall x = Checks.built("oath 5 from 5;course 6;slip at 1 by 4;");
        // hollow: 0, 1
        piece(x, 0, 2, 1);
        Checks.fine(x, "truly, not as sworn", x.fits(0, 2, 0), 1);
        x.note(0, 0);
        Checks.fine(x, "truly, not as noted", x.fits(0, 2, 1), 0);
        x.write(0, 1, 0);
        Checks.fine(x, "1 0", x.fits(0, 2, 1), 1);
        x.write(0, 0, 0);
        Checks.fine(x, "0 0", x.fits(0, 2, 0), 3);
        x.write(0, 0, -1);
        Checks.fine(x, "-1 0", x.fits(0, 2, 0), 4);
    }

    /** "5: also a number not -1, 0, 1" */
    private static void numbersOfAPiece() {
        HollowWall x = Checks.built("oath 5 from 5;course 6;");
        x.tray(0, 3, 3);
        for (long number : new long[] {-1, 0, 1}) {
            x.write(0, 1, number);
            x.fits(0, 2, 0);
            Checks.same("a number of a piece", x.status(), 0);
        }
        for (long number : new long[] {-2, 2, 1L << 32, (1L << 32) + 1, -1L << 32, Long.MAX_VALUE, Long.MIN_VALUE}) {
            x.write(0, 1, number);
            Checks.refused(x, "no number of a piece", x.fits(0, 2, 0), 5);
            Checks.fine(x, "it is not asked", x.fits(0, 1, 0), 4);
        }
        x.tray(0, 0, 1);
        x.write(0, 0, 257);
        Checks.fine(x, "cut to 1", x.fits(0, 1, 0), 2);
    }

    private static void tooFewNumbers() {
        HollowWall x = Checks.built("oath 5 from 5;course 6;");
        piece(x, 0, 3, -1);
        Checks.fine(x, "all", x.fits(0, 3, 0), 4);
        Checks.refused(x, "one more", x.fits(0, 4, 0), 4);
        Checks.refused(x, "many more", x.fits(0, Integer.MAX_VALUE, 0), 4);
        x.tray(0, 0, 0);
        Checks.refused(x, "1 of none", x.fits(0, 1, 0), 4);
        Checks.refused(x, "0 of none", x.fits(0, 0, 0), 5);
    }

    /** "by number" */
    private static void fitsOrder() {
        HollowWall x = new HollowWall();
        x.tray(0, 0, 1);
        x.write(0, 0, 2);
        Checks.refused(x, "1 ahead of all", x.fits(4, 0, 2), 1);
        Checks.refused(x, "3 ahead of 5", x.fits(1, 0, 2), 3);
        Checks.refused(x, "4 ahead of 5", x.fits(0, 2, 2), 4);
        Checks.refused(x, "4 ahead of 5", x.fits(0, 17, 0), 4);
        Checks.refused(x, "5 ahead of 8", x.fits(0, 1, 0), 5);
        x.write(0, 0, 1);
        Checks.refused(x, "what: 5 ahead of 8", x.fits(0, 1, 2), 5);
        Checks.refused(x, "what: 5 ahead of 8", x.fits(0, 1, -1), 5);
        Checks.refused(x, "8", x.fits(0, 1, 1), 8);
    }

    /** "the first STONE from it on (0: it)" */
    private static void bothAtOnce() {
        HollowWall x = new HollowWall();
        for (int m = 2; m <= 13; m++) {
            for (int n = 2; n <= 13; n++) {
                Checks.fine(x, "it", x.both(m, m, n, n), 0);
            }
        }
    }

    private static void bothBeginAnew() {
        HollowWall x = new HollowWall();
        Checks.fine(x, "the next", x.both(2, 1, 13, 12), 1);
        Checks.fine(x, "1 of one M alone", x.both(5, 1, 5, 1), 4);
        Checks.fine(x, "not that of one alone", x.both(2, 2, 3, 1), 2);
        Checks.fine(x, "not that of one alone", x.both(2, 1, 3, 3), 3);
        Checks.fine(x, "one goes into the other", x.both(3, 1, 12, 1), 11);
    }

    /** Two oaths without a common divisor come together within m times n. */
    private static void bothLatest() {
        HollowWall x = new HollowWall();
        Checks.fine(x, "behind both", x.both(13, 1, 12, 1), 155);
        Checks.fine(x, "behind both", x.both(2, 1, 3, 1), 5);
        Checks.fine(x, "behind both", x.both(13, 1, 11, 1), 142);
        Checks.fine(x, "within 12 times 8", x.both(12, 1, 8, 1), 23);
    }

    private static void bothNever() {
        HollowWall x = new HollowWall();
        Checks.refused(x, "always one apart", x.both(2, 1, 2, 2), 8);
        Checks.refused(x, "always one apart", x.both(13, 13, 13, 12), 8);
        Checks.refused(x, "even and odd", x.both(12, 12, 8, 7), 8);
        Checks.fine(x, "both even", x.both(12, 12, 8, 4), 12);
    }

    private static void bothBounds() {
        HollowWall x = new HollowWall();
        int[][] bad = {{1, 1, 2, 1}, {14, 1, 2, 1}, {2, 0, 2, 1}, {2, 3, 2, 1}, {2, 1, 1, 1}, {2, 1, 14, 1}, {2, 1, 2, 0},
            {2, 1, 2, 3}, {13, 14, 13, 13}, {13, 13, 13, 14}, {13, 0, 13, 13}, {13, 13, 13, 0}};
        for (int[] n : bad) {
            Checks.refused(x, "both", x.both(n[0], n[1], n[2], n[3]), 5);
        }
        Checks.fine(x, "the least", x.both(2, 1, 2, 1), 1);
        Checks.fine(x, "the greatest", x.both(13, 13, 13, 13), 0);
    }

    /** "oath 2 to 13, a count 1 to it, 1 to 200 STONES (5; 8: the WALL has no STONES)" */
    private static void joinBounds() {
        HollowWall x = Checks.built("oath 2 from 1;course 1;");
        Checks.fine(x, "1", x.join(2, 2, 1), 1);
        Checks.fine(x, "200", x.join(2, 2, 200), 100);
        Checks.fine(x, "199", x.join(2, 2, 199), 100);
        Checks.refused(x, "0", x.join(2, 2, 0), 5);
        Checks.refused(x, "201", x.join(2, 2, 201), 5);
        Checks.refused(x, "oath 1", x.join(1, 1, 5), 5);
        Checks.refused(x, "oath 14", x.join(14, 1, 5), 5);
        Checks.refused(x, "count 0", x.join(13, 0, 5), 5);
        Checks.refused(x, "count 14", x.join(13, 14, 5), 5);
        Checks.fine(x, "count 13", x.join(13, 13, 200), 8);
        Checks.fine(x, "count 1, from 12 to 194", x.join(13, 1, 200), 8);
        Checks.fine(x, "count 1, not 194", x.join(13, 1, 194), 7);
        HollowWall none = Checks.built("oath 2 from 1;");
        Checks.refused(none, "no STONES", none.join(2, 2, 1), 8);
        Checks.refused(none, "0 STONES of no STONES", none.join(2, 2, 0), 5);
    }

    /** "its first STONE having the count b there"; M is followed by 1 across the joint. */
    private static void joinFirst() {
        for (int m = 2; m <= 13; m++) {
            HollowWall full = Checks.built("oath " + m + " from " + m + ";course 1;");
            Checks.fine(full, "1 behind M", full.join(m, 1, m - 1), 0);
            Checks.fine(full, "M again", full.join(m, 1, m), 1);
            Checks.fine(full, "apart", full.join(m, m, 200), 0);
            HollowWall next = Checks.built("oath " + m + " from " + (m - 1) + ";course 1;");
            Checks.fine(next, "the first", next.join(m, m, 1), 1);
            Checks.fine(next, "the first and the next", next.join(m, m, m), 1);
            Checks.fine(next, "the first and the next", next.join(m, m, m + 1), 2);
        }
    }

    /** "if the TRUE counts went on" */
    private static void joinGoesOnBehindSlips() {
        HollowWall x = Checks.built("oath 7 from 1;course 5;slip at 4 by 1;");
        // the last STONE has the count 6, so the next one is hollow
        Checks.fine(x, "by the TRUE counts", x.join(13, 13, 1), 1);
        HollowWall sworn = Checks.built("oath 7 from 1;course 5;");
        Checks.fine(sworn, "by the SWORN ones", sworn.join(13, 13, 1), 0);
        Checks.fine(sworn, "by the SWORN ones", sworn.join(13, 12, 2), 1);
    }

    private static void years(String finds, int longest, int couples) {
        HollowWall x = Checks.built("oath 2 from 2;course 16;" + finds);
        Checks.fine(x, "years of " + finds, x.years(), longest);
        Checks.fine(x, "against of " + finds, x.against(), couples);
    }

    private static void yearsOfNone() {
        years("", 0, 0);
        years("find at 0 year 0;", 1, 0);
        years("find at 1 year 0;", 0, 0);
        years("find at 14 year 9999;", 1, 0);
        HollowWall empty = new HollowWall();
        Checks.fine(empty, "no STONES", empty.years(), 0);
        Checks.fine(empty, "no STONES", empty.against(), 0);
    }

    /** "whose YEARS never fall": the same YEAR again does not fall, and is not against. */
    private static void yearsThatStay() {
        years("find at 0 year 5;find at 2 year 5;find at 4 year 5;", 3, 0);
        years("find at 0 year 0;find at 14 year 0;", 2, 0);
        years("find at 0 year 5;find at 2 year 4;find at 4 year 5;", 2, 1);
    }

    private static void yearsThatFall() {
        years("find at 0 year 9999;find at 2 year 0;", 1, 1);
        years("find at 0 year 1;find at 2 year 0;", 1, 1);
        years("find at 0 year 0;find at 2 year 1;", 2, 0);
        years("find at 0 year 3;find at 2 year 2;find at 4 year 1;", 1, 3);
        years("find at 0 year 3;find at 2 year 1;find at 4 year 2;", 2, 2);
        years("find at 0 year 1;find at 2 year 3;find at 4 year 2;", 2, 1);
    }

    private static void yearsInFullStones() {
        years("find at 0 year 5;find at 1 year 0;find at 2 year 5;find at 3 year 9999;find at 4 year 6;", 3, 0);
        HollowWall x = Checks.built("oath 2 from 1;course 4;slip at 1 by 1;find at 0 year 3;find at 1 year 2;find at 2 year 1;");
        Checks.fine(x, "truly hollow is 2 alone", x.years(), 1);
        Checks.fine(x, "truly hollow is 2 alone", x.against(), 0);
    }

    /** "by STONES", not as they are told. */
    private static void yearsByStones() {
        years("find at 4 year 3;find at 2 year 2;find at 0 year 1;", 3, 0);
        years("find at 4 year 1;find at 2 year 2;find at 0 year 3;", 1, 3);
    }

    private static void eightFinds() {
        StringBuilder up = new StringBuilder();
        StringBuilder down = new StringBuilder();
        for (int i = 0; i < 8; i++) {
            up.append("find at ").append(2 * i).append(" year ").append(i).append(";");
            down.append("find at ").append(2 * i).append(" year ").append(9999 - i).append(";");
        }
        years(up.toString(), 8, 0);
        years(down.toString(), 1, 28);
    }

    private static HollowWall dug(String finds) {
        return Checks.built("oath 7 from 1;" + SIX + finds);
    }

    /** "(8: no FIND ahead, nor in it)", "(8: none behind, nor in it)" */
    private static void datedAtTheEnds() {
        HollowWall x = dug("find at 0 year 0;find at 95 year 9999;");
        for (int s : new int[] {0, 1, 94, 95}) {
            Checks.fine(x, "the least of " + s, x.dated(s, 0), s == 95 ? 9999 : 0);
            Checks.fine(x, "the greatest of " + s, x.dated(s, 1), s == 0 ? 0 : 9999);
        }
        HollowWall none = dug("");
        Checks.refused(none, "no FIND", none.dated(95, 0), 8);
        Checks.refused(none, "no FIND", none.dated(0, 1), 8);
        Checks.refused(none, "no STONE", none.dated(96, 0), 2);
        Checks.refused(none, "no STONE", none.dated(-1, 1), 2);
        Checks.refused(none, "what 2", none.dated(95, 2), 5);
        Checks.refused(none, "what -1", none.dated(95, -1), 5);
    }

    private static void datedByOne() {
        HollowWall x = dug("find at 50 year 7;");
        Checks.refused(x, "none ahead of 49", x.dated(49, 0), 8);
        Checks.fine(x, "behind 49", x.dated(49, 1), 7);
        Checks.fine(x, "in it", x.dated(50, 0), 7);
        Checks.fine(x, "in it", x.dated(50, 1), 7);
        Checks.fine(x, "ahead of 51", x.dated(51, 0), 7);
        Checks.refused(x, "none behind 51", x.dated(51, 1), 8);
    }

    /** "9: the least is above the greatest": not if they are the same; of the nearest FINDS alone. */
    private static void datedCrossed() {
        HollowWall x = dug("find at 10 year 8;find at 20 year 7;find at 30 year 7;find at 40 year 6;find at 50 year 9;");
        Checks.refused(x, "8 and 7", x.dated(11, 0), 9);
        Checks.refused(x, "8 and 7", x.dated(19, 1), 9);
        Checks.fine(x, "8 itself", x.dated(10, 1), 8);
        Checks.fine(x, "7 and 7", x.dated(25, 0), 7);
        Checks.fine(x, "7 and 7", x.dated(25, 1), 7);
        Checks.refused(x, "7 and 6", x.dated(39, 0), 9);
        Checks.fine(x, "6 and 9", x.dated(41, 0), 6);
        Checks.fine(x, "6 and 9", x.dated(41, 1), 9);
        Checks.refused(x, "one is none: 8, not 9", x.dated(5, 0), 8);
        Checks.fine(x, "the other alone", x.dated(5, 1), 8);
        Checks.refused(x, "one is none: 8, not 9", x.dated(51, 1), 8);
        Checks.fine(x, "the other alone", x.dated(51, 0), 9);
    }
}
