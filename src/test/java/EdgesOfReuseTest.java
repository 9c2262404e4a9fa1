/** For all promises: what was there ahead leaves nothing to what comes in its place, and asking twice answers the same. */
public final class EdgesOfReuseTest {
    private static final String SIX = "course 16;".repeat(6);
    private static final String LONG = "oath 2 from 2;" + SIX + "mason a lays 24 costs 9;mason b lays 24 costs 9;"
        + "mason c lays 24 costs 9;mason d lays 24 costs 9;slip at 1 by 1;slip at 20 by 1;slip at 40 by 1;slip at 60 by 1;"
        + "slip at 80 by 1;slip at 95 by 1;find at 0 year 9;find at 4 year 8;find at 5 year 7;find at 8 year 6;find at 95 year 5;";

    public static void main(String[] args) {
        shorterWall();
        shorterWallOfNotes();
        noStonesBehindMany();
        shorterRound();
        roundLeftOpen();
        faultyWallBehindIt();
        askedTwice();
        tellingAnew();
        explainedShorter();
        namesAnew();
        Checks.end();
    }

    /** All that is told ends with the last STONE there is now. */
    private static void shorterWall() {
        HollowWall x = Checks.built(LONG);
        x.years();
        Checks.fine(x, "the shorter one", Checks.wall(x, "oath 9 from 1;course 4;"), 4);
        Checks.refused(x, "hollowAt", x.hollowAt(0), 8);
        for (int s = 0; s < 4; s++) {
            Checks.refused(x, "nextHollow", x.nextHollow(s), 8);
            Checks.refused(x, "laid by nobody", x.stone(s, 2), 8);
            Checks.refused(x, "no FIND", x.stone(s, 7), 8);
            Checks.fine(x, "COURSE", x.stone(s, 0), 0);
            Checks.fine(x, "shift", x.shift(s), 0);
        }
        Checks.refused(x, "no STONE 4", x.stone(4, 0), 2);
        Checks.refused(x, "no MASON", x.mason(0, 0), 2);
        Checks.fine(x, "hollows", x.hollows(0, 3), 0);
        Checks.fine(x, "gap", x.gap(), 4);
        Checks.fine(x, "price", x.price(), 0);
        Checks.refused(x, "dearest", x.dearest(), 8);
        Checks.refused(x, "astray", x.astray(), 8);
        Checks.fine(x, "years", x.years(), 0);
        Checks.fine(x, "against", x.against(), 0);
        Checks.refused(x, "dated", x.dated(3, 1), 8);
        Checks.fine(x, "twice", x.twice(), 3);
        Checks.fine(x, "join", x.join(2, 1, 5), 0);
        Checks.fine(x, "join", x.join(2, 2, 5), 1);
        x.tray(0, 0, 5);
        Checks.refused(x, "fits", x.fits(0, 5, 0), 8);
        Checks.round(x, "go 99;turn;go 99;");
        Checks.fine(x, "walk", x.walk(0, 0), 3);
        Checks.fine(x, "the last STONE", x.many(7), 3);
    }

    private static void shorterWallOfNotes() {
        HollowWall x = Checks.built(LONG);
        for (int s = 0; s < 96; s++) {
            x.note(s, 1);
        }
        Checks.wall(x, "oath 9 from 1;course 4;");
        Checks.fine(x, "NOTED", x.many(8), 0);
        Checks.fine(x, "clear", x.clear(), 0);
        Checks.refused(x, "wrong", x.wrong(), 8);
        Checks.fine(x, "least", x.least(false), 0);
        Checks.fine(x, "ways", x.ways(false), 1);
        Checks.fine(x, "oaths", x.oaths(), 90);
        Checks.round(x, "stop;");
        Checks.accepted(x, "odds", x.odds(0, 1, 0));
        Checks.fraction(x, "odds", 1, 1);
        // and a longer one again
        Checks.wall(x, "oath 9 from 1;course 4;course 16;");
        Checks.fine(x, "NOTED", x.many(8), 0);
        Checks.refused(x, "wrong", x.wrong(), 8);
        Checks.refused(x, "nothing of the last", x.stone(19, 6), 8);
    }

    private static void noStonesBehindMany() {
        HollowWall x = Checks.built(LONG);
        x.note(0, 0);
        x.note(95, 1);
        x.hammer(95);
        Checks.fine(x, "no STONES", Checks.wall(x, "oath 13 from 2;"), 0);
        int[] due = {0, 0, 0, 0, 0, 13, 2, 0, 0};
        for (int what = 0; what < due.length; what++) {
            Checks.fine(x, "many " + what, x.many(what), due[what]);
        }
        Checks.fine(x, "ways", x.ways(true), 13);
        Checks.fine(x, "gap", x.gap(), 0);
        Checks.refused(x, "hollowAt", x.hollowAt(0), 8);
        Checks.refused(x, "join", x.join(2, 1, 1), 8);
        Checks.refused(x, "knock", x.knock(0), 2);
    }

    private static void shorterRound() {
        HollowWall x = Checks.built("oath 3 from 1;" + SIX);
        Checks.round(x, "loop1;end;".repeat(20) + "when stone>0;when stone<9;loop 9;knock;note;go 5;turn;end;end;end;");
        x.hammer(1);
        x.walk(0, 0);
        Checks.fine(x, "the shorter one", Checks.round(x, "go 1;"), 1);
        x.clear();
        x.hammer(1);
        Checks.fine(x, "one STEP", x.walk(0, 0), 1);
        Checks.fine(x, "one STONE on", x.many(7), 2);
        Checks.fine(x, "nothing is NOTED", x.many(8), 0);
        Checks.fine(x, "no KNOCKS", x.walked(0), 0);
        Checks.fine(x, "a test without a number behind one with it", Checks.round(x, "when first;go 1;end;loop 2;go 2;end;"), 4);
        Checks.fine(x, "not the first", x.walk(0, 0), 4);
        Checks.fine(x, "four on", x.many(7), 6);
    }

    /** A FAULT within three others leaves nothing open to the next ROUND. */
    private static void roundLeftOpen() {
        HollowWall x = Checks.built("oath 3 from 1;course 9;");
        Checks.refused(x, "left open", Checks.round(x, "loop 2;loop 2;loop 2;go 0;"), 10);
        Checks.refused(x, "an end too many", Checks.round(x, "go 1;end;"), 10);
        Checks.same("its fault", x.fault(0), 2);
        Checks.same("its place", x.fault(1), 5);
        Checks.refused(x, "left open", Checks.round(x, "loop 2;loop 2;loop 2;"), 10);
        Checks.fine(x, "three again", Checks.round(x, "loop 2;loop 2;loop 2;go 1;end;end;end;"), 4);
        Checks.fine(x, "all of them", x.walk(0, 0), 15);
        Checks.refused(x, "31 STEPS", Checks.round(x, "stop;".repeat(31)), 10);
        Checks.fine(x, "30 STEPS", Checks.round(x, "stop;".repeat(30)), 30);
    }

    private static void faultyWallBehindIt() {
        HollowWall x = Checks.built("oath 5 from 2;course 4;mason a lays 2 costs 3;slip at 2 by 2;find at 3 year 7;");
        Checks.refused(x, "all but the last sign", Checks.wall(x, LONG.substring(0, LONG.length() - 1)), 10);
        int[] due = {4, 1, 1, 1, 1, 5, 2, 0, 0};
        for (int what = 0; what < due.length; what++) {
            Checks.fine(x, "many " + what, x.many(what), due[what]);
        }
        int[] counts = {2, 3, 1, 2};
        for (int s = 0; s < 4; s++) {
            Checks.fine(x, "true count", x.stone(s, 3), counts[s]);
        }
        Checks.fine(x, "price", x.price(), 3);
        Checks.fine(x, "its FIND", x.stone(3, 7), 7);
        Checks.fine(x, "laid by a", x.mason(0, 1), 4);
        Checks.refused(x, "no STONE 4", x.stone(4, 0), 2);
    }

    private static void askedTwice() {
        HollowWall x = Checks.built("oath 2 from 2;course 16;mason a lays 9 costs 2;mason b lays 1 costs 1;slip at 3 by 1;"
            + "find at 0 year 1;find at 2 year 2;find at 3 year 3;find at 5 year 2;find at 7 year 9;");
        Checks.round(x, "loop 9;knock;note;go 1;end;");
        // STONE 9, with which b begins, is hollow, too: a SLIP is at it.
        x.note(8, 1);
        x.note(9, 1);
        for (int time = 0; time < 3; time++) {
            Checks.fine(x, "years", x.years(), 4);
            Checks.fine(x, "against", x.against(), 1);
            Checks.fine(x, "least", x.least(false), 1);
            Checks.fine(x, "ways", x.ways(false), 1);
            Checks.fine(x, "ways, FREE", x.ways(true), 1);
            Checks.fine(x, "sure", x.sure(9, false), 2);
            Checks.fine(x, "telling", x.telling(false, 0), 0);
            Checks.fine(x, "bestKnock", x.bestKnock(false), 0);
            Checks.fine(x, "explain", x.explain(false), 1);
            Checks.fine(x, "its SLIP", x.slipAt(0, 0), 9);
            Checks.accepted(x, "blame", x.blame(1, false));
            Checks.fraction(x, "blame of b", 1, 1);
            Checks.accepted(x, "blame", x.blame(0, false));
            Checks.fraction(x, "blame of a", 0, 1);
            Checks.fine(x, "oaths", x.oaths(), 0);
            Checks.accepted(x, "odds", x.odds(3, 7, 0));
            Checks.fraction(x, "odds", 1, 1);
        }
    }

    /** Other READINGS on the same STONES, fewer and more. */
    private static void tellingAnew() {
        HollowWall x = Checks.built("oath 4 from 4;course 5;");
        Checks.fine(x, "four FIRST counts", x.telling(true, 0), 3);
        Checks.fine(x, "the first", x.telling(true, 1), 0);
        x.note(0, 0);
        Checks.fine(x, "three", x.telling(true, 0), 2);
        Checks.fine(x, "the first", x.telling(true, 1), 1);
        x.note(1, 0);
        Checks.fine(x, "two", x.telling(true, 0), 1);
        Checks.fine(x, "the first", x.telling(true, 1), 2);
        x.note(2, 0);
        Checks.fine(x, "one", x.telling(true, 0), 0);
        Checks.refused(x, "none is needed", x.telling(true, 1), 8);
        x.clear();
        Checks.fine(x, "four again", x.telling(true, 0), 3);
        Checks.fine(x, "the first again", x.telling(true, 1), 0);
        // STONE 2 was the first to be asked, now 0 and all behind it part them alike.
        x.note(0, 0);
        x.note(1, 0);
        Checks.fine(x, "2 is asked", x.telling(true, 1), 2);
        Checks.wall(x, "oath 2 from 1;course 5;");
        Checks.fine(x, "one is enough", x.telling(true, 0), 1);
        Checks.fine(x, "0 is asked", x.telling(true, 1), 0);
        HollowWall one = Checks.built("oath 2 from 1;course 1;");
        Checks.fine(one, "STONE 0 alone", one.telling(true, 0), 1);
        Checks.fine(one, "STONE 0 alone", one.telling(true, 1), 0);
        Checks.refused(one, "as told", one.telling(false, 1), 8);
    }

    private static void explainedShorter() {
        HollowWall x = Checks.built("oath 4 from 4;course 5;");
        for (int s = 0; s < 5; s++) {
            x.note(s, 1);
        }
        Checks.fine(x, "four SLIPS", x.explain(false), 4);
        Checks.fine(x, "the last", x.slipAt(3, 0), 4);
        x.note(4, -1);
        x.note(3, -1);
        Checks.fine(x, "two", x.explain(false), 2);
        Checks.fine(x, "the last", x.slipAt(1, 0), 2);
        Checks.refused(x, "no third", x.slipAt(2, 0), 8);
        Checks.refused(x, "no third", x.slipAt(3, 1), 8);
    }

    private static void namesAnew() {
        HollowWall x = new HollowWall();
        for (int time = 0; time < 3; time++) {
            Checks.fine(x, "the same NAMES", Checks.wall(x, "oath 4 from 4;mason aa lays 1 costs 1;mason a lays 1 costs 1;"), 0);
            Checks.refused(x, "one of them twice", Checks.wall(x, "oath 4 from 4;mason a lays 1 costs 1;mason a lays"), 10);
            Checks.same("a NAME that is taken", x.fault(0), 3);
        }
    }
}
