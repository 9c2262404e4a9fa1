/** The bounds of MARKS (Term 4; promises 51 and 52). */
public final class EdgesOfMarksTest {
    private static final String ONE = "oath 3 from 1;course 4;course 3;mason a lays 3 costs 2;mason b lays 4 costs 5;"
        + "slip at 2 by 1;slip at 6 by 2;find at 0 year 5;find at 6 year 9;";
    private static final String FULL = "oath 13 from 13;" + "course 16;".repeat(6) + "mason a lays 24 costs 9;"
        + "mason b lays 24 costs 9;mason c lays 24 costs 9;mason d lays 24 costs 9;slip at 1 by 12;slip at 2 by 12;"
        + "slip at 3 by 12;slip at 93 by 12;slip at 94 by 12;slip at 95 by 12;find at 95 year 9999;find at 0 year 0;";

    public static void main(String[] args) {
        noneOneAndThree();
        refusedMarkKeepsThose();
        latestFirst();
        samePlaceAgain();
        newObjectKept();
        allOfTheSmallest();
        allOfTheGreatest();
        roundKept();
        noRoundKept();
        roundOfNoStepsKept();
        marksOutliveWalls();
        notKept();
        Checks.end();
    }

    /** "MARKS, at most 3"; "(7)", "(8)" */
    private static void noneOneAndThree() {
        HollowWall x = new HollowWall();
        Checks.refused(x, "none", x.back(), 8);
        Checks.fine(x, "1", x.mark(), 1);
        Checks.fine(x, "0", x.back(), 0);
        Checks.refused(x, "none", x.back(), 8);
        Checks.fine(x, "1", x.mark(), 1);
        Checks.fine(x, "2", x.mark(), 2);
        Checks.fine(x, "3", x.mark(), 3);
        Checks.refused(x, "a 4th", x.mark(), 7);
        Checks.refused(x, "a 4th", x.mark(), 7);
        Checks.fine(x, "2", x.back(), 2);
        Checks.fine(x, "3 again", x.mark(), 3);
        Checks.refused(x, "a 4th", x.mark(), 7);
        for (int left = 2; left >= 0; left--) {
            Checks.fine(x, "back", x.back(), left);
        }
        Checks.refused(x, "none", x.back(), 8);
    }

    private static void refusedMarkKeepsThose() {
        HollowWall x = Checks.built(ONE);
        for (int i = 1; i <= 3; i++) {
            x.hammer(i);
            x.mark();
        }
        x.hammer(6);
        Checks.refused(x, "a 4th", x.mark(), 7);
        Checks.fine(x, "HAMMER stays", x.many(7), 6);
        for (int i = 3; i >= 1; i--) {
            Checks.fine(x, "back", x.back(), i - 1);
            Checks.fine(x, "where it was then", x.many(7), i);
        }
        Checks.refused(x, "none", x.back(), 8);
        Checks.fine(x, "HAMMER stays", x.many(7), 1);
    }

    private static void latestFirst() {
        HollowWall x = Checks.built(ONE);
        x.note(0, 1);
        x.mark();
        x.note(1, 1);
        x.mark();
        x.note(2, 1);
        x.mark();
        x.note(3, 1);
        for (int noted = 3; noted >= 1; noted--) {
            x.back();
            Checks.fine(x, "NOTED", x.many(8), noted);
        }
    }

    /** A MARK that is gone leaves nothing to the next one. */
    private static void samePlaceAgain() {
        HollowWall x = Checks.built(ONE);
        Checks.round(x, "go 2;");
        x.note(6, 1);
        x.mark();
        x.back();
        Checks.wall(x, "oath 5 from 5;course 2;");
        x.mark();
        Checks.wall(x, ONE);
        Checks.round(x, "go 3;");
        x.note(1, 1);
        Checks.fine(x, "back", x.back(), 0);
        Checks.fine(x, "STONES", x.many(0), 2);
        Checks.fine(x, "NOTED", x.many(8), 0);
        Checks.refused(x, "no ROUND", x.walk(0, 0), 8);
        Checks.refused(x, "no FIND", x.stone(0, 7), 8);
    }

    private static void newObjectKept() {
        HollowWall x = new HollowWall();
        x.mark();
        Checks.wall(x, FULL);
        Checks.round(x, "stop;");
        x.hammer(95);
        x.note(95, 1);
        x.back();
        int[] due = {0, 0, 0, 0, 0, 7, 1, 0, 0};
        for (int what = 0; what < due.length; what++) {
            Checks.fine(x, "many " + what, x.many(what), due[what]);
        }
        Checks.refused(x, "no ROUND", x.walk(0, 0), 8);
        Checks.refused(x, "no STONE", x.stone(0, 0), 2);
    }

    private static void allOfTheSmallest() {
        kept(ONE, "oath 2 from 1;course 1;");
        kept(ONE, FULL);
        kept("oath 2 from 2;course 1;", ONE);
    }

    private static void allOfTheGreatest() {
        kept(FULL, ONE);
        kept(FULL, "oath 2 from 1;");
    }

    /** All that is told of a WALL is as it was, when it is taken back to. */
    private static void kept(String wall, String other) {
        HollowWall due = Checks.built(wall);
        HollowWall x = Checks.built(wall);
        x.mark();
        Checks.wall(x, other);
        x.note(0, 1);
        x.back();
        for (int what = 0; what < 9; what++) {
            Checks.fine(x, "many " + what, x.many(what), due.many(what));
        }
        int last = due.many(0) - 1;
        for (int s : new int[] {0, 1, 2, 3, last / 2, last - 1, last}) {
            for (int what = 0; what < 8; what++) {
                Checks.same("stone " + s + " what " + what, x.stone(s, what), due.stone(s, what));
            }
            Checks.same("shift", x.shift(s), due.shift(s));
        }
        for (int k = 0; k < 4; k++) {
            for (int what = 0; what < 4; what++) {
                Checks.same("mason " + k + " what " + what, x.mason(k, what), due.mason(k, what));
            }
        }
        Checks.fine(x, "price", x.price(), due.price());
        Checks.same("dearest", x.dearest(), due.dearest());
        Checks.same("astray", x.astray(), due.astray());
        Checks.fine(x, "years", x.years(), due.years());
        for (int s = 0; s <= last; s += 5) {
            x.note(s, 0);
            due.note(s, 0);
        }
        Checks.same("least", x.least(true), due.least(true));
        Checks.same("ways", x.ways(true), due.ways(true));
    }

    private static void roundKept() {
        String greatest = "loop1;end;".repeat(20) + "when stone>0;when first;loop2;" + "go 1;back 2;turn;" + "end;end;end;";
        HollowWall due = Checks.built(ONE);
        Checks.round(due, greatest);
        due.hammer(4);
        HollowWall x = Checks.built(ONE);
        Checks.round(x, greatest);
        x.hammer(4);
        x.mark();
        Checks.round(x, "knock;note;loop 9;go 1;end;");
        x.walk(0, 0);
        x.back();
        Checks.fine(x, "the ROUND", x.walk(0, 0), due.walk(0, 0));
        Checks.fine(x, "where it came to", x.many(7), due.many(7));
        Checks.fine(x, "nothing is NOTED", x.many(8), 0);
    }

    private static void noRoundKept() {
        HollowWall x = Checks.built(ONE);
        x.mark();
        Checks.round(x, "go 1;");
        Checks.fine(x, "a ROUND", x.walk(0, 0), 1);
        x.back();
        Checks.refused(x, "none", x.walk(0, 0), 8);
        Checks.denied(x, "none", x.odds(0, 1, 0), 8);
        Checks.fine(x, "HAMMER", x.many(7), 0);
    }

    private static void roundOfNoStepsKept() {
        HollowWall x = Checks.built(ONE);
        Checks.round(x, "");
        x.mark();
        Checks.wall(x, ONE);
        Checks.refused(x, "none", x.walk(0, 0), 8);
        x.back();
        Checks.fine(x, "a ROUND of none", x.walk(0, 0), 0);
    }

    private static void marksOutliveWalls() {
        HollowWall x = Checks.built(ONE);
        x.mark();
        Checks.wall(x, FULL);
        Checks.fine(x, "a second", x.mark(), 2);
        Checks.refused(x, "a FAULT", Checks.wall(x, "oath"), 10);
        Checks.fine(x, "a third", x.mark(), 3);
        x.back();
        x.back();
        Checks.fine(x, "the greatest", x.many(0), 96);
        x.back();
        Checks.fine(x, "the first", x.many(0), 7);
    }

    /** TRAYS, the tape, the FRACTION, and what was told latest are none of what is kept. */
    private static void notKept() {
        HollowWall x = Checks.built(ONE);
        Checks.round(x, "knock;note;");
        x.mark();
        x.tray(3, 0, 1);
        x.write(3, 0, 5);
        Checks.accepted(x, "odds", x.odds(0, 20, 16));
        x.note(1, 1);
        Checks.fine(x, "explain", x.explain(false), 1);
        x.walk(0, 16);
        Checks.wall(x, "oath 1");
        x.feed(0, 0, 0, 0, 0);
        x.back();
        Checks.fine(x, "TRAY", x.read(3, 0), 5);
        Checks.fraction(x, "odds", 0, 1);
        Checks.fine(x, "explained", x.slipAt(0, 0), 1);
        Checks.fine(x, "walked", x.walked(1), 1);
        Checks.same("FAULT", x.fault(0), 4);
        Checks.same("tape", x.feed(0, 0, 0, 0, 0), 40);
    }
}
