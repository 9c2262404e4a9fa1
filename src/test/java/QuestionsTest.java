/** For all promises: a call that is answered changes nothing but what its promise says. */
public final class QuestionsTest {
    public static void main(String[] args) {
        ofTheWall();
        ofReadings();
        ofPiecesAndYears();
        whatTellsAFraction();
        whatIsExplained();
        whatIsNoted();
        hammer();
        numbersOfTrays();
        marks();
        texts();
        Checks.end();
    }

    private static void asks(String what, Twins.Call call) {
        Twins.changesOnly(what, Twins::rich, call, "");
    }

    private static void ofTheWall() {
        for (int what = 0; what < 9; what++) {
            int asked = what;
            asks("many", x -> x.many(asked));
        }
        for (int what : new int[] {0, 1, 2, 3, 4, 5}) {
            asks("stone", x -> x.stone(6, what));
        }
        asks("what is noted", x -> x.stone(4, 6));
        asks("a find", x -> x.stone(6, 7));
        for (int what : new int[] {0, 1, 2, 3}) {
            asks("mason", x -> x.mason(1, what));
        }
        asks("hollows", x -> x.hollows(0, 6));
        asks("hollowAt", x -> x.hollowAt(1));
        asks("nextHollow", x -> x.nextHollow(2));
        asks("gap", x -> x.gap());
        asks("shift", x -> x.shift(6));
        asks("price", x -> x.price());
        asks("dearest", x -> x.dearest());
        asks("astray", x -> x.astray());
        asks("wrong", x -> x.wrong());
    }

    private static void ofReadings() {
        for (boolean free : new boolean[] {false, true}) {
            asks("least", x -> x.least(free));
            asks("ways", x -> x.ways(free));
            asks("sure", x -> x.sure(6, free));
            asks("telling", x -> x.telling(free, 0));
            asks("bestKnock", x -> x.bestKnock(free));
        }
        Twins.History four = x -> {
            Checks.wall(x, "oath 4 from 1;course 8;");
            x.note(7, 0);
            x.explain(false);
        };
        Twins.changesOnly("telling", four, x -> x.telling(true, 0), "");
        Twins.changesOnly("the first to be told", four, x -> x.telling(true, 1), "");
        asks("slipAt", x -> x.slipAt(0, 0));
        asks("slipAt", x -> x.slipAt(0, 1));
        asks("firstCount", x -> x.firstCount());
        asks("oaths", x -> x.oaths());
        Twins.changesOnly("oathAt", four, x -> x.oathAt(0, 0), "");
        Twins.changesOnly("oathAt", four, x -> x.oathAt(1, 1), "");
        asks("twice", x -> x.twice());
        Twins.changesOnly("twiceAt", four, x -> x.twiceAt(0), "");
    }

    private static void ofPiecesAndYears() {
        asks("read", x -> x.read(1, 3));
        asks("fits", x -> x.fits(0, 3, 0));
        asks("the first that fits", x -> x.fits(0, 3, 1));
        asks("both", x -> x.both(7, 1, 11, 1));
        asks("join", x -> x.join(7, 1, 200));
        asks("years", x -> x.years());
        asks("against", x -> x.against());
        asks("dated", x -> x.dated(0, 1));
        asks("dated", x -> x.dated(6, 0));
        for (int what : new int[] {0, 1, 2, 3}) {
            asks("walked", x -> x.walked(what));
        }
        Twins.silent("top", Twins::fresh, x -> x.top(), 0);
        Twins.silent("bottom", Twins::fresh, x -> x.bottom(), 1);
        Twins.silent("status", Twins::rich, x -> x.status(), 5);
    }

    private static void whatTellsAFraction() {
        Twins.changesOnly("blame", Twins::rich, x -> x.blame(0, false) ? 1 : 0, "fraction");
        Twins.changesOnly("blame, FREE", Twins::rich, x -> x.blame(1, true) ? 1 : 0, "fraction");
        Twins.changesOnly("odds", Twins::rich, x -> x.odds(0, 20, 8) ? 1 : 0, "fraction");
        Twins.changesOnly("odds of the last seed", Twins::rich, x -> x.odds(9999, 1, 16) ? 1 : 0, "fraction");
        // All stays as it is: that there was no walk, too.
        Twins.History ready = x -> {
            Checks.wall(x, "oath 3 from 1;course 9;");
            Checks.round(x, "loop 9;knock;note;go 1;end;");
            x.hammer(1);
        };
        Twins.changesOnly("odds ahead of any walk", ready, x -> x.odds(0, 1, 16) ? 1 : 0, "fraction");
    }

    private static void whatIsExplained() {
        Twins.changesOnly("explain", Twins::rich, x -> x.explain(true), "explained");
        Twins.changesOnly("explain of a new object", Twins::fresh, x -> x.explain(false), "explained");
    }

    /** One STONE alone. */
    private static void whatIsNoted() {
        Twins.History noted = x -> {
            Twins.rich(x);
            x.knock(6);
        };
        Twins.changesOnly("knock again", noted, x -> x.knock(6), "");
        Twins.changesOnly("the same noted", noted, x -> x.note(6, 0) ? 1 : 0, "");
        Twins.changesOnly("the other and back", noted, x -> x.note(6, 1) && x.note(6, 0) ? 1 : 0, "");
        Twins.changesOnly("nothing noted of a STONE of which nothing was", Twins::rich, x -> x.note(6, -1) ? 1 : 0, "");
        Twins.changesOnly("clear of nothing", x -> {
            Twins.rich(x);
            x.clear();
        }, x -> x.clear(), "");
        Twins.changesOnly("noted and taken back", Twins::rich, x -> x.note(6, 1) && x.note(6, -1) ? 1 : 0, "");
    }

    private static void hammer() {
        Twins.changesOnly("where it is already", Twins::rich, x -> x.hammer(x.many(7)) ? 1 : 0, "");
        Twins.changesOnly("away and back", Twins::rich, x -> {
            int at = x.many(7);
            return x.hammer(0) && x.hammer(6) && x.hammer(at) ? 1 : 0;
        }, "");
    }

    private static void numbersOfTrays() {
        Twins.changesOnly("tray", Twins::rich, x -> x.tray(1, 1, 4) ? 1 : 0, "tray 1");
        Twins.changesOnly("write", Twins::rich, x -> x.write(1, 2, 5) ? 1 : 0, "tray 1 place 2");
        Twins.changesOnly("pour", Twins::rich, x -> x.pour(1, 2, 2, 0, 2) ? 1 : 0, "tray 2 place");
        Twins.changesOnly("pour of nothing", Twins::rich, x -> x.pour(1, 4, 2, 2, 0) ? 1 : 0, "");
        Twins.changesOnly("pour of all onto itself", Twins::rich, x -> x.pour(1, 0, 1, 0, 4) ? 1 : 0, "");
    }

    private static void marks() {
        Twins.changesOnly("a MARK and back", Twins::rich, x -> x.mark() + x.back(), "");
        Twins.changesOnly("a MARK, much, and back", Twins::rich, x -> {
            x.mark();
            x.clear();
            x.knock(0);
            x.knock(6);
            x.hammer(0);
            return x.back();
        }, "");
    }

    /** What is read from the tape changes no TRAY, FRACTION, MARK, nor what was explained and walked. */
    private static void texts() {
        Twins.History emptied = x -> {
            Twins.rich(x);
            x.wall(0);
            Checks.wall(x, "oath 5 from 4;course 2;");
        };
        Twins.changesOnly("the same WALL again", emptied, x -> Checks.wall(x, "oath 5 from 4;course 2;"), "");
        Twins.History walled = x -> {
            emptied.with(x);
            Checks.round(x, "go 1;knock;note;");
        };
        Twins.changesOnly("the same ROUND again", walled, x -> Checks.round(x, "go 1;knock;note;"), "");
        HollowWall x = new HollowWall();
        Twins.rich(x);
        int explained = x.slipAt(0, 0);
        int walked = x.walked(0);
        long top = x.top();
        x.wall(0);
        Checks.wall(x, "oath 5 from 4;course 2;");
        Checks.fine(x, "explained", x.slipAt(0, 0), explained);
        Checks.fine(x, "walked", x.walked(0), walked);
        Checks.same("the FRACTION", x.top(), top);
        Checks.fine(x, "a number", x.read(1, 3), 300);
        Checks.fine(x, "MARKS", x.mark(), 3);
    }
}
