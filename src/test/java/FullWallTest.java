/** The greatest WALL there may be: every call comes to its last STONE, COURSE, MASON, SLIP and FIND. */
public final class FullWallTest {
    private static final String SWORN = "oath 13 from 1;" + "course 16;".repeat(6);

    public static void main(String[] args) {
        sworn();
        told();
        readings();
        rounds();
        Checks.end();
    }

    private static void sworn() {
        HollowWall x = Checks.built(SWORN);
        Checks.fine(x, "stones", x.many(0), 96);
        Checks.fine(x, "hollows", x.hollows(0, 95), 7);
        Checks.refused(x, "hollowAt", x.hollowAt(7), 8);
        Checks.fine(x, "the last", x.hollowAt(6), 90);
        Checks.refused(x, "nextHollow", x.nextHollow(91), 8);
        Checks.fine(x, "gap", x.gap(), 12);
        Checks.refused(x, "astray", x.astray(), 8);
        Checks.refused(x, "wrong", x.wrong(), 8);
        Checks.fine(x, "price", x.price(), 0);
        Checks.refused(x, "dearest", x.dearest(), 8);
        Checks.fine(x, "years", x.years(), 0);
        Checks.fine(x, "against", x.against(), 0);
        Checks.refused(x, "dated", x.dated(95, 0), 8);
        Checks.refused(x, "dated", x.dated(0, 1), 8);
        Checks.fine(x, "course", x.stone(95, 0), 5);
        Checks.fine(x, "place", x.stone(95, 1), 15);
        Checks.fine(x, "clear", x.clear(), 0);
    }

    private static void told() {
        HollowWall x = Checks.built(SWORN + "mason a lays 24 costs 9;mason b lays 24 costs 8;mason c lays 24 costs 7;"
            + "mason d lays 24 costs 6;slip at 91 by 1;slip at 92 by 1;slip at 93 by 1;slip at 94 by 12;slip at 95 by 12;"
            + "find at 95 year 1;find at 90 year 2;find at 77 year 3;find at 64 year 1;find at 51 year 2;find at 38 year 9999;"
            + "find at 25 year 0;find at 12 year 0;");
        Checks.fine(x, "slips", x.many(3), 5);
        Checks.fine(x, "finds", x.many(4), 8);
        Checks.fine(x, "price", x.price(), 30);
        Checks.fine(x, "dearest", x.dearest(), 3);
        Checks.fine(x, "the last of d", x.stone(95, 2), 3);
        Checks.fine(x, "slips of d", x.mason(3, 3), 5);
        // 1, 3, 5, 7, 7, 7 at 90 to 95 are counted from 13 on
        int[] due = {13, 2, 4, 6, 6, 6};
        for (int i = 0; i < due.length; i++) {
            Checks.fine(x, "true count", x.stone(90 + i, 3), due[i]);
        }
        Checks.refused(x, "not in a hollow stone", x.astray(), 8);
        // 0 0 9999 2 1 3 2
        Checks.fine(x, "years", x.years(), 4);
        Checks.fine(x, "against", x.against(), 6);
        Checks.refused(x, "crossed", x.dated(94, 1), 9);
        Checks.fine(x, "the last find", x.dated(95, 1), 1);
        Checks.fine(x, "join", x.join(2, 2, 200), 8);
        x.tray(0, 0, 60);
        Checks.fine(x, "fits", x.fits(0, 5, 0), 57);
    }

    private static void readings() {
        HollowWall x = Checks.built(SWORN + "mason a lays 96 costs 9;");
        Checks.fine(x, "ways", x.ways(true), 13);
        Checks.fine(x, "twice", x.twice(), 95);
        Checks.fine(x, "twiceAt", x.twiceAt(94), 95);
        Checks.refused(x, "twiceAt", x.twiceAt(95), 8);
        Checks.fine(x, "bestKnock", x.bestKnock(true), 0);
        Checks.fine(x, "sure", x.sure(95, true), 1);
        x.note(95, 1);
        x.note(90, 1);
        Checks.fine(x, "least", x.least(true), 9);
        Checks.fine(x, "at 91 to 95", x.ways(true), 5);
        Checks.fine(x, "told as it is", x.least(false), 9);
        Checks.fine(x, "by 8 at 91 to 95", x.ways(false), 5);
        Checks.fine(x, "telling", x.telling(false, 0), 0);
        Checks.fine(x, "explain", x.explain(false), 1);
        Checks.fine(x, "slipAt", x.slipAt(0, 0), 95);
        Checks.fine(x, "slipAt", x.slipAt(0, 1), 8);
        for (int s = 0; s < 96; s++) {
            x.note(s, 1);
        }
        Checks.refused(x, "all hollow", x.least(false), 8);
        Checks.fine(x, "all hollow", x.least(true), 9 * 95);
        Checks.fine(x, "all hollow", x.explain(true), 95);
        Checks.fine(x, "the last slip", x.slipAt(94, 0), 95);
        Checks.fine(x, "by", x.slipAt(94, 1), 12);
        Checks.refused(x, "no more", x.slipAt(95, 0), 8);
        Checks.refused(x, "oathAt", x.oathAt(0, 0), 8);
        Checks.fine(x, "clear", x.clear(), 96);
    }

    private static void rounds() {
        HollowWall x = Checks.built(SWORN);
        Checks.round(x, "loop 96;knock;note;go 1;end;");
        Checks.accepted(x, "odds", x.odds(0, 20, 0));
        Checks.fraction(x, "all true", 1, 1);
        Checks.fine(x, "walk", x.walk(0, 0), 289);
        Checks.fine(x, "noted", x.many(8), 96);
        Checks.fine(x, "hammer", x.many(7), 95);
        Checks.refused(x, "wrong", x.wrong(), 8);
        Checks.refused(x, "bestKnock", x.bestKnock(true), 8);
        Checks.fine(x, "ways", x.ways(true), 1);
        Checks.fine(x, "oaths", x.oaths(), 1);
    }
}
