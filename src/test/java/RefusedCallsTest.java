/**
 * Promises 13 to 50: each refused call, with its answer and its STATUS, changes nothing else; where two reasons hold, the
 * one of the lower number is told.
 */
public final class RefusedCallsTest {
    private static final int MOST = Integer.MAX_VALUE;
    private static final int LEAST = Integer.MIN_VALUE;
    private static final int[] NO_STONES = {-1, 7, 8, 96, MOST, LEAST};

    public static void main(String[] args) {
        stones();
        masons();
        whats();
        hollowStones();
        noneOfSlips();
        notes();
        noReading();
        explained();
        tellings();
        manyWays();
        allNoted();
        oathsAndTwice();
        fits();
        fitsNumbers();
        both();
        join();
        dated();
        walks();
        noWalk();
        odds();
        Checks.end();
    }

    private static Twins.History wall(String text) {
        return x -> {
            Twins.rich(x);
            x.wall(0);
            Checks.wall(x, text);
            Checks.same("status behind " + text, x.status(), 0);
        };
    }

    /** The rich WALL has 7 STONES; a STONE that is none is told ahead of any other number that can't be. */
    private static void stones() {
        for (int s : NO_STONES) {
            Twins.refused("stone " + s, Twins::rich, x -> x.stone(s, 0), 2);
            Twins.refused("stone " + s + " what 8", Twins::rich, x -> x.stone(s, 8), 2);
            Twins.refused("hollows from " + s, Twins::rich, x -> x.hollows(s, 6), 2);
            Twins.refused("hollows to " + s, Twins::rich, x -> x.hollows(1, s), 2);
            Twins.refused("nextHollow " + s, Twins::rich, x -> x.nextHollow(s), 2);
            Twins.refused("shift " + s, Twins::rich, x -> x.shift(s), 2);
            Twins.refused("knock " + s, Twins::rich, x -> x.knock(s), 2);
            Twins.denied("note " + s, Twins::rich, x -> x.note(s, 1), 2);
            Twins.denied("note " + s + " what 2", Twins::rich, x -> x.note(s, 2), 2);
            Twins.refused("sure " + s, Twins::rich, x -> x.sure(s, false), 2);
            Twins.refused("dated " + s, Twins::rich, x -> x.dated(s, 0), 2);
            Twins.refused("dated " + s + " what 2", Twins::rich, x -> x.dated(s, 2), 2);
            Twins.denied("hammer " + s, Twins::rich, x -> x.hammer(s), 2);
        }
        Twins.refused("stone 0 of none", Twins::fresh, x -> x.stone(0, 0), 2);
        Twins.refused("knock 0 of none", Twins::fresh, x -> x.knock(0), 2);
        Twins.denied("note 0 of none", Twins::fresh, x -> x.note(0, 0), 2);
        Twins.denied("hammer 0 of none", Twins::fresh, x -> x.hammer(0), 2);
    }

    private static void masons() {
        for (int k : new int[] {-1, 2, 3, 4, MOST, LEAST}) {
            Twins.refused("mason " + k, Twins::rich, x -> x.mason(k, 0), 2);
            Twins.refused("mason " + k + " what 4", Twins::rich, x -> x.mason(k, 4), 2);
            Twins.denied("blame " + k, Twins::rich, x -> x.blame(k, true), 2);
        }
        Twins.refused("mason 0 of none", Twins::fresh, x -> x.mason(0, 1), 2);
        Twins.denied("blame 0 of none", Twins::fresh, x -> x.blame(0, true), 2);
        Twins.History idle = wall("oath 3 from 2;course 4;mason a lays 4 costs 2;mason b lays 1 costs 4;");
        Twins.refused("the first STONE of one that came to lay none", idle, x -> x.mason(1, 0), 8);
    }

    private static void whats() {
        for (int what : new int[] {-1, 9, MOST, LEAST}) {
            Twins.refused("many " + what, Twins::rich, x -> x.many(what), 5);
        }
        for (int what : new int[] {-1, 8, MOST, LEAST}) {
            Twins.refused("stone 6 what " + what, Twins::rich, x -> x.stone(6, what), 5);
        }
        for (int what : new int[] {-1, 4, MOST, LEAST}) {
            Twins.refused("mason 1 what " + what, Twins::rich, x -> x.mason(1, what), 5);
            Twins.refused("walked " + what, Twins::rich, x -> x.walked(what), 5);
            Twins.refused("walked ahead of any, what " + what, Twins::fresh, x -> x.walked(what), 5);
        }
        for (int what : new int[] {-1, 2, MOST, LEAST}) {
            Twins.refused("dated 6 what " + what, Twins::rich, x -> x.dated(6, what), 5);
            Twins.refused("slipAt what " + what, Twins::rich, x -> x.slipAt(0, what), 5);
            Twins.refused("slipAt -1 what " + what, Twins::rich, x -> x.slipAt(-1, what), 5);
            Twins.refused("oathAt what " + what, Twins::rich, x -> x.oathAt(0, what), 5);
            Twins.refused("oathAt -1 what " + what, Twins::rich, x -> x.oathAt(-1, what), 5);
            Twins.refused("telling what " + what, Twins::rich, x -> x.telling(true, what), 5);
        }
        for (int what : new int[] {-2, 2, MOST, LEAST}) {
            Twins.denied("note " + what, Twins::rich, x -> x.note(0, what), 5);
        }
        Twins.refused("hollows, the second just ahead of the first", Twins::rich, x -> x.hollows(3, 2), 5);
        Twins.refused("hollows, turned", Twins::rich, x -> x.hollows(6, 0), 5);
    }

    private static void hollowStones() {
        Twins.History full = wall("oath 13 from 1;course 12;");
        Twins.refused("nobody laid it", full, x -> x.stone(0, 2), 8);
        Twins.refused("nothing is NOTED", full, x -> x.stone(0, 6), 8);
        Twins.refused("no FIND", full, x -> x.stone(0, 7), 8);
        Twins.refused("the first of no hollow STONES", full, x -> x.hollowAt(0), 8);
        Twins.refused("no hollow STONE from 0 on", full, x -> x.nextHollow(0), 8);
        Twins.refused("no hollow STONE from the last on", full, x -> x.nextHollow(11), 8);
        // Of the rich WALL 1 and 3 are hollow.
        for (int k : new int[] {2, -1, MOST, LEAST}) {
            Twins.refused("hollowAt " + k, Twins::rich, x -> x.hollowAt(k), 8);
        }
        Twins.refused("no hollow STONE behind the last of them", Twins::rich, x -> x.nextHollow(4), 8);
    }

    private static void noneOfSlips() {
        Twins.History none = wall("oath 3 from 2;course 4;mason a lays 4 costs 2;");
        Twins.refused("dearest without SLIPS", none, x -> x.dearest(), 8);
        Twins.refused("astray without SLIPS", none, x -> x.astray(), 8);
        Twins.History nobody = wall("oath 3 from 1;course 2;slip at 1 by 2;");
        Twins.refused("dearest without MASONS", nobody, x -> x.dearest(), 8);
        Twins.refused("astray, where the SLIP is not heard", nobody, x -> x.astray(), 8);
        Twins.refused("dearest without STONES", Twins::fresh, x -> x.dearest(), 8);
        Twins.refused("astray without STONES", Twins::fresh, x -> x.astray(), 8);
    }

    private static void notes() {
        Twins.History none = wall("oath 3 from 2;course 4;slip at 1 by 1;");
        Twins.refused("wrong, where nothing is NOTED", none, x -> x.wrong(), 8);
        Twins.refused("wrong, where all is NOTED as sworn", x -> {
            none.with(x);
            for (int s = 0; s < 4; s++) {
                x.note(s, s == 1 ? 1 : 0);
            }
        }, x -> x.wrong(), 8);
        Twins.refused("wrong without STONES", Twins::fresh, x -> x.wrong(), 8);
    }

    /** STONE 0 can't be hollow, as no SLIP is at it, and FIRST is told. */
    private static void againstFirst(HollowWall x) {
        Twins.rich(x);
        x.note(0, 1);
    }

    private static void noReading() {
        Twins.History none = RefusedCallsTest::againstFirst;
        Twins.refused("least of none", none, x -> x.least(false), 8);
        Twins.refused("ways of none", none, x -> x.ways(false), 8);
        Twins.refused("explain of none", none, x -> x.explain(false), 8);
        Twins.refused("sure of none", none, x -> x.sure(0, false), 8);
        Twins.refused("sure of no STONE", none, x -> x.sure(7, false), 2);
        Twins.denied("blame of none", none, x -> x.blame(1, false), 8);
        Twins.denied("blame of no MASON", none, x -> x.blame(2, false), 2);
        Twins.refused("telling of none: KNOCKS", none, x -> x.telling(false, 0), 8);
        Twins.refused("telling of none: the first", none, x -> x.telling(false, 1), 8);
        Twins.refused("telling of none: what 2", none, x -> x.telling(false, 2), 5);
        Twins.refused("bestKnock of none", none, x -> x.bestKnock(false), 8);
        Twins.refused("twiceAt of none", none, x -> x.twiceAt(0), 8);
    }

    private static void explained() {
        Twins.refused("firstCount ahead of any", Twins::fresh, x -> x.firstCount(), 8);
        Twins.refused("slipAt ahead of any", Twins::fresh, x -> x.slipAt(0, 0), 8);
        Twins.refused("firstCount behind none", x -> {
            Checks.wall(x, "oath 3 from 2;course 4;");
            x.note(0, 1);
            x.explain(false);
        }, x -> x.firstCount(), 8);
        int slips = new Explained().slips();
        for (int k : new int[] {slips, -1, MOST, LEAST}) {
            Twins.refused("slipAt " + k + ": STONE", Twins::rich, x -> x.slipAt(k, 0), 8);
            Twins.refused("slipAt " + k + ": BY", Twins::rich, x -> x.slipAt(k, 1), 8);
        }
    }

    /** How many SLIPS were explained in the rich history. */
    private static final class Explained {
        int slips() {
            HollowWall x = new HollowWall();
            Twins.rich(x);
            int found = 0;
            while (found < 7 && x.slipAt(found, 0) != HollowWall.NONE) {
                found++;
            }
            Checks.holds("some", found > 0);
            return found;
        }
    }

    private static void tellings() {
        Twins.History sworn = wall("oath 13 from 1;course 16;");
        Twins.refused("one READING needs no STONE", sworn, x -> x.telling(false, 1), 8);
        Twins.refused("13 READINGS: KNOCKS", sworn, x -> x.telling(true, 0), 9);
        Twins.refused("13 READINGS: the first", sworn, x -> x.telling(true, 1), 9);
        Twins.refused("13 READINGS: what 2", sworn, x -> x.telling(true, 2), 5);
        Twins.refused("READINGS of no STONES: KNOCKS", wall("oath 13 from 1;"), x -> x.telling(true, 0), 9);
    }

    private static void manyWays() {
        for (Twins.History many : new Twins.History[] {ManyWays::most, ManyWays::above}) {
            Twins.denied("blame of too many", many, x -> x.blame(0, false), 9);
            Twins.denied("blame of too many, no MASON", many, x -> x.blame(1, false), 2);
            Twins.refused("telling of too many: KNOCKS", many, x -> x.telling(false, 0), 9);
            Twins.refused("telling of too many: the first", many, x -> x.telling(false, 1), 9);
            Twins.refused("bestKnock of too many", many, x -> x.bestKnock(false), 9);
        }
    }

    private static void allNoted() {
        Twins.refused("bestKnock, where all are NOTED", x -> {
            Twins.rich(x);
            for (int s = 0; s < 7; s++) {
                x.knock(s);
            }
        }, x -> x.bestKnock(false), 8);
        Twins.refused("bestKnock without STONES", Twins::fresh, x -> x.bestKnock(false), 8);
        Twins.refused("bestKnock without STONES, FREE", Twins::fresh, x -> x.bestKnock(true), 8);
    }

    private static void oathsAndTwice() {
        for (int k : new int[] {90, -1, MOST, LEAST}) {
            Twins.refused("oathAt " + k + ": M", Twins::fresh, x -> x.oathAt(k, 0), 8);
            Twins.refused("oathAt " + k + ": FIRST", Twins::fresh, x -> x.oathAt(k, 1), 8);
        }
        Twins.History sworn = wall("oath 4 from 1;course 8;");
        for (int k : new int[] {7, -1, MOST, LEAST}) {
            Twins.refused("twiceAt " + k, sworn, x -> x.twiceAt(k), 8);
        }
        Twins.refused("twiceAt without STONES", Twins::fresh, x -> x.twiceAt(0), 8);
    }

    private static void fit(String what, int tray, int many, int kind, int status) {
        Twins.refused("fits: " + what, Twins::rich, x -> x.fits(tray, many, kind), status);
    }

    /** In TRAY 0: 1, 0, -1; in TRAY 2: -300, 0; TRAY 3 is MISSING. */
    private static void fits() {
        fit("tray -1", -1, 1, 0, 1);
        fit("tray 4", 4, 1, 0, 1);
        fit("a missing one", 3, 1, 0, 3);
        fit("too few", 0, 4, 0, 4);
        fit("too few for the most", 0, MOST, 0, 4);
        fit("0 numbers", 0, 0, 0, 5);
        fit("-1 numbers", 0, -1, 0, 5);
        fit("the least numbers", 0, LEAST, 0, 5);
        fit("what -1", 0, 1, -1, 5);
        fit("what 2", 0, 1, 2, 5);
        fit("a number that is no piece's", 2, 1, 0, 5);
        fit("no tray ahead of all", 4, 0, 2, 1);
        fit("missing ahead of 0 numbers", 3, 0, 2, 3);
        fit("too few ahead of what", 0, 4, 2, 4);
        fit("too few ahead of a bad number", 2, 3, 2, 4);
    }

    private static void piece(HollowWall x, int many, int place, long number) {
        Twins.rich(x);
        x.tray(3, 3, many);
        x.write(3, place, number);
    }

    private static void fitsNumbers() {
        Twins.refused("17 of 17", x -> piece(x, 17, 0, 0), x -> x.fits(3, 17, 0), 5);
        Twins.refused("17 of 16: too few", x -> piece(x, 16, 0, 0), x -> x.fits(3, 17, 0), 4);
        for (long number : new long[] {2, -2, 4294967296L, Long.MAX_VALUE, Long.MIN_VALUE}) {
            Twins.refused("a piece with " + number, x -> piece(x, 3, 2, number), x -> x.fits(3, 3, 0), 5);
        }
        Twins.refused("a bad number ahead of none", x -> piece(x, 16, 15, 2), x -> x.fits(3, 16, 0), 5);
        Twins.refused("longer than the WALL: how many", x -> piece(x, 8, 0, 0), x -> x.fits(3, 8, 0), 8);
        Twins.refused("longer than the WALL: the first", x -> piece(x, 8, 0, 0), x -> x.fits(3, 8, 1), 8);
        Twins.refused("nowhere", x -> piece(x, 5, 0, 0), x -> x.fits(3, 5, 1), 8);
        Twins.refused("without STONES", x -> x.tray(3, 3, 1), x -> x.fits(3, 1, 0), 8);
    }

    private static void both() {
        int[][] bad = {{1, 1, 7, 1}, {14, 1, 7, 1}, {0, 0, 7, 1}, {-2, 1, 7, 1}, {7, 0, 7, 1}, {7, 8, 7, 1}, {7, -1, 7, 1},
            {7, 1, 1, 1}, {7, 1, 14, 1}, {7, 1, 0, 0}, {7, 1, 7, 0}, {7, 1, 7, 8}, {MOST, 1, 7, 1}, {7, MOST, 7, 1},
            {7, 1, MOST, MOST}, {LEAST, LEAST, 7, 1}, {7, 1, 7, LEAST}, {2, 1, 2, 3}};
        for (int[] n : bad) {
            Twins.refused("both " + n[0] + " " + n[1] + " " + n[2] + " " + n[3], Twins::rich,
                x -> x.both(n[0], n[1], n[2], n[3]), 5);
        }
        int[][] never = {{2, 1, 2, 2}, {2, 2, 4, 1}, {13, 1, 13, 2}, {6, 6, 9, 2}};
        for (int[] n : never) {
            Twins.refused("both, never", Twins::rich, x -> x.both(n[0], n[1], n[2], n[3]), 8);
        }
    }

    private static void join() {
        int[][] bad = {{1, 1, 5}, {14, 1, 5}, {0, 0, 5}, {7, 0, 5}, {7, 8, 5}, {7, -1, 5}, {7, 1, 0}, {7, 1, 201}, {7, 1, -1},
            {MOST, 1, 5}, {7, MOST, 5}, {7, 1, MOST}, {LEAST, 1, 5}, {7, LEAST, 5}, {7, 1, LEAST}};
        for (int[] n : bad) {
            Twins.refused("join " + n[0] + " " + n[1] + " " + n[2], Twins::rich, x -> x.join(n[0], n[1], n[2]), 5);
            Twins.refused("a bad number ahead of no STONES", Twins::fresh, x -> x.join(n[0], n[1], n[2]), 5);
        }
        Twins.refused("join without STONES", Twins::fresh, x -> x.join(7, 7, 1), 8);
    }

    private static void dated() {
        // The FINDS: 7 in STONE 1, 5 in STONE 6.
        Twins.refused("no FIND ahead, nor in it", Twins::rich, x -> x.dated(0, 0), 8);
        for (int s = 2; s < 6; s++) {
            int stone = s;
            Twins.refused("the least is above the greatest: the least", Twins::rich, x -> x.dated(stone, 0), 9);
            Twins.refused("the least is above the greatest: the greatest", Twins::rich, x -> x.dated(stone, 1), 9);
        }
        Twins.History first = wall("oath 3 from 2;course 4;find at 0 year 7;");
        Twins.refused("no FIND behind, nor in it", first, x -> x.dated(1, 1), 8);
        Twins.refused("no FIND behind the last", first, x -> x.dated(3, 1), 8);
        Twins.History none = wall("oath 3 from 2;course 4;");
        Twins.refused("no FIND at all: the least", none, x -> x.dated(3, 0), 8);
        Twins.refused("no FIND at all: the greatest", none, x -> x.dated(0, 1), 8);
    }

    private static void walks() {
        int[][] bad = {{-1, 0}, {10000, 0}, {0, -1}, {0, 17}, {MOST, 0}, {LEAST, 0}, {0, MOST}, {0, LEAST}, {-1, 17}};
        for (int[] n : bad) {
            Twins.refused("walk " + n[0] + " " + n[1], Twins::rich, x -> x.walk(n[0], n[1]), 5);
            Twins.refused("a bad number ahead of no ROUND", Twins::fresh, x -> x.walk(n[0], n[1]), 5);
        }
    }

    private static void noWalk() {
        Twins.History roundAlone = x -> Checks.round(x, "go 1;");
        Twins.History wallAlone = x -> Checks.wall(x, "oath 3 from 1;course 4;");
        Twins.History wallBehindRound = x -> {
            Twins.rich(x);
            x.wall(0);
            Checks.wall(x, "oath 3 from 1;course 4;");
        };
        Twins.History[] cannot = {Twins::fresh, roundAlone, wallAlone, wallBehindRound};
        for (int i = 0; i < cannot.length; i++) {
            Twins.refused("walk of " + i, cannot[i], x -> x.walk(0, 0), 8);
            Twins.denied("odds of " + i, cannot[i], x -> x.odds(0, 1, 0), 8);
        }
        for (int what = 0; what < 4; what++) {
            int asked = what;
            Twins.refused("walked ahead of any: " + what, Twins::fresh, x -> x.walked(asked), 8);
            Twins.refused("walked behind a refused one: " + what, x -> {
                wallAlone.with(x);
                Checks.round(x, "go 1;");
                x.walk(10000, 0);
                x.odds(0, 1, 0);
            }, x -> x.walked(asked), 8);
        }
    }

    private static void odds() {
        int[][] bad = {{-1, 1, 0}, {10000, 1, 0}, {0, 0, 0}, {0, 21, 0}, {0, -1, 0}, {0, 1, -1}, {0, 1, 17}, {9999, 2, 0},
            {9990, 11, 0}, {9981, 20, 0}, {-1, 2, 0}, {MOST, 1, 0}, {MOST, MOST, 0}, {LEAST, 1, 0}, {0, MOST, 0}, {0, LEAST, 0},
            {0, 1, MOST}, {0, 1, LEAST}};
        for (int[] n : bad) {
            Twins.denied("odds " + n[0] + " " + n[1] + " " + n[2], Twins::rich, x -> x.odds(n[0], n[1], n[2]), 5);
            Twins.denied("a bad number ahead of no ROUND", Twins::fresh, x -> x.odds(n[0], n[1], n[2]), 5);
        }
    }
}
