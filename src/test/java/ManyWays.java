/** WALLS and what is NOTED of them, with WAYS on both sides of the most that are told. */
final class ManyWays {
    private ManyWays() {
    }

    private static void hollow(HollowWall x, int... stones) {
        for (int s : stones) {
            x.note(s, 1);
        }
    }

    private static void full(HollowWall x, int from, int... behind) {
        for (int s : behind) {
            x.note(from + s, 0);
        }
    }

    /**
     * 127 times 254 times 31. From a hollow STONE to another one, 16 behind it, with the 8th full, there is a SLIP by b up
     * to the 8th, and one by 8 - b behind it; a full STONE at 8 - b leaves b places for the first, one at 16 - b leaves
     * 8 - b for the second, else there are 8 each.
     */
    static void below(HollowWall x) {
        below(x, "mason a lays 64 costs 1;");
    }

    /** Laid by others, whose SLIPS COST 1, too. */
    static void below(HollowWall x, String masons) {
        Checks.wall(x, "oath 8 from 8;course 16;course 16;course 16;course 16;" + masons);
        hollow(x, 0, 16, 32, 63);
        full(x, 0, 8, 1, 4, 6, 7, 9, 10, 11, 12, 13);
        full(x, 16, 8, 3, 4, 5, 10, 11, 12, 13);
    }

    /** One SLIP each in 27, 7, 11, 13 and 37 STONES. */
    static void most(HollowWall x) {
        Checks.wall(x, "oath 4 from 4;course 16;course 16;course 16;course 16;course 16;course 16;mason a lays 1 costs 1;");
        hollow(x, 27, 34, 45, 58, 95);
    }

    /** One SLIP each in 25, 20, 20, 10 and 10 STONES: 1,000,000. */
    static void above(HollowWall x) {
        Checks.wall(x, "oath 3 from 3;course 16;course 16;course 16;course 16;course 16;course 16;mason a lays 1 costs 1;");
        hollow(x, 25, 45, 65, 75, 85);
    }
}
