/** The bounds of TRAYS (Term 1; promises 1 to 8), on both sides. */
public final class EdgesOfTraysTest {
    public static void main(String[] args) {
        missingAtFirst();
        lengths();
        madeAnew();
        cutTo8();
        cutTo16();
        cutTo32();
        cutTo64();
        noneIsANumber();
        lastPlaces();
        pourAll();
        pourNothing();
        pourAsTheyWere();
        pourKeepsTheSort();
        lastCalls();
        Checks.end();
    }

    /** "TRAYS, 0 to 3, are MISSING at first" */
    private static void missingAtFirst() {
        HollowWall x = new HollowWall();
        for (int t = 0; t < 4; t++) {
            Checks.refused(x, "read", x.read(t, 0), 3);
            Checks.denied(x, "write", x.write(t, 0, 1), 3);
            Checks.denied(x, "pour", x.pour(t, 0, t, 0, 0), 3);
            Checks.refused(x, "fits", x.fits(t, 1, 0), 3);
        }
        Checks.accepted(x, "tray 3", x.tray(3, 0, 1));
        Checks.fine(x, "tray 3", x.read(3, 0), 0);
        for (int t = 0; t < 3; t++) {
            Checks.refused(x, "the others", x.read(t, 0), 3);
        }
        for (int t : new int[] {-1, 4}) {
            Checks.denied(x, "no such", x.tray(t, 0, 1), 1);
            Checks.refused(x, "no such", x.read(t, 0), 1);
            Checks.denied(x, "no such", x.write(t, 0, 0), 1);
            Checks.refused(x, "no such", x.fits(t, 1, 0), 1);
        }
    }

    /** "at most 60; 5", "6" below 0 */
    private static void lengths() {
        for (int sort = 0; sort < 4; sort++) {
            HollowWall x = new HollowWall();
            Checks.accepted(x, "no numbers", x.tray(0, sort, 0));
            Checks.refused(x, "none is there", x.read(0, 0), 4);
            Checks.accepted(x, "one", x.tray(0, sort, 1));
            Checks.fine(x, "it", x.read(0, 0), 0);
            Checks.refused(x, "no more", x.read(0, 1), 4);
            Checks.accepted(x, "60", x.tray(0, sort, 60));
            for (int place = 0; place < 60; place++) {
                Checks.fine(x, "all 0", x.read(0, place), 0);
            }
            Checks.refused(x, "no more", x.read(0, 60), 4);
            Checks.denied(x, "61", x.tray(0, sort, 61), 5);
            Checks.denied(x, "-1", x.tray(0, sort, -1), 6);
            Checks.fine(x, "still 60", x.read(0, 59), 0);
        }
        HollowWall x = new HollowWall();
        Checks.denied(x, "sort -1", x.tray(0, -1, 1), 1);
        Checks.denied(x, "sort 4", x.tray(0, 4, 1), 1);
    }

    private static void madeAnew() {
        HollowWall x = new HollowWall();
        x.tray(0, 3, 60);
        x.tray(1, 3, 2);
        for (int place = 0; place < 60; place++) {
            x.write(0, place, -1);
        }
        x.write(1, 1, 8);
        Checks.accepted(x, "shorter, of another sort", x.tray(0, 0, 59));
        Checks.fine(x, "all 0", x.read(0, 0), 0);
        Checks.fine(x, "all 0", x.read(0, 58), 0);
        Checks.refused(x, "shorter", x.read(0, 59), 4);
        x.write(0, 0, 128);
        Checks.fine(x, "of 8 bits", x.read(0, 0), -128);
        Checks.accepted(x, "longer", x.tray(0, 3, 60));
        Checks.fine(x, "all 0", x.read(0, 0), 0);
        Checks.fine(x, "all 0", x.read(0, 59), 0);
        Checks.fine(x, "the other stays", x.read(1, 1), 8);
    }

    private static void cut(int sort, long number, long due) {
        HollowWall x = new HollowWall();
        x.tray(2, sort, 3);
        Checks.accepted(x, "write", x.write(2, 1, number));
        Checks.fine(x, number + " in sort " + sort, x.read(2, 1), due);
        Checks.fine(x, "the one ahead", x.read(2, 0), 0);
        Checks.fine(x, "the one behind", x.read(2, 2), 0);
    }

    /** "8 bits (sort 0) .. with sign; what is written is cut to these" */
    private static void cutTo8() {
        cut(0, 127, 127);
        cut(0, 128, -128);
        cut(0, -128, -128);
        cut(0, -129, 127);
        cut(0, 255, -1);
        cut(0, 256, 0);
        cut(0, 257, 1);
        cut(0, -256, 0);
        cut(0, 1L << 40, 0);
        cut(0, Long.MAX_VALUE, -1);
        cut(0, Long.MIN_VALUE, 0);
    }

    private static void cutTo16() {
        cut(1, 128, 128);
        cut(1, 32767, 32767);
        cut(1, 32768, -32768);
        cut(1, -32768, -32768);
        cut(1, -32769, 32767);
        cut(1, 65535, -1);
        cut(1, 65536, 0);
        cut(1, Long.MAX_VALUE, -1);
        cut(1, Long.MIN_VALUE, 0);
    }

    private static void cutTo32() {
        cut(2, 32768, 32768);
        cut(2, 2147483647L, 2147483647L);
        cut(2, 2147483648L, -2147483648L);
        cut(2, -2147483648L, -2147483648L);
        cut(2, -2147483649L, 2147483647L);
        cut(2, 4294967295L, -1);
        cut(2, 4294967296L, 0);
        cut(2, Long.MAX_VALUE, -1);
        cut(2, Long.MIN_VALUE, 0);
    }

    private static void cutTo64() {
        cut(3, 2147483648L, 2147483648L);
        cut(3, -2147483649L, -2147483649L);
        cut(3, Long.MAX_VALUE, Long.MAX_VALUE);
        cut(3, Long.MIN_VALUE, Long.MIN_VALUE);
    }

    /** "STATUS tells NONE from -1" */
    private static void noneIsANumber() {
        HollowWall x = new HollowWall();
        x.tray(0, 0, 1);
        x.write(0, 0, -1);
        Checks.fine(x, "-1", x.read(0, 0), -1);
        Checks.refused(x, "NONE", x.read(0, 1), 4);
    }

    private static void lastPlaces() {
        HollowWall x = new HollowWall();
        x.tray(3, 3, 60);
        Checks.accepted(x, "the first", x.write(3, 0, 5));
        Checks.accepted(x, "the last", x.write(3, 59, 6));
        Checks.denied(x, "behind it", x.write(3, 60, 7), 4);
        Checks.denied(x, "ahead of the first", x.write(3, -1, 7), 4);
        Checks.fine(x, "the first", x.read(3, 0), 5);
        Checks.fine(x, "the last", x.read(3, 59), 6);
        Checks.refused(x, "behind it", x.read(3, 60), 4);
        Checks.refused(x, "ahead of the first", x.read(3, -1), 4);
    }

    private static HollowWall counted(int sort) {
        HollowWall x = new HollowWall();
        x.tray(0, sort, 60);
        x.tray(1, sort, 60);
        for (int place = 0; place < 60; place++) {
            x.write(0, place, place + 1);
        }
        return x;
    }

    private static void pourAll() {
        HollowWall x = counted(0);
        Checks.accepted(x, "all 60", x.pour(0, 0, 1, 0, 60));
        for (int place = 0; place < 60; place++) {
            Checks.fine(x, "place " + place, x.read(1, place), place + 1);
        }
        Checks.denied(x, "61", x.pour(0, 0, 1, 0, 61), 4);
        Checks.accepted(x, "the last to the first", x.pour(0, 59, 1, 0, 1));
        Checks.fine(x, "the first", x.read(1, 0), 60);
        Checks.accepted(x, "the first to the last", x.pour(0, 0, 1, 59, 1));
        Checks.fine(x, "the last", x.read(1, 59), 1);
        Checks.denied(x, "two of the last", x.pour(0, 59, 1, 0, 2), 4);
        Checks.denied(x, "two to the last", x.pour(0, 0, 1, 59, 2), 4);
    }

    /** "(with 0 numbers, too, if a place is above how many there are)" */
    private static void pourNothing() {
        HollowWall x = counted(1);
        x.tray(2, 1, 0);
        Checks.accepted(x, "from behind the last", x.pour(0, 60, 1, 0, 0));
        Checks.accepted(x, "to behind the last", x.pour(0, 0, 1, 60, 0));
        Checks.accepted(x, "of a TRAY of no numbers", x.pour(2, 0, 1, 0, 0));
        Checks.accepted(x, "to a TRAY of no numbers", x.pour(1, 0, 2, 0, 0));
        Checks.accepted(x, "to itself", x.pour(2, 0, 2, 0, 0));
        Checks.denied(x, "from above", x.pour(0, 61, 1, 0, 0), 4);
        Checks.denied(x, "to above", x.pour(0, 0, 1, 61, 0), 4);
        Checks.denied(x, "from above 0", x.pour(2, 1, 1, 0, 0), 4);
        Checks.denied(x, "to above 0", x.pour(1, 0, 2, 1, 0), 4);
        Checks.denied(x, "one of none", x.pour(2, 0, 1, 0, 1), 4);
        Checks.fine(x, "nothing came", x.read(1, 0), 0);
        Checks.fine(x, "nothing came", x.read(1, 59), 0);
    }

    /** "of another one, or the same, as they were" */
    private static void pourAsTheyWere() {
        HollowWall up = counted(2);
        Checks.accepted(up, "one place up", up.pour(0, 0, 0, 1, 59));
        for (int place = 0; place < 60; place++) {
            Checks.fine(up, "place " + place, up.read(0, place), Math.max(1, place));
        }
        HollowWall down = counted(2);
        Checks.accepted(down, "one place down", down.pour(0, 1, 0, 0, 59));
        for (int place = 0; place < 60; place++) {
            Checks.fine(down, "place " + place, down.read(0, place), Math.min(60, place + 2));
        }
        HollowWall same = counted(2);
        Checks.accepted(same, "to where they are", same.pour(0, 0, 0, 0, 60));
        Checks.fine(same, "the last", same.read(0, 59), 60);
    }

    private static void pourKeepsTheSort() {
        for (int sort = 0; sort < 4; sort++) {
            HollowWall x = new HollowWall();
            x.tray(0, sort, 2);
            x.tray(1, sort, 2);
            x.tray(2, (sort + 1) % 4, 2);
            x.write(0, 0, Long.MIN_VALUE + 127);
            Checks.accepted(x, "like sorts", x.pour(0, 0, 1, 1, 1));
            Checks.fine(x, "as it was", x.read(1, 1), x.read(0, 0));
            Checks.denied(x, "unlike sorts", x.pour(0, 0, 2, 0, 1), 11);
            Checks.denied(x, "unlike sorts, nothing", x.pour(2, 0, 0, 0, 0), 11);
            Checks.fine(x, "nothing came", x.read(2, 0), 0);
        }
    }

    /** "An object is used for at most 512 calls": the last of them is as good as the first. */
    private static void lastCalls() {
        HollowWall x = new HollowWall();
        x.tray(0, 3, 1);
        for (int call = 2; call < 510; call++) {
            x.write(0, 0, call);
        }
        Checks.same("call 510", x.read(0, 0), 509);
        Checks.same("call 511", x.many(5), 7);
        Checks.same("call 512", x.status(), 0);
    }
}
