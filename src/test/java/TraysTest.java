/** Promises 5 to 8: tray, write, read, pour. */
public final class TraysTest {
    public static void main(String[] args) {
        making();
        cutting();
        places();
        pouring();
        pouringRefused();
        orderOfPour();
        Checks.end();
    }

    private static void making() {
        HollowWall x = new HollowWall();
        Checks.denied(x, "tray -1", x.tray(-1, 0, 5), 1);
        Checks.denied(x, "tray 4", x.tray(4, 0, 5), 1);
        Checks.denied(x, "sort -1", x.tray(0, -1, 5), 1);
        Checks.denied(x, "sort 4", x.tray(0, 4, 5), 1);
        Checks.denied(x, "no tray and a bad length", x.tray(4, 0, 61), 1);
        Checks.denied(x, "61 numbers", x.tray(0, 0, 61), 5);
        Checks.denied(x, "-1 numbers", x.tray(0, 0, -1), 6);
        Checks.denied(x, "the least int", x.tray(0, 0, Integer.MIN_VALUE), 6);
        Checks.refused(x, "still missing", x.read(0, 0), 3);
        Checks.accepted(x, "60 numbers", x.tray(3, 3, 60));
        Checks.fine(x, "the last", x.read(3, 59), 0);
        Checks.accepted(x, "write", x.write(3, 59, 7));
        Checks.denied(x, "refused anew", x.tray(3, 3, 61), 5);
        Checks.fine(x, "stays", x.read(3, 59), 7);
        Checks.accepted(x, "made anew", x.tray(3, 3, 60));
        Checks.fine(x, "all 0 anew", x.read(3, 59), 0);
        Checks.accepted(x, "0 numbers", x.tray(1, 2, 0));
        Checks.refused(x, "no place in it", x.read(1, 0), 4);
        Checks.accepted(x, "shorter", x.tray(3, 0, 2));
        Checks.refused(x, "no longer there", x.read(3, 2), 4);
    }

    private static void cutting() {
        HollowWall x = new HollowWall();
        long[] values = {0, 1, -1, 127, 128, 255, 256, 32767, 32768, 65536, 2147483647L, 2147483648L, Long.MIN_VALUE,
            Long.MAX_VALUE, -129, -32769, -2147483649L};
        for (int sort = 0; sort < 4; sort++) {
            x.tray(sort, sort, 1);
            for (long v : values) {
                long due = sort == 0 ? (byte) v : sort == 1 ? (short) v : sort == 2 ? (int) v : v;
                Checks.accepted(x, "write", x.write(sort, 0, v));
                Checks.fine(x, "sort " + sort + " of " + v, x.read(sort, 0), due);
            }
        }
    }

    private static void places() {
        HollowWall x = new HollowWall();
        Checks.denied(x, "no tray", x.write(4, 0, 1), 1);
        Checks.denied(x, "no tray", x.write(-1, 0, 1), 1);
        Checks.denied(x, "missing", x.write(0, -1, 1), 3);
        Checks.refused(x, "no tray", x.read(4, 0), 1);
        Checks.refused(x, "missing", x.read(0, 70), 3);
        x.tray(0, 2, 3);
        Checks.denied(x, "place -1", x.write(0, -1, 1), 4);
        Checks.denied(x, "place 3", x.write(0, 3, 1), 4);
        Checks.refused(x, "place -1", x.read(0, -1), 4);
        Checks.refused(x, "place 3", x.read(0, 3), 4);
        Checks.refused(x, "a great place", x.read(0, Integer.MAX_VALUE), 4);
        Checks.accepted(x, "place 2", x.write(0, 2, -1));
        Checks.fine(x, "-1 is a number, too", x.read(0, 2), -1);
        Checks.fine(x, "its neighbour", x.read(0, 1), 0);
    }

    private static HollowWall filled() {
        HollowWall x = new HollowWall();
        x.tray(0, 1, 6);
        x.tray(1, 1, 4);
        for (int i = 0; i < 6; i++) {
            x.write(0, i, 10 + i);
        }
        return x;
    }

    private static void row(HollowWall x, int tray, int... due) {
        for (int i = 0; i < due.length; i++) {
            Checks.fine(x, "tray " + tray + " place " + i, x.read(tray, i), due[i]);
        }
    }

    private static void pouring() {
        HollowWall x = filled();
        Checks.accepted(x, "pour", x.pour(0, 2, 1, 1, 3));
        row(x, 1, 0, 12, 13, 14);
        row(x, 0, 10, 11, 12, 13, 14, 15);
        Checks.accepted(x, "up in the same", x.pour(0, 0, 0, 2, 4));
        row(x, 0, 10, 11, 10, 11, 12, 13);
        x = filled();
        Checks.accepted(x, "down in the same", x.pour(0, 2, 0, 0, 4));
        row(x, 0, 12, 13, 14, 15, 14, 15);
        Checks.accepted(x, "nothing", x.pour(0, 6, 1, 4, 0));
        row(x, 1, 0, 0, 0, 0);
        Checks.accepted(x, "all", x.pour(1, 0, 0, 2, 4));
        row(x, 0, 12, 13, 0, 0, 0, 0);
    }

    private static void pouringRefused() {
        HollowWall x = filled();
        int max = Integer.MAX_VALUE;
        Checks.denied(x, "from -1", x.pour(0, -1, 1, 0, 1), 4);
        Checks.denied(x, "to -1", x.pour(0, 0, 1, -1, 1), 4);
        Checks.denied(x, "from is short", x.pour(0, 4, 1, 0, 3), 4);
        Checks.denied(x, "to is short", x.pour(0, 0, 1, 2, 3), 4);
        Checks.denied(x, "0 from 7", x.pour(0, 7, 1, 0, 0), 4);
        Checks.denied(x, "0 to 5", x.pour(0, 0, 1, 5, 0), 4);
        Checks.denied(x, "0 to -1", x.pour(0, 0, 1, -1, 0), 4);
        Checks.denied(x, "great numbers", x.pour(0, 1, 1, 1, max), 4);
        Checks.denied(x, "great places", x.pour(0, max, 1, max, max), 4);
        Checks.denied(x, "below 0", x.pour(0, 0, 1, 0, -1), 6);
        row(x, 1, 0, 0, 0, 0);
    }

    private static void orderOfPour() {
        HollowWall x = filled();
        x.tray(2, 2, 3);
        Checks.denied(x, "no tray first", x.pour(4, 0, 3, 0, -1), 1);
        Checks.denied(x, "no second tray", x.pour(3, 0, -1, 0, -1), 1);
        Checks.denied(x, "a missing one", x.pour(3, 0, 2, 0, -1), 3);
        Checks.denied(x, "a missing second", x.pour(2, 0, 3, 0, -1), 3);
        Checks.denied(x, "unlike ahead of below 0", x.pour(0, 9, 2, 9, -1), 11);
        Checks.denied(x, "below 0 ahead of a place", x.pour(0, 9, 1, 9, -1), 6);
    }
}
