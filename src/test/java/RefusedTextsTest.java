/**
 * Promises 5 to 12, 51 and 52: each refused call, with its answer and its STATUS, changes nothing else; where two reasons
 * hold, the first of section 5's order is told.
 */
public final class RefusedTextsTest {
    private static final int MOST = Integer.MAX_VALUE;
    private static final int LEAST = Integer.MIN_VALUE;

    public static void main(String[] args) {
        trays();
        places();
        pours();
        pourPlaces();
        pourOrder();
        feeds();
        lengths();
        faultyTexts();
        faults();
        marks();
        Checks.end();
    }

    private static void tray(String what, int tray, int sort, int many, int status) {
        Twins.denied(what, Twins::rich, x -> x.tray(tray, sort, many), status);
    }

    private static void trays() {
        tray("tray -1", -1, 0, 5, 1);
        tray("tray 4", 4, 0, 5, 1);
        tray("the greatest tray", MOST, 0, 5, 1);
        tray("the least tray", LEAST, 0, 5, 1);
        tray("sort -1", 0, -1, 5, 1);
        tray("sort 4", 0, 4, 5, 1);
        tray("the greatest sort", 0, MOST, 5, 1);
        tray("61 numbers", 0, 0, 61, 5);
        tray("61 numbers in a missing one", 3, 0, 61, 5);
        tray("the most numbers", 0, 3, MOST, 5);
        tray("-1 numbers", 0, 0, -1, 6);
        tray("-1 numbers in a missing one", 3, 0, -1, 6);
        tray("the least numbers", 0, 3, LEAST, 6);
        tray("no tray ahead of 61", 4, 0, 61, 1);
        tray("no tray ahead of -1", -1, 0, -1, 1);
        tray("no sort ahead of 61", 0, 4, 61, 1);
        tray("no sort ahead of -1", 0, -1, -1, 1);
        Twins.denied("61 numbers in a new object", Twins::fresh, x -> x.tray(0, 0, 61), 5);
    }

    private static void place(String what, int tray, int place, int status) {
        Twins.denied("write: " + what, Twins::rich, x -> x.write(tray, place, 9), status);
        Twins.refused("read: " + what, Twins::rich, x -> x.read(tray, place), status);
    }

    private static void places() {
        place("tray -1", -1, 0, 1);
        place("tray 4", 4, 0, 1);
        place("the least tray", LEAST, 0, 1);
        place("a missing tray", 3, 0, 3);
        place("place -1", 0, -1, 4);
        place("a place as high as the numbers are many", 0, 3, 4);
        place("the greatest place", 0, MOST, 4);
        place("the least place", 0, LEAST, 4);
        place("no tray ahead of a place", 4, -1, 1);
        place("missing ahead of a place", 3, 60, 3);
        for (int t = 0; t < 4; t++) {
            int tray = t;
            Twins.denied("write of a new object", Twins::fresh, x -> x.write(tray, 0, 9), 3);
            Twins.refused("read of a new object", Twins::fresh, x -> x.read(tray, 0), 3);
        }
        Twins.denied("write of no numbers", x -> x.tray(3, 0, 0), x -> x.write(3, 0, 9), 4);
        Twins.refused("read of no numbers", x -> x.tray(3, 0, 0), x -> x.read(3, 0), 4);
    }

    private static void pour(String what, int[] numbers, int status) {
        Twins.denied("pour: " + what, Twins::rich,
            x -> x.pour(numbers[0], numbers[1], numbers[2], numbers[3], numbers[4]), status);
    }

    private static void pours() {
        pour("from tray -1", new int[] {-1, 0, 1, 0, 1}, 1);
        pour("from tray 4", new int[] {4, 0, 1, 0, 1}, 1);
        pour("to tray -1", new int[] {1, 0, -1, 0, 1}, 1);
        pour("to tray 4", new int[] {1, 0, 4, 0, 1}, 1);
        pour("from a missing one", new int[] {3, 0, 1, 0, 1}, 3);
        pour("to a missing one", new int[] {1, 0, 3, 0, 1}, 3);
        pour("from a missing one to itself", new int[] {3, 0, 3, 0, 0}, 3);
        pour("8 bits to 16", new int[] {0, 0, 1, 0, 1}, 11);
        pour("16 bits to 8", new int[] {1, 0, 0, 0, 1}, 11);
        pour("unlike, 0 numbers", new int[] {1, 0, 0, 0, 0}, 11);
        pour("-1 numbers", new int[] {1, 0, 2, 0, -1}, 6);
        pour("the least numbers", new int[] {1, 0, 2, 0, LEAST}, 6);
    }

    private static void pourPlaces() {
        pour("from place -1", new int[] {1, -1, 2, 0, 1}, 4);
        pour("to place -1", new int[] {1, 0, 2, -1, 1}, 4);
        pour("from the place behind the last", new int[] {1, 4, 2, 0, 1}, 4);
        pour("to the place behind the last", new int[] {1, 0, 2, 2, 1}, 4);
        pour("one more than there are to be poured", new int[] {2, 1, 1, 0, 2}, 4);
        pour("one more than have room", new int[] {1, 0, 2, 1, 2}, 4);
        pour("0 numbers from above how many there are", new int[] {1, 5, 2, 0, 0}, 4);
        pour("0 numbers to above how many there are", new int[] {1, 0, 2, 3, 0}, 4);
        pour("0 numbers from -1", new int[] {1, -1, 2, 0, 0}, 4);
        pour("0 numbers to -1", new int[] {1, 0, 2, -1, 0}, 4);
        pour("the most numbers", new int[] {1, 1, 2, 1, MOST}, 4);
        pour("the greatest places", new int[] {1, MOST, 2, MOST, MOST}, 4);
        pour("the greatest place to", new int[] {1, 0, 2, MOST, 1}, 4);
        pour("in itself, one more than have room", new int[] {1, 0, 1, 2, 3}, 4);
    }

    private static void pourOrder() {
        pour("no tray ahead of missing", new int[] {3, 9, 4, 9, -1}, 1);
        pour("no tray ahead of missing, the other way", new int[] {4, 9, 3, 9, -1}, 1);
        pour("missing ahead of unlike", new int[] {0, 9, 3, 9, -1}, 3);
        pour("missing ahead of below 0", new int[] {3, 9, 1, 9, -1}, 3);
        pour("unlike ahead of below 0", new int[] {0, 9, 1, 9, -1}, 11);
        pour("unlike ahead of a place", new int[] {0, 9, 1, 9, 1}, 11);
        pour("below 0 ahead of a place", new int[] {1, 9, 2, 9, -1}, 6);
    }

    private static void feeds() {
        Twins.silent("feed of a full tape", Twins::fullTape, x -> x.feed(1, 2, 3, 4, 5), HollowWall.NONE);
        Twins.silent("feed of a full tape, again", x -> {
            Twins.fullTape(x);
            x.feed(1, 2, 3, 4, 5);
        }, x -> x.feed(0x20202020, 0, 0, 0, 0), HollowWall.NONE);
    }

    private static void length(String what, Twins.History history, int n) {
        Twins.refused("wall: " + what, history, x -> x.wall(n), 5);
        Twins.refused("round: " + what, history, x -> x.round(n), 5);
    }

    private static void lengths() {
        length("one more than the tape has", Twins::rich, 41);
        length("-1", Twins::rich, -1);
        length("the greatest", Twins::rich, MOST);
        length("the least", Twins::rich, LEAST);
        length("of an empty tape", Twins::fresh, 1);
        length("-1 of an empty tape", Twins::fresh, -1);
        length("one more than a full tape has", Twins::fullTape, 901);
        length("of a tape that was emptied", Twins::faulty, 1);
        Twins.refused("round: 301", Twins::fullTape, x -> x.round(301), 5);
        Twins.refused("round: all of a full tape", Twins::fullTape, x -> x.round(900), 5);
    }

    /** With 10 the tape is empty, and fault() tells of it; all else stays. */
    private static void faultyTexts() {
        for (String text : new String[] {"", "oath 7 from 1;course 9;course 0;", "oath 2 from 2;course 3;slip at 1 by 2;",
            "oath 2 from 2;mason z lays 1 costs 1;@", "oath 7 from 1", "oath 7 from 1;course 9;find at 8 year 5;find at 8"}) {
            stays(text, Twins::rich, x -> x.wall(0), x -> Checks.wall(x, text));
        }
        for (String text : new String[] {"go 1;go 1;go 1;go 1;go;", "turn;loop 3;knock;", "end;", "stop;when full;end;end;",
            "loop 9;loop 9;loop 9;loop 9;"}) {
            stays(text, Twins::rich, x -> x.round(1), x -> Checks.round(x, text));
        }
        stays("a faulty wall of a new object", Twins::fresh, x -> x.wall(0), x -> Checks.wall(x, "oath 1 from 1;course 5;"));
        stays("a faulty round of a new object", Twins::fresh, x -> x.wall(0), x -> Checks.round(x, "go 1;go 0;"));
    }

    /** A faulty text behind one that emptied the tape changes nothing but what fault() tells. */
    private static void stays(String what, Twins.History history, Twins.Call emptying, Twins.Call call) {
        HollowWall seen = new HollowWall();
        history.with(seen);
        emptying.of(seen);
        Checks.refused(seen, what, call.of(seen), 10);
        Checks.same("the tape behind " + what, seen.feed(0, 0, 0, 0, 0), 20);
        Twins.History ahead = x -> {
            history.with(x);
            emptying.of(x);
        };
        Twins.changesOnly(what, ahead, x -> {
            call.of(x);
            return x.many(0);
        }, "fault");
    }

    private static void faults() {
        for (int what : new int[] {2, -1, 7, MOST, LEAST}) {
            Twins.silent("fault " + what, Twins::faulty, x -> x.fault(what), HollowWall.NONE);
            Twins.silent("fault " + what + " without one", Twins::rich, x -> x.fault(what), HollowWall.NONE);
            Twins.silent("fault " + what + " ahead of any", Twins::fresh, x -> x.fault(what), HollowWall.NONE);
        }
        Twins.silent("fault 0 ahead of any", Twins::fresh, x -> x.fault(0), HollowWall.NONE);
        Twins.silent("fault 1 ahead of any", Twins::fresh, x -> x.fault(1), HollowWall.NONE);
        Twins.silent("fault 0 without one", Twins::rich, x -> x.fault(0), 0);
        Twins.silent("fault 1 without one", Twins::rich, x -> x.fault(1), HollowWall.NONE);
        Twins.silent("fault 0", Twins::faulty, x -> x.fault(0), 2);
        Twins.silent("fault 1", Twins::faulty, x -> x.fault(1), 1);
    }

    private static void marks() {
        Twins.refused("a fourth mark", Twins::threeMarks, x -> x.mark(), 7);
        Twins.refused("back without a mark", Twins::fresh, x -> x.back(), 8);
        Twins.refused("back behind the last mark", x -> {
            Twins.rich(x);
            x.back();
            x.back();
        }, x -> x.back(), 8);
    }
}
