import java.util.Random;

/** Promises 41 to 46: fits, both, join, years, against, dated. */
public final class PiecesTest {
    // Hollow are 6, 11 (by a SLIP by 2 at 9) of 18.
    private static final String WALL = "oath 7 from 1;course 10;course 8;slip at 9 by 2;";

    public static void main(String[] args) {
        fits();
        fitsRefused();
        fitsByForce();
        both();
        join();
        years();
        dated();
        Checks.end();
    }

    private static void piece(HollowWall x, int tray, int... numbers) {
        x.tray(tray, 3, numbers.length);
        for (int i = 0; i < numbers.length; i++) {
            x.write(tray, i, numbers[i]);
        }
    }

    private static void fits() {
        HollowWall x = Checks.built(WALL);
        piece(x, 0, 1, 0, -1, 0);
        Checks.fine(x, "fits", x.fits(0, 4, 0), 2);
        Checks.fine(x, "the first", x.fits(0, 4, 1), 6);
        Checks.fine(x, "the first number alone", x.fits(0, 1, 0), 2);
        piece(x, 1, -1);
        Checks.fine(x, "everywhere", x.fits(1, 1, 0), 18);
        Checks.fine(x, "from 0", x.fits(1, 1, 1), 0);
        piece(x, 2, -1, -1, -1, -1, -1, -1, -1, -1, -1, -1, -1, -1, -1, -1, -1, -1, 7);
        Checks.fine(x, "each stone is there", x.fits(2, 16, 0), 3);
        piece(x, 3, 0, -1);
        Checks.fine(x, "up to the end", x.fits(3, 2, 0), 15);
        piece(x, 3, 0, 0, 0, 0, 0, 0, 0);
        Checks.fine(x, "none ahead of 11", x.fits(3, 6, 0), 2);
        Checks.fine(x, "the first", x.fits(3, 6, 1), 0);
        Checks.refused(x, "seven full ones", x.fits(3, 7, 0), 8);
        x.note(0, 1);
        Checks.fine(x, "what is truly so, not what is noted", x.fits(3, 6, 1), 0);
        piece(x, 0, 1, 1);
        Checks.refused(x, "nowhere", x.fits(0, 2, 0), 8);
        Checks.refused(x, "nowhere", x.fits(0, 2, 1), 8);
        HollowWall small = Checks.built("oath 7 from 1;course 2;");
        piece(small, 0, 0, 0, -1);
        Checks.fine(small, "as long as the wall", small.fits(0, 2, 0), 1);
        Checks.refused(small, "longer than the wall", small.fits(0, 3, 0), 8);
    }

    private static void fitsRefused() {
        HollowWall x = Checks.built(WALL);
        Checks.refused(x, "no tray", x.fits(4, 99, 9), 1);
        Checks.refused(x, "no tray", x.fits(-1, 1, 0), 1);
        Checks.refused(x, "missing", x.fits(0, 99, 9), 3);
        piece(x, 0, 1, 0, -1, 2, -2);
        Checks.refused(x, "too few ahead of what", x.fits(0, 6, 9), 4);
        Checks.refused(x, "too few, and above 16", x.fits(0, 17, 0), 4);
        Checks.refused(x, "0 numbers", x.fits(0, 0, 0), 5);
        Checks.refused(x, "-1 numbers", x.fits(0, -1, 0), 5);
        Checks.refused(x, "what 2", x.fits(0, 2, 2), 5);
        Checks.refused(x, "what -1", x.fits(0, 2, -1), 5);
        Checks.refused(x, "a 2 in it", x.fits(0, 4, 0), 5);
        Checks.refused(x, "a -2 in it", x.fits(0, 5, 0), 5);
        Checks.fine(x, "not so far", x.fits(0, 3, 0), 2);
        x.tray(1, 3, 60);
        Checks.refused(x, "17 numbers", x.fits(1, 17, 0), 5);
        x.write(1, 0, 4294967297L);
        Checks.refused(x, "1 and 2 to the 32", x.fits(1, 1, 0), 5);
        x.write(1, 0, 3);
        HollowWall none = new HollowWall();
        piece(none, 0, 3, 1);
        Checks.refused(none, "5 ahead of 8", none.fits(0, 1, 0), 5);
        piece(none, 0, 0, 1);
        Checks.refused(none, "no stones", none.fits(0, 1, 0), 8);
    }

    private static void fitsByForce() {
        Random draws = new Random(3);
        for (int i = 0; i < 300; i++) {
            Model m = new Model(draws, 4, 40);
            HollowWall x = Checks.built(m.text);
            int[] numbers = new int[1 + draws.nextInt(5)];
            for (int k = 0; k < numbers.length; k++) {
                numbers[k] = draws.nextInt(3) - 1;
            }
            piece(x, 2, numbers);
            int found = 0;
            int first = -1;
            for (int s = m.stones - numbers.length; s >= 0; s--) {
                boolean good = true;
                for (int k = 0; k < numbers.length; k++) {
                    good &= numbers[k] < 0 || m.isHollow(s + k) == (numbers[k] == 1);
                }
                found += good ? 1 : 0;
                first = good ? s : first;
            }
            Checks.same("fits", x.fits(2, numbers.length, 0), found == 0 ? -1 : found);
            Checks.same("the first", x.fits(2, numbers.length, 1), first);
            Checks.same("status", x.status(), found == 0 ? 8 : 0);
        }
    }

    private static void both() {
        HollowWall x = new HollowWall();
        for (int m = 2; m <= 13; m++) {
            for (int n = 2; n <= 13; n++) {
                int a = 1 + m * 5 % m + (n * 3) % m;
                int b = 1 + (m * 7) % n;
                int due = -1;
                for (int s = 2000; s >= 0; s--) {
                    due = (a + s) % m == 0 && (b + s) % n == 0 ? s : due;
                }
                Checks.same("both", x.both(m, a, n, b), due);
                Checks.same("status", x.status(), due < 0 ? 8 : 0);
            }
        }
        Checks.fine(x, "the stone itself", x.both(13, 13, 12, 12), 0);
        Checks.fine(x, "the last that can be", x.both(13, 1, 12, 1), 155);
        Checks.refused(x, "never", x.both(2, 1, 2, 2), 8);
        int[][] bad = {{1, 1, 7, 1}, {14, 1, 7, 1}, {7, 1, 1, 1}, {7, 1, 14, 1}, {7, 0, 7, 1}, {7, 8, 7, 1}, {7, 1, 7, 0},
            {7, 1, 7, 8}, {0, 0, 0, 0}, {Integer.MIN_VALUE, 1, 7, 1}};
        for (int[] numbers : bad) {
            Checks.refused(x, "both", x.both(numbers[0], numbers[1], numbers[2], numbers[3]), 5);
        }
    }

    private static void join() {
        Random draws = new Random(4);
        for (int i = 0; i < 300; i++) {
            Model m = new Model(draws, 13, 30);
            HollowWall x = Checks.built(m.text);
            int n = 2 + draws.nextInt(12);
            int b = 1 + draws.nextInt(n);
            int stones = 1 + draws.nextInt(200);
            int due = 0;
            for (int s = 0; s < stones; s++) {
                boolean ours = (m.trueCount(m.stones - 1) + 1 + s) % m.oath == 0;
                due += ours && (b + s) % n == 0 ? 1 : 0;
            }
            Checks.fine(x, "join", x.join(n, b, stones), due);
        }
        HollowWall x = Checks.built(WALL);
        Checks.fine(x, "the first is hollow by both", x.join(7, 7, 1), 1);
        Checks.fine(x, "200 stones", x.join(7, 1, 200), 0);
        int[][] bad = {{1, 1, 5}, {14, 1, 5}, {7, 0, 5}, {7, 8, 5}, {7, 1, 0}, {7, 1, 201}, {7, 1, -1}};
        for (int[] numbers : bad) {
            Checks.refused(x, "join", x.join(numbers[0], numbers[1], numbers[2]), 5);
        }
        HollowWall none = new HollowWall();
        Checks.refused(none, "no stones", none.join(7, 1, 5), 8);
        Checks.refused(none, "a bad number ahead of that", none.join(7, 1, 201), 5);
    }

    private static void years() {
        HollowWall x = Checks.built("oath 2 from 2;course 16;find at 14 year 5;find at 0 year 7;find at 2 year 3;"
            + "find at 4 year 3;find at 6 year 9;find at 8 year 4;find at 3 year 9999;");
        // 7 3 3 9 4 5
        Checks.fine(x, "years", x.years(), 4);
        Checks.fine(x, "against", x.against(), 6);
        HollowWall none = Checks.built("oath 2 from 2;course 16;find at 1 year 5;find at 3 year 4;");
        Checks.fine(none, "not in hollow stones", none.years(), 0);
        Checks.fine(none, "not in hollow stones", none.against(), 0);
    }

    private static void dated() {
        HollowWall x = Checks.built(WALL + "find at 3 year 1500;find at 9 year 1600;find at 12 year 1550;");
        Checks.refused(x, "none ahead of 2", x.dated(2, 0), 8);
        Checks.fine(x, "behind 2", x.dated(2, 1), 1500);
        Checks.fine(x, "itself ahead", x.dated(3, 0), 1500);
        Checks.fine(x, "itself behind", x.dated(3, 1), 1500);
        Checks.fine(x, "ahead of 5", x.dated(5, 0), 1500);
        Checks.fine(x, "behind 5", x.dated(5, 1), 1600);
        Checks.refused(x, "crossed", x.dated(10, 0), 9);
        Checks.refused(x, "crossed", x.dated(11, 1), 9);
        Checks.fine(x, "the last", x.dated(17, 0), 1550);
        Checks.refused(x, "none behind 17", x.dated(17, 1), 8);
        Checks.refused(x, "no stone", x.dated(18, 2), 2);
        Checks.refused(x, "no stone", x.dated(-1, 0), 2);
        Checks.refused(x, "what 2", x.dated(2, 2), 5);
        Checks.refused(x, "what -1", x.dated(2, -1), 5);
        HollowWall none = Checks.built(WALL);
        Checks.refused(none, "no finds", none.dated(4, 0), 8);
        Checks.refused(none, "no finds", none.dated(4, 1), 8);
    }
}
