/** The bounds of HAMMER, ROUNDS, draws and walks (Term 4; promises 47 to 50), on both sides. */
public final class EdgesOfRoundsTest {
    // Hollow are 2, 5, 8; COURSES begin at 0, 4, 7.
    private static final String WALL = "oath 3 from 1;course 4;course 3;course 3;";

    public static void main(String[] args) {
        hammerAtTheEnds();
        goesNotBeyond();
        turns();
        turnsOfOneCourse();
        nothingHeard();
        heardLatest();
        heardInThisWalkAlone();
        stoneCompared();
        firstOfCourses();
        notedHere();
        loopsOnceAnd99Times();
        loopsWithin();
        stops();
        noSteps();
        thirtySteps();
        fourHundred();
        fourHundredWithin();
        seedsAndErrs();
        drawsAtTheBounds();
        drawsOneByOne();
        heardWrong();
        oddsBounds();
        oddsOfNone();
        oddsOfSome();
        walkedLatest();
        roundStaysTillAnother();
        Checks.end();
    }

    private static HollowWall with(String wall, String round, int hammer) {
        HollowWall x = Checks.built(wall);
        Checks.round(x, round);
        Checks.same("status behind " + round, x.status(), 0);
        x.hammer(hammer);
        return x;
    }

    private static void comesTo(String round, int from, int to) {
        HollowWall x = with(WALL, round, from);
        x.walk(0, 0);
        Checks.same("status", x.status(), 0);
        Checks.fine(x, round + " from " + from, x.many(7), to);
    }

    private static void hammerAtTheEnds() {
        HollowWall x = Checks.built(WALL);
        Checks.fine(x, "at first", x.many(7), 0);
        Checks.accepted(x, "the last", x.hammer(9));
        Checks.denied(x, "behind the last", x.hammer(10), 2);
        Checks.denied(x, "ahead of the first", x.hammer(-1), 2);
        Checks.fine(x, "still", x.many(7), 9);
        Checks.accepted(x, "the first", x.hammer(0));
        Checks.fine(x, "the first", x.many(7), 0);
        HollowWall none = new HollowWall();
        Checks.denied(none, "no STONES", none.hammer(0), 2);
    }

    /** "(not beyond the WALL's ends: it stops there)" */
    private static void goesNotBeyond() {
        comesTo("go 8;", 1, 9);
        comesTo("go 9;", 1, 9);
        comesTo("go 99;", 9, 9);
        comesTo("go 1;", 8, 9);
        comesTo("go 1;", 9, 9);
        comesTo("back 8;", 9, 1);
        comesTo("back 9;", 9, 0);
        comesTo("back 10;", 9, 0);
        comesTo("back 99;", 0, 0);
        comesTo("back 1;", 1, 0);
        comesTo("back 1;", 0, 0);
        comesTo("go 99;back 1;", 3, 8);
        comesTo("back 99;go 1;", 3, 1);
    }

    /** "the first STONE of the next COURSE (of the first one behind the last)" */
    private static void turns() {
        int[] due = {4, 4, 4, 4, 7, 7, 7, 0, 0, 0};
        for (int s = 0; s < 10; s++) {
            comesTo("turn;", s, due[s]);
        }
        HollowWall six = with("oath 3 from 1;" + "course 16;".repeat(6), "turn;", 79);
        six.walk(0, 0);
        Checks.fine(six, "the sixth", six.many(7), 80);
        six.hammer(95);
        six.walk(0, 0);
        Checks.fine(six, "the first", six.many(7), 0);
    }

    private static void turnsOfOneCourse() {
        HollowWall x = with("oath 3 from 1;course 5;", "turn;", 4);
        x.walk(0, 0);
        Checks.fine(x, "its own first STONE", x.many(7), 0);
        x.walk(0, 0);
        Checks.fine(x, "it stays", x.many(7), 0);
        HollowWall one = with("oath 3 from 1;course 1;", "turn;go 5;back 5;knock;note;", 0);
        Checks.fine(one, "one STONE", one.walk(0, 0), 5);
        Checks.fine(one, "one STONE", one.many(7), 0);
        Checks.fine(one, "noted", one.stone(0, 6), 0);
    }

    /** "(nothing happens, if it heard nothing yet)" */
    private static void nothingHeard() {
        HollowWall x = with(WALL, "note;when hollow;go 1;end;when full;go 2;end;note;", 2);
        Checks.fine(x, "steps", x.walk(0, 0), 4);
        Checks.fine(x, "nothing is noted", x.many(8), 0);
        Checks.fine(x, "NOTES made", x.walked(2), 0);
        Checks.fine(x, "where it was", x.many(7), 2);
        x.note(2, 1);
        x.walk(0, 0);
        Checks.fine(x, "what was noted stays", x.stone(2, 6), 1);
    }

    private static void heardLatest() {
        HollowWall x = with(WALL, "knock;go 1;knock;note;back 1;note;go 9;note;", 2);
        Checks.fine(x, "steps", x.walk(0, 0), 8);
        Checks.fine(x, "3 is full", x.stone(3, 6), 0);
        Checks.fine(x, "2 as heard at 3", x.stone(2, 6), 0);
        Checks.fine(x, "9 as heard at 3", x.stone(9, 6), 0);
        Checks.fine(x, "NOTES made", x.walked(2), 3);
        x = with(WALL, "knock;note;note;note;", 2);
        x.walk(0, 0);
        Checks.fine(x, "NOTES made of one STONE", x.walked(2), 3);
        Checks.fine(x, "one is NOTED", x.many(8), 1);
    }

    private static void heardInThisWalkAlone() {
        HollowWall x = with(WALL, "when hollow;go 1;end;when full;go 1;end;note;knock;", 2);
        x.walk(0, 0);
        Checks.fine(x, "nothing heard yet", x.many(7), 2);
        x.walk(0, 0);
        Checks.fine(x, "nothing heard yet in this one", x.many(7), 2);
        Checks.fine(x, "nothing noted", x.many(8), 0);
    }

    /** "stone COMPARES NUMBER": "stone 0 to 99" */
    private static void stoneCompared() {
        for (int s = 0; s < 10; s++) {
            for (int n : new int[] {0, s, s + 1, s == 0 ? 0 : s - 1, 99}) {
                comesTo("when stone<" + n + ";turn;end;", s, s < n ? s < 4 ? 4 : s < 7 ? 7 : 0 : s);
                comesTo("when stone>" + n + ";turn;end;", s, s > n ? s < 4 ? 4 : s < 7 ? 7 : 0 : s);
                comesTo("when stone=" + n + ";turn;end;", s, s == n ? s < 4 ? 4 : s < 7 ? 7 : 0 : s);
            }
        }
        HollowWall x = with("oath 3 from 1;" + "course 16;".repeat(6), "when stone=95;when stone>94;when stone<96;go 1;back 1;"
            + "end;end;end;", 95);
        Checks.fine(x, "all three", x.walk(0, 0), 5);
        Checks.fine(x, "the last but one", x.many(7), 94);
        Checks.fine(x, "none", x.walk(0, 0), 1);
    }

    private static void firstOfCourses() {
        for (int s = 0; s < 10; s++) {
            HollowWall x = with(WALL, "when first;turn;turn;turn;end;", s);
            Checks.fine(x, "first at " + s, x.walk(0, 0), s == 0 || s == 4 || s == 7 ? 4 : 1);
        }
    }

    private static void notedHere() {
        HollowWall x = with(WALL, "when noted;turn;end;", 2);
        x.note(1, 1);
        x.note(3, 0);
        Checks.fine(x, "nothing is noted of 2", x.walk(0, 0), 1);
        x.note(2, 0);
        Checks.fine(x, "full", x.walk(0, 0), 2);
        x.hammer(2);
        x.note(2, 1);
        Checks.fine(x, "hollow", x.walk(0, 0), 2);
        x.hammer(2);
        x.note(2, -1);
        Checks.fine(x, "nothing", x.walk(0, 0), 1);
        HollowWall made = with(WALL, "when noted;go 1;end;knock;note;when noted;go 2;end;", 0);
        Checks.fine(made, "noted on the walk", made.walk(0, 0), 5);
        Checks.fine(made, "from 0 to 2", made.many(7), 2);
    }

    private static void loops(String round, int steps, int to) {
        HollowWall x = with("oath 3 from 1;" + "course 16;".repeat(6), round, 0);
        Checks.fine(x, round, x.walk(0, 0), steps);
        Checks.fine(x, "where behind " + round, x.many(7), to);
        Checks.fine(x, "nothing is left", x.walked(3), 0);
    }

    /** "loop n: as often"; "(when, loop count as one each time they are come to from ahead; end does not)" */
    private static void loopsOnceAnd99Times() {
        loops("loop 1;go 1;end;", 2, 1);
        loops("loop 2;go 1;end;", 3, 2);
        loops("loop 94;go 1;end;", 95, 94);
        loops("loop 99;go 1;end;", 100, 95);
        loops("loop 99;end;", 1, 0);
        loops("loop 1;end;loop 1;end;", 2, 0);
        loops("loop 99;loop 1;end;end;", 100, 0);
        loops("loop 2;loop 99;end;end;", 3, 0);
    }

    private static void loopsWithin() {
        loops("loop 2;loop 3;loop 4;go 1;end;end;end;", 1 + 2 * (1 + 3 * (1 + 4)), 24);
        loops("loop 3;go 1;loop 2;go 1;end;go 1;end;", 1 + 3 * (1 + 1 + 2 + 1), 12);
        loops("loop 2;when stone<1;loop 2;go 1;end;end;end;", 1 + 2 + 3, 2);
        loops("loop 2;go 1;end;loop 2;go 1;end;", 6, 4);
        // each of the three is come to anew with its own number
        loops("loop 2;loop 2;loop 2;end;end;end;", 1 + 2 + 4, 0);
    }

    /** "stop: no more is done" */
    private static void stops() {
        loops("stop;", 1, 0);
        loops("go 1;stop;go 1;", 2, 1);
        loops("loop 99;go 1;stop;end;go 1;", 3, 1);
        loops("loop 2;loop 2;loop 2;go 1;stop;end;end;end;go 5;", 5, 1);
        loops("loop 9;go 1;when stone=3;stop;end;end;go 5;", 1 + 3 * 2 + 1, 3);
        loops("when hollow;stop;end;go 1;", 2, 1);
    }

    private static void noSteps() {
        HollowWall x = with(WALL, "", 3);
        Checks.fine(x, "a ROUND of none", x.walk(0, 0), 0);
        Checks.fine(x, "KNOCKS", x.walked(0), 0);
        Checks.fine(x, "none is left", x.walked(3), 0);
        Checks.fine(x, "where it was", x.many(7), 3);
        Checks.accepted(x, "odds", x.odds(0, 1, 0));
        Checks.fraction(x, "nothing is NOTED: all is true", 1, 1);
    }

    /** The longest ROUNDS there may be: each STEP is done. */
    private static void thirtySteps() {
        loops("loop1;end;".repeat(30), 30, 0);
        loops("go 1;".repeat(30), 30, 30);
        loops("loop2;end;".repeat(29) + "go 9;", 30, 9);
        loops("loop 2;when first;loop 3;" + "go 1;".repeat(27) + "end;end;end;", 1 + 2 + 1 + 3 * 27, 81);
        HollowWall x = with(WALL, "knock;note;go 1;".repeat(10), 0);
        Checks.fine(x, "all of them", x.walk(0, 0), 30);
        Checks.fine(x, "KNOCKS", x.walked(0), 10);
        Checks.fine(x, "NOTES", x.walked(2), 10);
        Checks.fine(x, "all are NOTED", x.many(8), 10);
    }

    private static void leaves(String round, int steps, int left) {
        HollowWall x = with(WALL, round, 0);
        Checks.fine(x, round, x.walk(0, 0), steps);
        Checks.fine(x, "left of " + round, x.walked(3), left);
    }

    /** "At most 400 STEPS"; "1 if a STEP was left to be done (by the 400 alone, not by stop), else 0" */
    private static void fourHundred() {
        // 1 and 99 times 3, and 1 and 99: 398
        String ahead = "loop 99;turn;turn;turn;end;loop 99;turn;end;";
        leaves(ahead, 398, 0);
        leaves(ahead + "turn;", 399, 0);
        leaves(ahead + "turn;turn;", 400, 0);
        leaves(ahead + "turn;turn;turn;", 400, 1);
        leaves(ahead + "turn;stop;", 400, 0);
        leaves(ahead + "stop;turn;turn;", 399, 0);
        leaves(ahead + "turn;stop;turn;", 400, 0);
        leaves(ahead + "turn;turn;stop;", 400, 1);
        leaves(ahead + "turn;turn;loop 1;end;", 400, 1);
        leaves(ahead + "turn;turn;when hollow;end;", 400, 1);
        leaves(ahead + "turn;when hollow;turn;end;", 400, 0);
        leaves(ahead + "turn;when first;turn;end;", 400, 1);
        leaves(ahead + "turn;loop 99;end;", 400, 0);
        leaves(ahead + "turn;loop 99;end;turn;", 400, 1);
    }

    /** The 400th STEP may be the last of a loop, of loops within each other, or one within them. */
    private static void fourHundredWithin() {
        leaves("loop 99;turn;turn;turn;end;loop 99;turn;end;loop 1;turn;end;", 400, 0);
        leaves("loop 99;turn;turn;turn;end;loop 99;turn;end;loop 2;turn;end;", 400, 1);
        leaves("loop 99;turn;turn;turn;end;loop 98;turn;end;loop 1;loop 1;turn;end;end;", 400, 0);
        leaves("loop 99;turn;turn;turn;end;loop 98;turn;end;loop 1;loop 2;turn;end;end;", 400, 1);
        leaves("loop 99;turn;turn;turn;end;loop 98;turn;end;loop 2;loop 1;turn;end;end;", 400, 1);
        leaves("loop 99;loop 99;loop 99;end;end;end;", 400, 1);
        leaves("loop 99;loop 99;loop 99;turn;end;end;end;", 400, 1);
        leaves("loop 3;loop 66;when first;end;end;loop 66;turn;end;end;", 400, 1);
        leaves("loop 3;loop 66;when first;end;end;loop 65;turn;end;end;", 400, 0);
        HollowWall x = with("oath 3 from 1;" + "course 16;".repeat(6), "loop 99;loop 5;end;loop 5;end;knock;note;go 1;end;", 0);
        Checks.fine(x, "400", x.walk(0, 0), 400);
        Checks.fine(x, "79 times all, and four STEPS more: KNOCKS", x.walked(0), 80);
        Checks.fine(x, "NOTES", x.walked(2), 80);
        Checks.fine(x, "a go is left", x.walked(3), 1);
        Checks.fine(x, "it was not done", x.many(7), 79);
    }

    /** "a seed (0 to 9,999) and ERRS (0 to 16)" */
    private static void seedsAndErrs() {
        HollowWall x = with(WALL, "knock;", 0);
        Checks.fine(x, "seed 0", x.walk(0, 0), 1);
        Checks.fine(x, "seed 9,999", x.walk(9999, 0), 1);
        Checks.fine(x, "ERRS 16", x.walk(0, 16), 1);
        Checks.refused(x, "seed -1", x.walk(-1, 0), 5);
        Checks.refused(x, "seed 10,000", x.walk(10000, 0), 5);
        Checks.refused(x, "ERRS -1", x.walk(0, -1), 5);
        Checks.refused(x, "ERRS 17", x.walk(0, 17), 5);
    }

    private static int drawn(int seed) {
        return (int) ((seed * 2749L + 8803) % 65536 / 8 % 16);
    }

    /** "a draw by 16 that is less than ERRS": for each draw the ERRS on both sides of it. */
    private static void drawsAtTheBounds() {
        boolean[] seen = new boolean[16];
        for (int seed = 0; seed < 10000; seed += seed < 60 || seed > 9940 ? 1 : 97) {
            int draw = drawn(seed);
            seen[draw] = true;
            HollowWall x = with(WALL, "knock;", 2);
            x.walk(seed, draw);
            Checks.fine(x, "not less: right", x.walked(1), 0);
            x.walk(seed, draw + 1);
            Checks.fine(x, "less: wrong", x.walked(1), 1);
            x.walk(seed, 0);
            Checks.fine(x, "none is less than 0", x.walked(1), 0);
            x.walk(seed, 16);
            Checks.fine(x, "all are less than 16", x.walked(1), 1);
        }
        for (int draw = 0; draw < 16; draw++) {
            Checks.holds("a seed that draws " + draw, seen[draw]);
        }
    }

    /** "s, at first the seed, becomes what is left ..": each KNOCK draws once, nothing else does. */
    private static void drawsOneByOne() {
        HollowWall x = with("oath 13 from 1;" + "course 16;".repeat(6), "loop 96;knock;note;go 1;end;", 0);
        Checks.fine(x, "289", x.walk(9999, 7), 289);
        long s = 9999;
        int wrong = 0;
        for (int stone = 0; stone < 96; stone++) {
            s = (s * 2749 + 8803) % 65536;
            boolean wrongly = s / 8 % 16 < 7;
            wrong += wrongly ? 1 : 0;
            Checks.fine(x, "noted of " + stone, x.stone(stone, 6), (stone % 13 == 12) != wrongly ? 1 : 0);
        }
        Checks.fine(x, "heard wrong", x.walked(1), wrong);
        Checks.fine(x, "KNOCKS", x.walked(0), 96);
        // Each walk begins with its own seed.
        int first = x.stone(0, 6);
        x.clear();
        x.hammer(0);
        x.walk(9999, 7);
        Checks.fine(x, "the same again", x.stone(0, 6), first);
        Checks.fine(x, "the same again", x.walked(1), wrong);
    }

    private static void heardWrong() {
        HollowWall x = with(WALL, "knock;note;when hollow;go 3;end;when full;go 1;end;", 2);
        Checks.fine(x, "heard full", x.walk(0, 16), 5);
        Checks.fine(x, "noted full", x.stone(2, 6), 0);
        Checks.fine(x, "as it was heard", x.many(7), 3);
        Checks.fine(x, "heard hollow", x.walk(0, 16), 5);
        Checks.fine(x, "noted hollow", x.stone(3, 6), 1);
        Checks.fine(x, "as it was heard", x.many(7), 6);
    }

    /** "so many seeds (1 to 20) from one on"; "5: the last above 9,999, too" */
    private static void oddsBounds() {
        HollowWall x = with(WALL, "knock;note;", 0);
        Checks.accepted(x, "1", x.odds(0, 1, 0));
        Checks.accepted(x, "20", x.odds(0, 20, 16));
        Checks.accepted(x, "the last of 20 is 9,999", x.odds(9980, 20, 0));
        Checks.accepted(x, "9,999 alone", x.odds(9999, 1, 0));
        int[][] bad = {{0, 0, 0}, {0, 21, 0}, {0, -1, 0}, {-1, 1, 0}, {-1, 20, 0}, {10000, 1, 0}, {9981, 20, 0}, {9999, 2, 0},
            {0, 1, -1}, {0, 1, 17}};
        for (int[] n : bad) {
            Checks.denied(x, "odds", x.odds(n[0], n[1], n[2]), 5);
            Checks.fraction(x, "as ahead", 1, 1);
        }
    }

    private static void oddsOfNone() {
        HollowWall x = with(WALL, "knock;note;", 0);
        Checks.accepted(x, "all wrong", x.odds(0, 20, 16));
        Checks.fraction(x, "none", 0, 1);
        Checks.accepted(x, "all right", x.odds(0, 20, 0));
        Checks.fraction(x, "all", 1, 1);
        x.note(9, 1);
        Checks.accepted(x, "a wrong NOTE elsewhere", x.odds(0, 20, 0));
        Checks.fraction(x, "none", 0, 1);
        x.note(9, 0);
        x.note(0, 1);
        Checks.accepted(x, "a wrong NOTE that is noted anew", x.odds(0, 20, 0));
        Checks.fraction(x, "all", 1, 1);
    }

    /** Behind each of the seeds from one on: without a common divisor. */
    private static void oddsOfSome() {
        HollowWall x = with(WALL, "knock;note;", 2);
        for (int seed = 0; seed < 40; seed++) {
            for (int many = 1; many <= 20; many += many < 6 ? 1 : 7) {
                int good = 0;
                for (int k = 0; k < many; k++) {
                    good += drawn(seed + k) >= 8 ? 1 : 0;
                }
                int divisor = many;
                while (good % divisor != 0 || many % divisor != 0) {
                    divisor--;
                }
                if (seed % 8 == 0) {
                    x = with(WALL, "knock;note;", 2);
                }
                Checks.accepted(x, "odds", x.odds(seed, many, 8));
                Checks.fraction(x, "odds", good == 0 ? 0 : good / divisor, good == 0 ? 1 : many / divisor);
            }
        }
        Checks.fine(x, "nothing is NOTED", x.many(8), 0);
        Checks.fine(x, "where it was", x.many(7), 2);
        Checks.refused(x, "no walk", x.walked(0), 8);
    }

    /** "Of walk() latest with STATUS 0" */
    private static void walkedLatest() {
        HollowWall x = with(WALL, "loop 9;knock;note;end;", 2);
        Checks.refused(x, "there was none", x.walked(0), 8);
        Checks.refused(x, "what ahead of that", x.walked(4), 5);
        x.walk(0, 16);
        x.walk(10000, 0);
        x.odds(0, 20, 0);
        int[] due = {9, 9, 9, 0};
        for (int what = 0; what < 4; what++) {
            Checks.fine(x, "walked " + what, x.walked(what), due[what]);
        }
        Checks.wall(x, "oath 3 from 1;");
        Checks.refused(x, "no ROUND", x.walk(0, 0), 8);
        for (int what = 0; what < 4; what++) {
            Checks.fine(x, "walked " + what, x.walked(what), due[what]);
        }
        Checks.refused(x, "what 4", x.walked(4), 5);
        Checks.refused(x, "what -1", x.walked(-1), 5);
        HollowWall y = with(WALL, "loop 99;knock;note;loop 9;end;loop 9;end;loop 9;end;end;", 0);
        y.walk(0, 16);
        int[] most = {80, 80, 80, 1};
        for (int what = 0; what < 4; what++) {
            Checks.fine(y, "walked " + what, y.walked(what), most[what]);
        }
        Checks.round(y, "go 1;");
        y.walk(0, 16);
        for (int what = 0; what < 4; what++) {
            Checks.fine(y, "each walk is counted anew: " + what, y.walked(what), 0);
        }
    }

    private static void roundStaysTillAnother() {
        HollowWall x = with(WALL, "go 1;", 0);
        Checks.refused(x, "a FAULT", Checks.round(x, "go 2;go;"), 10);
        x.walk(0, 0);
        Checks.fine(x, "the one ahead", x.many(7), 1);
        Checks.fine(x, "another", Checks.round(x, "go 3;"), 1);
        x.walk(0, 0);
        Checks.fine(x, "the other", x.many(7), 4);
        Checks.fine(x, "none of STEPS", Checks.round(x, ""), 0);
        Checks.fine(x, "none of STEPS", x.walk(0, 0), 0);
        // A ROUND may come ahead of STONES, but a new WALL has none.
        HollowWall y = new HollowWall();
        Checks.fine(y, "ROUND", Checks.round(y, "go 1;"), 1);
        Checks.refused(y, "no STONES", y.walk(0, 0), 8);
        Checks.wall(y, WALL);
        Checks.refused(y, "no ROUND", y.walk(0, 0), 8);
    }
}
