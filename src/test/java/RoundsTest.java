import java.util.ArrayList;
import java.util.List;
import java.util.Random;

/** Promises 47 to 50: hammer, walk, walked, odds; by hand, and on drawn ROUNDS against a plain one that calls itself. */
public final class RoundsTest {
    // Hollow are 2, 5, 8; courses begin at 0, 4, 7.
    private static final String WALL = "oath 3 from 1;course 4;course 3;course 3;";

    public static void main(String[] args) {
        hammer();
        going();
        hearing();
        tests();
        loopsAndStops();
        fourHundred();
        draws();
        refused();
        odds();
        byForce();
        Checks.end();
    }

    private static HollowWall with(String round, int hammer) {
        HollowWall x = Checks.built(WALL);
        Checks.round(x, round);
        Checks.same("status behind " + round, x.status(), 0);
        x.hammer(hammer);
        return x;
    }

    private static void hammer() {
        HollowWall x = Checks.built(WALL);
        Checks.accepted(x, "hammer", x.hammer(9));
        Checks.fine(x, "where", x.many(7), 9);
        Checks.denied(x, "none such", x.hammer(10), 2);
        Checks.denied(x, "none such", x.hammer(-1), 2);
        Checks.fine(x, "stays", x.many(7), 9);
        Checks.accepted(x, "hammer", x.hammer(0));
        Checks.fine(x, "where", x.many(7), 0);
    }

    private static void goesTo(String round, int from, int to, int steps) {
        HollowWall x = with(round, from);
        Checks.fine(x, round, x.walk(5, 0), steps);
        Checks.fine(x, "where behind " + round, x.many(7), to);
    }

    private static void going() {
        goesTo("", 4, 4, 0);
        goesTo("go 3;", 4, 7, 1);
        goesTo("go 99;", 4, 9, 1);
        goesTo("go 5;", 4, 9, 1);
        goesTo("back 3;", 4, 1, 1);
        goesTo("back 4;", 4, 0, 1);
        goesTo("back 99;", 4, 0, 1);
        goesTo("turn;", 0, 4, 1);
        goesTo("turn;", 3, 4, 1);
        goesTo("turn;", 4, 7, 1);
        goesTo("turn;", 9, 0, 1);
        goesTo("turn;turn;turn;turn;", 1, 4, 4);
        HollowWall x = with("go 2;", 0);
        for (int i = 1; i <= 6; i++) {
            x.walk(0, 0);
            Checks.fine(x, "from where it came to", x.many(7), Math.min(9, 2 * i));
        }
    }

    private static void hearing() {
        HollowWall x = with("note;knock;note;go 2;note;knock;go 1;knock;note;", 0);
        Checks.fine(x, "steps", x.walk(0, 0), 9);
        Checks.fine(x, "knocks", x.walked(0), 3);
        Checks.fine(x, "heard wrong", x.walked(1), 0);
        Checks.fine(x, "notes made", x.walked(2), 3);
        Checks.fine(x, "0 is full", x.stone(0, 6), 0);
        Checks.fine(x, "2 as heard at 0", x.stone(2, 6), 0);
        Checks.fine(x, "3 is full", x.stone(3, 6), 0);
        Checks.fine(x, "noted", x.many(8), 3);
        Checks.fine(x, "again, with nothing heard", x.walk(0, 0), 9);
        Checks.fine(x, "notes made", x.walked(2), 3);
        Checks.fine(x, "noted", x.many(8), 5);
        Checks.fine(x, "5 as heard at 3", x.stone(5, 6), 0);
        HollowWall turned = with("go 2;knock;note;", 0);
        Checks.fine(turned, "steps", turned.walk(1234, 16), 3);
        Checks.fine(turned, "heard wrong", turned.walked(1), 1);
        Checks.fine(turned, "hollow, but noted full", turned.stone(2, 6), 0);
    }

    private static void tests() {
        goesTo("when hollow;go 1;end;when full;go 2;end;", 0, 0, 2);
        goesTo("knock;when hollow;go 1;end;when full;go 2;end;", 2, 3, 4);
        goesTo("knock;when hollow;go 1;end;when full;go 2;end;", 3, 5, 4);
        goesTo("when noted;go 1;end;knock;note;when noted;go 2;end;", 3, 5, 5);
        goesTo("when first;go 1;end;", 4, 5, 2);
        goesTo("when first;go 1;end;", 0, 1, 2);
        goesTo("when first;go 1;end;", 3, 3, 1);
        for (int s = 0; s < 10; s++) {
            goesTo("when stone<4;go 99;end;", s, s < 4 ? 9 : s, s < 4 ? 2 : 1);
            goesTo("when stone>4;back 99;end;", s, s > 4 ? 0 : s, s > 4 ? 2 : 1);
            goesTo("when stone=4;turn;end;", s, s == 4 ? 7 : s, s == 4 ? 2 : 1);
        }
        goesTo("when stone > 99;go 1;end;when stone < 99;when stone = 0;go 3;end;end;", 0, 3, 4);
    }

    private static void loopsAndStops() {
        goesTo("loop 3;go 1;end;", 0, 3, 4);
        goesTo("loop 1;go 1;end;go 1;", 0, 2, 3);
        goesTo("loop 3;loop 2;go 1;end;end;", 0, 6, 1 + 3 * 3);
        goesTo("loop 99;end;go 1;", 0, 1, 2);
        goesTo("loop 99;loop 1;end;end;go 1;", 0, 1, 101);
        goesTo("loop 9;when stone=3;stop;end;go 1;end;", 0, 3, 1 + 3 * 2 + 2);
        goesTo("stop;go 1;", 0, 0, 1);
        goesTo("loop 2;when stone=1;loop 2;go 3;end;end;go 1;end;", 0, 8, 1 + 2 + 5);
        HollowWall x = with("loop 5;knock;note;go 1;stop;end;", 0);
        Checks.fine(x, "stopped", x.walk(0, 0), 5);
        Checks.fine(x, "stop leaves no step", x.walked(3), 0);
    }

    private static void leaves(String round, int steps, int left) {
        HollowWall x = with(round, 0);
        Checks.fine(x, round, x.walk(0, 0), steps);
        Checks.fine(x, "left of " + round, x.walked(3), left);
    }

    private static void fourHundred() {
        leaves("loop 99;loop 99;when full;end;end;end;", 400, 1);
        leaves("loop 57;knock;note;go 1;back 1;turn;stop;end;", 7, 0);
        // 398 STEPS
        String ahead = "loop 99;knock;note;go 1;end;loop 99;knock;end;";
        leaves(ahead, 398, 0);
        leaves(ahead + "stop;", 399, 0);
        leaves(ahead + "go 1;stop;", 400, 0);
        leaves(ahead + "go 1;turn;", 400, 0);
        leaves(ahead + "go 1;turn;stop;", 400, 1);
        leaves(ahead + "go 1;stop;turn;", 400, 0);
        leaves(ahead + "turn;loop 99;end;", 400, 0);
        leaves(ahead + "turn;loop 99;turn;end;", 400, 1);
        leaves(ahead + "turn;when noted;turn;end;", 400, 1);
        leaves(ahead + "turn;when hollow;turn;end;", 400, 0);
        leaves(ahead + "turn;when hollow;turn;end;turn;", 400, 1);
        leaves(ahead + "loop 1;when noted;end;end;", 400, 0);
        leaves(ahead + "loop 2;when noted;end;end;", 400, 1);
        leaves("loop 2;loop 98;turn;end;loop 98;turn;end;end;turn;", 398, 0);
        leaves("loop 2;loop 99;turn;end;loop 98;turn;end;end;turn;", 400, 0);
        leaves("loop 2;loop 99;turn;end;loop 99;turn;end;end;", 400, 1);
    }

    private static int[] drawn(int seed, int many) {
        int[] rows = new int[many];
        long s = seed;
        for (int i = 0; i < many; i++) {
            s = Math.floorMod(s * 2749 + 8803, 65536);
            rows[i] = (int) (s / 8) % 16;
        }
        return rows;
    }

    private static void draws() {
        for (int seed : new int[] {0, 1, 77, 4096, 9998, 9999}) {
            int[] rows = drawn(seed, 10);
            for (int errs = 0; errs <= 16; errs++) {
                HollowWall x = with("loop 10;knock;note;go 1;end;", 0);
                Checks.fine(x, "walk", x.walk(seed, errs), 31);
                int wrong = 0;
                for (int s = 0; s < 10; s++) {
                    boolean wrongly = rows[s] < errs;
                    wrong += wrongly ? 1 : 0;
                    int truly = s % 3 == 2 ? 1 : 0;
                    // The last is noted anew: the HAMMER stops there.
                    Checks.fine(x, "noted of " + s, x.stone(s, 6), wrongly ? 1 - truly : truly);
                }
                Checks.fine(x, "knocks", x.walked(0), 10);
                Checks.fine(x, "heard wrong", x.walked(1), wrong);
            }
        }
    }

    private static void refused() {
        HollowWall x = Checks.built(WALL);
        Checks.refused(x, "no round", x.walk(0, 0), 8);
        Checks.denied(x, "no round", x.odds(0, 1, 0), 8);
        Checks.refused(x, "a bad seed ahead of that", x.walk(-1, 0), 5);
        Checks.refused(x, "none walked", x.walked(0), 8);
        Checks.refused(x, "what ahead of that", x.walked(4), 5);
        Checks.round(x, "knock;note;go 1;");
        int[][] bad = {{-1, 0}, {10000, 0}, {0, -1}, {0, 17}};
        for (int[] numbers : bad) {
            Checks.refused(x, "walk", x.walk(numbers[0], numbers[1]), 5);
        }
        Checks.refused(x, "none walked", x.walked(3), 8);
        Checks.fine(x, "nothing done", x.many(8), 0);
        Checks.fine(x, "the greatest", x.walk(9999, 16), 3);
        Checks.refused(x, "walk", x.walk(0, 17), 5);
        Checks.fine(x, "of walk() latest with STATUS 0", x.walked(1), 1);
        Checks.refused(x, "what 4", x.walked(4), 5);
        Checks.refused(x, "what -1", x.walked(-1), 5);
        Checks.wall(x, "oath 5 from 1;");
        Checks.round(x, "knock;");
        Checks.refused(x, "no stones", x.walk(0, 0), 8);
        Checks.denied(x, "no stones", x.odds(0, 1, 0), 8);
        Checks.fine(x, "as walked ahead", x.walked(0), 1);
    }

    private static void odds() {
        HollowWall x = with("loop 3;knock;note;go 1;end;", 4);
        Checks.fine(x, "walk", x.walk(3, 16), 10);
        x.clear();
        x.hammer(4);
        Checks.accepted(x, "odds", x.odds(100, 20, 4));
        int good = 0;
        for (int seed = 100; seed < 120; seed++) {
            int[] rows = drawn(seed, 3);
            good += rows[0] >= 4 && rows[1] >= 4 && rows[2] >= 4 ? 1 : 0;
        }
        Checks.holds("some are good, some not", good > 0 && good < 20);
        Checks.same("odds", x.top() * 20, x.bottom() * good);
        Checks.fine(x, "nothing is noted", x.many(8), 0);
        Checks.fine(x, "hammer stays", x.many(7), 4);
        Checks.fine(x, "walked stays", x.walked(1), 3);
        x.note(9, 1);
        Checks.accepted(x, "a wrong note ahead", x.odds(100, 20, 0));
        Checks.fraction(x, "none is true", 0, 1);
        x.note(9, 0);
        x.note(4, 1);
        Checks.accepted(x, "one that is noted anew", x.odds(100, 20, 0));
        Checks.fraction(x, "all are true", 1, 1);
        Checks.fine(x, "stays", x.stone(4, 6), 1);
        Checks.accepted(x, "the last seed", x.odds(9980, 20, 0));
        Checks.accepted(x, "the last seed", x.odds(9999, 1, 16));
        int[][] bad = {{-1, 1, 0}, {10000, 1, 0}, {0, 0, 0}, {0, 21, 0}, {0, -1, 0}, {0, 1, -1}, {0, 1, 17}, {9981, 20, 0},
            {9999, 2, 0}, {Integer.MAX_VALUE, 1, 0}};
        for (int[] numbers : bad) {
            Checks.denied(x, "odds", x.odds(numbers[0], numbers[1], numbers[2]), 5);
        }
    }

    /** A STEP as it is told, and those within it. */
    private static final class Step {
        String told;
        char kind;
        int number;
        final List<Step> within = new ArrayList<>();
    }

    private static List<Step> drawSteps(Random draws, int depth, int[] left) {
        List<Step> steps = new ArrayList<>();
        for (int i = draws.nextInt(6); i >= 0 && left[0] > 0; i--) {
            left[0]--;
            Step step = new Step();
            step.kind = "gbkkknntwwwlls".charAt(draws.nextInt(depth < 3 ? 14 : 8));
            step.number = step.kind == 'l' ? 1 + draws.nextInt(12) : 1 + draws.nextInt(9);
            if (step.kind == 'w' && draws.nextInt(2) == 0) {
                step.kind = "hfNF<>=".charAt(draws.nextInt(7));
            } else if (step.kind == 'w') {
                step.kind = "hf".charAt(draws.nextInt(2));
            } else if (step.kind == 's' && draws.nextInt(3) > 0) {
                step.kind = 'k';
            }
            step.told = tellStep(step);
            if ("lhfNF<>=".indexOf(step.kind) >= 0) {
                step.within.addAll(drawSteps(draws, depth + 1, left));
            }
            steps.add(step);
        }
        return steps;
    }

    private static String tellStep(Step step) {
        switch (step.kind) {
            case 'g': return "go " + step.number + ";";
            case 'b': return "back " + step.number + ";";
            case 'k': return "knock;";
            case 'n': return "note;";
            case 't': return "turn;";
            case 's': return "stop;";
            case 'l': return "loop " + step.number + ";";
            case 'h': return "when hollow;";
            case 'f': return "when full;";
            case 'N': return "when noted;";
            case 'F': return "when first;";
            default: return "when stone" + step.kind + step.number + ";";
        }
    }

    private static void tell(List<Step> steps, StringBuilder told) {
        for (Step step : steps) {
            told.append(step.told);
            if ("lhfNF<>=".indexOf(step.kind) >= 0) {
                tell(step.within, told);
                told.append("end;");
            }
        }
    }

    /** Goes a ROUND by calling itself. */
    private static final class Plain {
        final Model m;
        final int[] notes;
        int at;
        long s;
        int errs;
        int heard = -1;
        int steps;
        int knocks;
        int wrong;
        int made;
        int left;
        boolean over;

        Plain(Model m, int[] notes, int at, int seed, int errs) {
            this.m = m;
            this.notes = notes.clone();
            this.at = at;
            this.s = seed;
            this.errs = errs;
        }

        void go(List<Step> all) {
            for (Step step : all) {
                if (over) {
                    return;
                }
                if (steps == 400) {
                    left = 1;
                    over = true;
                    return;
                }
                steps++;
                doStep(step);
            }
        }

        private int startOf(int course) {
            int start = 0;
            for (int k = 0; k < course; k++) {
                start += m.courses.get(k);
            }
            return start;
        }

        private int courseOf(int stone) {
            int course = 0;
            while (startOf(course + 1) <= stone) {
                course++;
            }
            return course;
        }

        private void doStep(Step step) {
            switch (step.kind) {
                case 'g': at = Math.min(m.stones - 1, at + step.number); break;
                case 'b': at = Math.max(0, at - step.number); break;
                case 'k': knock(); break;
                case 'n':
                    if (heard >= 0) {
                        notes[at] = heard;
                        made++;
                    }
                    break;
                case 't': at = startOf((courseOf(at) + 1) % m.courses.size()); break;
                case 's': over = true; break;
                case 'l':
                    for (int i = 0; i < step.number; i++) {
                        go(step.within);
                    }
                    break;
                default:
                    if (isSo(step)) {
                        go(step.within);
                    }
                    break;
            }
        }

        private void knock() {
            s = (s * 2749 + 8803) % 65536;
            boolean wrongly = s / 8 % 16 < errs;
            heard = m.isHollow(at) != wrongly ? 1 : 0;
            knocks++;
            wrong += wrongly ? 1 : 0;
        }

        private boolean isSo(Step step) {
            switch (step.kind) {
                case 'h': return heard == 1;
                case 'f': return heard == 0;
                case 'N': return notes[at] >= 0;
                case 'F': return startOf(courseOf(at)) == at;
                case '<': return at < step.number;
                case '>': return at > step.number;
                default: return at == step.number;
            }
        }
    }

    private static void byForce() {
        Random draws = new Random(11);
        HollowWall x = new HollowWall();
        for (int i = 0; i < 2000; i++) {
            Model m = new Model(draws, 6, 30);
            // Several ROUNDS come to one object, some behind a faulty one that is left open.
            x = i % 2 == 0 ? new HollowWall() : x;
            Checks.fine(x, "wall", Checks.wall(x, m.text), m.stones);
            if (i % 3 == 0) {
                Checks.refused(x, "an open round", Checks.round(x, "loop 3;when full;knock;"), 10);
            }
            List<Step> steps = drawSteps(draws, 0, new int[] {30});
            StringBuilder told = new StringBuilder();
            tell(steps, told);
            int got = Checks.round(x, told.toString());
            if (told.length() > 300) {
                Checks.same("above 300 bytes", x.status(), 5);
                // The tape is emptied, so that the next text is read from its beginning.
                x.round(0);
                continue;
            }
            Checks.fine(x, "steps of " + told, got, count(steps));
            for (int k = 0; k < 2; k++) {
                goOne(x, m, steps, draws);
            }
        }
    }

    private static int count(List<Step> steps) {
        int all = steps.size();
        for (Step step : steps) {
            all += count(step.within);
        }
        return all;
    }

    private static void goOne(HollowWall x, Model m, List<Step> steps, Random draws) {
        int seed = draws.nextInt(9980);
        int errs = draws.nextInt(17);
        int hammer = draws.nextInt(m.stones);
        x.hammer(hammer);
        int good = 0;
        for (int k = 0; k < 20; k++) {
            Plain trial = new Plain(m, m.notes, hammer, seed + k, errs);
            trial.go(steps);
            boolean allTrue = true;
            for (int s = 0; s < m.stones; s++) {
                allTrue &= trial.notes[s] < 0 || (trial.notes[s] == 1) == m.isHollow(s);
            }
            good += allTrue ? 1 : 0;
        }
        Checks.accepted(x, "odds", x.odds(seed, 20, errs));
        Checks.same("odds", x.top() * 20, x.bottom() * good);
        Plain due = new Plain(m, m.notes, hammer, seed, errs);
        due.go(steps);
        Checks.fine(x, "walk", x.walk(seed, errs), due.steps);
        Checks.fine(x, "knocks", x.walked(0), due.knocks);
        Checks.fine(x, "heard wrong", x.walked(1), due.wrong);
        Checks.fine(x, "notes made", x.walked(2), due.made);
        Checks.fine(x, "left", x.walked(3), due.left);
        Checks.fine(x, "where", x.many(7), due.at);
        System.arraycopy(due.notes, 0, m.notes, 0, m.stones);
        for (int s = 0; s < m.stones; s++) {
            Checks.same("noted", x.stone(s, 6), m.notes[s]);
        }
    }
}
