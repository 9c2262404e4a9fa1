import java.util.ArrayList;
import java.util.Arrays;
import java.util.List;
import java.util.Random;
import java.util.regex.Matcher;
import java.util.regex.Pattern;

/** Promises 10 to 12 on drawn texts, most of them spoilt: the FAULT and its place against a plain reader of its own. */
public final class AnyTextTest {
    private static final List<String> RESERVED = Arrays.asList("oath", "from", "course", "mason", "lays", "costs", "slip", "at",
        "by", "find", "year", "go", "back", "knock", "note", "turn", "when", "hollow", "full", "stone", "noted", "first", "loop",
        "end", "stop");
    private static final String[] SCRAPS = {";", "<", ">", "=", "0", "1", "2", "3", "7", "9", "13", "14", "16", "17", "96", "97", "99",
        "100", "9999", "10000", "00001", "a", "ab", "abcdefgh", "abcdefghi", "@", "A", "\t", "\u00e9", " ", "\n", "course 3;",
        "slip at 3 by 1;", "find at 2 year 7;", "mason ma lays 1 costs 1;", "go 1;", "loop 2;", "end;", "when stone<3;", "stop;",
        "when full;"};

    public static void main(String[] args) {
        Random draws = new Random(21);
        int[] faults = new int[8];
        for (int i = 0; i < 30000; i++) {
            boolean isWall = draws.nextBoolean();
            String text = spoilt(isWall ? new Model(draws, 13, 96).text : round(draws), draws);
            if (text.length() > (isWall ? 900 : 300)) {
                continue;
            }
            Reader due = new Reader(text);
            HollowWall x = new HollowWall();
            int many = isWall ? due.wall() : due.round();
            int got = isWall ? Checks.wall(x, text) : Checks.round(x, text);
            Checks.same("answer to " + text, got, due.fault == 0 ? many : HollowWall.NONE);
            Checks.same("status of " + text, x.status(), due.fault == 0 ? 0 : 10);
            Checks.same("fault of " + text, x.fault(0), due.fault);
            Checks.same("place in " + text, x.fault(1), due.place);
            faults[due.fault]++;
        }
        for (int fault = 0; fault < faults.length; fault++) {
            Checks.holds("some texts with the fault " + fault, faults[fault] > 20);
        }
        Checks.end();
    }

    private static String round(Random draws) {
        String[] steps = {"go 1;", "back 99;", "knock;", "note ;", "turn;", "stop;", "loop 3;", "when hollow;", "when stone = 4;",
            "when first;", "end;", "end;", "end;", "end;"};
        StringBuilder text = new StringBuilder();
        int open = 0;
        for (int i = draws.nextInt(40); i > 0; i--) {
            String step = steps[draws.nextInt(steps.length)];
            boolean isEnd = step.equals("end;");
            boolean opens = step.startsWith("loop") || step.startsWith("when");
            if (isEnd && open == 0 && draws.nextInt(40) > 0 || opens && open == 3 && draws.nextInt(9) > 0) {
                continue;
            }
            open += isEnd ? -1 : opens ? 1 : 0;
            text.append(step);
        }
        for (; open > 0 && draws.nextInt(30) > 0; open--) {
            text.append("end;");
        }
        return text.toString();
    }

    private static String spoilt(String text, Random draws) {
        StringBuilder told = new StringBuilder(text);
        for (int i = draws.nextInt(4); i > 0; i--) {
            int at = draws.nextInt(told.length() + 1);
            if (draws.nextBoolean()) {
                at = told.indexOf(";", at) + 1;
            }
            switch (draws.nextInt(5)) {
                case 0: told.delete(at, Math.min(told.length(), at + 1 + draws.nextInt(5))); break;
                case 1: told.setLength(draws.nextInt(4) == 0 ? at : told.length()); break;
                default: told.insert(at, SCRAPS[draws.nextInt(SCRAPS.length)]); break;
            }
        }
        return told.toString();
    }

    /** All TOKENS are found first; a FAULT ends the reading by being thrown. */
    private static final class Reader {
        private static final Pattern TOKEN = Pattern.compile("[a-z]+|[0-9]+|[^ \n]");
        private final List<String> tokens = new ArrayList<>();
        private final List<Integer> places = new ArrayList<>();
        private int next = 0;
        int fault = 0;
        int place = HollowWall.NONE;

        private static final class Fault extends RuntimeException {
            private static final long serialVersionUID = 1L;
        }

        Reader(String text) {
            Matcher found = TOKEN.matcher(text);
            while (found.find()) {
                tokens.add(found.group());
                places.add(found.start());
            }
            tokens.add("");
            places.add(text.length());
        }

        private Fault fault(int kind, int token) {
            boolean isNone = tokens.get(token).matches("[0-9]{5,}|[^a-z0-9;<>=]");
            fault = isNone ? 1 : kind;
            place = places.get(token);
            return new Fault();
        }

        private String now() {
            return tokens.get(next);
        }

        /** Each is a WORD or SIGN that must stand there. */
        private void expect(String... signs) {
            for (String sign : signs) {
                if (!now().equals(sign)) {
                    throw fault(2, next);
                }
                next++;
            }
        }

        private int number(int least, int most) {
            if (!now().matches("[0-9]{1,4}")) {
                throw fault(2, next);
            }
            int value = Integer.parseInt(now());
            if (value < least || value > most) {
                throw fault(4, next);
            }
            next++;
            return value;
        }

        int wall() {
            try {
                return parts();
            } catch (Fault found) {
                return HollowWall.NONE;
            }
        }

        private int parts() {
            expect("oath");
            int oath = number(2, 13);
            expect("from");
            number(1, oath);
            expect(";");
            int stones = 0;
            int courses = 0;
            List<String> names = new ArrayList<>();
            List<Integer> slips = new ArrayList<>(List.of(0));
            List<Integer> finds = new ArrayList<>();
            while (!now().isEmpty()) {
                String part = now();
                boolean full = part.equals("course") && courses == 6 || part.equals("mason") && names.size() == 4
                    || part.equals("slip") && slips.size() == 7 || part.equals("find") && finds.size() == 8;
                if (full) {
                    throw fault(6, next);
                }
                if (part.equals("course")) {
                    expect("course");
                    stones += number(1, 16);
                    courses++;
                } else if (part.equals("mason")) {
                    mason(names);
                } else if (part.equals("slip")) {
                    expect("slip", "at");
                    stone(stones, slips, slips.get(slips.size() - 1));
                    expect("by");
                    number(1, oath - 1);
                } else {
                    expect("find", "at");
                    stone(stones, finds, -1);
                    expect("year");
                    number(0, 9999);
                }
                expect(";");
            }
            return stones;
        }

        private void mason(List<String> names) {
            expect("mason");
            if (!now().matches("[a-z]{1,8}") || RESERVED.contains(now())) {
                throw fault(2, next);
            }
            if (names.contains(now())) {
                throw fault(3, next);
            }
            names.add(now());
            next++;
            expect("lays");
            number(1, 96);
            expect("costs");
            number(1, 9);
        }

        private void stone(int stones, List<Integer> told, int behind) {
            int stone = number(0, stones - 1);
            if (told.contains(stone) || stone <= behind) {
                throw fault(5, next - 1);
            }
            told.add(stone);
        }

        int round() {
            try {
                return steps();
            } catch (Fault found) {
                return HollowWall.NONE;
            }
        }

        private int steps() {
            int open = 0;
            int steps = 0;
            while (!now().isEmpty()) {
                String step = now();
                boolean opens = step.equals("when") || step.equals("loop");
                if (step.equals("end") && open > 0) {
                    open--;
                    expect("end", ";");
                    continue;
                }
                if (!Arrays.asList("go", "back", "knock", "note", "turn", "when", "loop", "stop").contains(step)) {
                    throw fault(2, next);
                }
                if (steps == 30 || opens && open == 3) {
                    throw fault(steps == 30 ? 6 : 7, next);
                }
                steps++;
                open += opens ? 1 : 0;
                next++;
                rest(step);
                expect(";");
            }
            if (open > 0) {
                throw fault(2, next);
            }
            return steps;
        }

        private void rest(String step) {
            if (step.equals("go") || step.equals("back") || step.equals("loop")) {
                number(1, 99);
            } else if (step.equals("when") && now().equals("stone")) {
                next++;
                if (!now().matches("[<>=]")) {
                    throw fault(2, next);
                }
                next++;
                number(0, 99);
            } else if (step.equals("when")) {
                if (!now().matches("hollow|full|noted|first")) {
                    throw fault(2, next);
                }
                next++;
            }
        }
    }
}
