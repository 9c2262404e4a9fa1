import java.util.Random;

/**
 * For all promises: whatever is called, in whatever order, with whatever numbers, nothing is thrown, STATUS is one that
 * the document gives to the call, and a call that is refused changes nothing.
 */
public final class AnyArgumentsTest {
    private static final int CALLS = 51;
    // An object is used for at most 512 calls; at most so many are made by callOne().
    private static final int CALLS_MOST = 512;
    private static final int CALLS_OF_ONE = 130;
    // By call: the STATUS values but 0 that it can have.
    private static final String[] CAN = {"1 5 6", "1 3 4", "1 3 4", "1 3 11 6 4", "", "5 10", "5 10", "", "5", "2 5 8", "2 5 8",
        "2 5", "8", "2 8", "", "2", "", "8", "8", "2", "2 5", "", "8", "8", "8", "8", "5 8", "8", "2 8", "2 8 9", "5 8 9", "",
        "5 8", "8 9", "", "8", "1 3 4 5 8", "5 8", "5 8", "", "", "2 5 8 9", "2", "5 8", "5 8", "5 8", "7", "8", "", "", ""};

    private final Random draws;
    private final HollowWall x = new HollowWall();
    private int calls = 0;

    private AnyArgumentsTest(long seed) {
        draws = new Random(seed);
    }

    public static void main(String[] args) {
        for (int seed = 0; seed < 1500; seed++) {
            AnyArgumentsTest run = new AnyArgumentsTest(seed);
            while (run.calls < CALLS_MOST - CALLS_OF_ONE) {
                run.callOne();
            }
        }
        Checks.end();
    }

    private int any() {
        int[] edges = {Integer.MIN_VALUE, Integer.MAX_VALUE, -2, -1, 0, 1, 2, 3, 7, 8, 12, 13, 14, 16, 17, 60, 61, 95, 96, 200,
            201, 9999, 10000};
        switch (draws.nextInt(8)) {
            case 0: return edges[draws.nextInt(edges.length)];
            case 1: return draws.nextInt();
            case 2: return draws.nextInt(100);
            case 3: return draws.nextInt(20) - 2;
            default: return draws.nextInt(6);
        }
    }

    private String scraps() {
        String[] scraps = {"oath", "from", "course", "mason", "lays", "costs", "slip", "at", "by", "find", "year", "go", "back",
            "knock", "note", "turn", "when", "hollow", "full", "stone", "noted", "first", "loop", "end", "stop", ";", ";", "<",
            ">", "=", "1", "2", "3", "16", "0", "9999", "12345", "a", "bb", "abcdefghi", "\n", "@", "\u00ff", "go 1;", "knock;",
            "note;", "course 5;", "loop 3;", "end;", "when full;", "slip at 3 by 1;", "find at 2 year 7;"};
        StringBuilder told = new StringBuilder(draws.nextBoolean() ? "oath 5 from 2;course 9;" : "");
        for (int i = draws.nextInt(20); i > 0; i--) {
            told.append(scraps[draws.nextInt(scraps.length)]).append(draws.nextBoolean() ? " " : "");
        }
        return told.toString();
    }

    private void callOne() {
        int call = draws.nextInt(CALLS);
        if (draws.nextInt(6) == 0) {
            bringText();
            return;
        }
        if (call == 4 || call == 7 || call >= 48) {
            withoutStatus(call);
            return;
        }
        String before = draws.nextInt(20) == 0 ? tellAll() : null;
        x.many(0);
        calls += 4;
        long got = make(call);
        int status = x.status();
        Checks.holds("status " + status + " of call " + call,
            status == 0 || (" " + CAN[call] + " ").contains(" " + status + " "));
        boolean isBoolean = call == 0 || call == 1 || call == 3 || call == 20 || call == 29 || call == 42 || call == 45;
        if (status != 0) {
            Checks.same("answer of call " + call, got, isBoolean ? 0 : -1);
            if (before != null && status != 10) {
                Checks.holds("call " + call + " changed something", before.equals(tellAll()));
            }
        } else if (isBoolean) {
            Checks.same("answer of call " + call, got, 1);
        } else if (call != 2) {
            Checks.holds("answer of call " + call, got >= 0);
        }
    }

    private void bringText() {
        String text;
        switch (draws.nextInt(4)) {
            case 0: text = scraps(); break;
            case 1: text = "loop 4;knock;when hollow;note;turn;end;go 3;end;"; break;
            default: text = new Model(draws, 13, 96).text; break;
        }
        while (x.feed(0, 0, 0, 0, 0) != HollowWall.NONE && draws.nextInt(4) == 0) {
            x.feed(Checks.signAt(text, 0) << 24, 0, 0, 0, 0);
            calls += 2;
        }
        x.round(0);
        Checks.feed(x, text);
        calls += 4 + text.length() / 20;
        int n = draws.nextInt(10) == 0 ? draws.nextInt(text.length() + 1) : text.length();
        if (text.startsWith("oath")) {
            x.wall(n);
        } else {
            x.round(n);
        }
    }

    private void withoutStatus(int call) {
        calls += 6;
        int status = x.status();
        if (call == 4) {
            x.feed(any(), any(), any(), any(), any());
        } else if (call == 7) {
            Checks.holds("fault", x.fault(any()) >= -1);
        } else {
            Checks.holds("bottom", x.bottom() > 0 && x.top() >= 0 && x.top() <= x.bottom());
        }
        Checks.same("status of a call without one", x.status(), status);
    }

    private long make(int call) {
        boolean free = draws.nextBoolean();
        switch (call) {
            case 0: return x.tray(any(), any(), any()) ? 1 : 0;
            case 1: return x.write(any(), any(), draws.nextInt(4) - 1) ? 1 : 0;
            case 2: return x.read(any(), any());
            case 3: return x.pour(any(), any(), any(), any(), any()) ? 1 : 0;
            case 5: return x.wall(any());
            case 6: return x.round(any());
            case 8: return x.many(any());
            case 9: return x.stone(any(), any());
            case 10: return x.mason(any(), any());
            case 11: return x.hollows(any(), any());
            case 12: return x.hollowAt(any());
            case 13: return x.nextHollow(any());
            case 14: return x.gap();
            case 15: return x.shift(any());
            case 16: return x.price();
            case 17: return x.dearest();
            case 18: return x.astray();
            case 19: return x.knock(any());
            case 20: return x.note(any(), any()) ? 1 : 0;
            case 21: return x.clear();
            case 22: return x.wrong();
            case 23: return x.least(free);
            case 24: return x.ways(free);
            case 25: return x.explain(free);
            default: return makeOther(call, free);
        }
    }

    private long makeOther(int call, boolean free) {
        switch (call) {
            case 26: return x.slipAt(any(), any());
            case 27: return x.firstCount();
            case 28: return x.sure(any(), free);
            case 29: return x.blame(any(), free) ? 1 : 0;
            case 30: return x.telling(free, any());
            case 31: return x.oaths();
            case 32: return x.oathAt(any(), any());
            case 33: return x.bestKnock(free);
            case 34: return x.twice();
            case 35: return x.twiceAt(any());
            case 36: return x.fits(any(), any(), any());
            case 37: return x.both(any(), any(), any(), any());
            case 38: return x.join(any(), any(), any());
            case 39: return x.years();
            case 40: return x.against();
            case 41: return x.dated(any(), any());
            case 42: return x.hammer(any()) ? 1 : 0;
            case 43: return x.walk(any(), any());
            case 44: return x.walked(any());
            case 45: return x.odds(any(), any(), any()) ? 1 : 0;
            case 46: return x.mark();
            default: return x.back();
        }
    }

    /** Some of what can be asked without changing anything: RefusedCallsTest asks for all. */
    private String tellAll() {
        calls += 60;
        StringBuilder told = new StringBuilder();
        for (int what = 0; what < 9; what++) {
            told.append(x.many(what)).append(' ');
        }
        for (int what = 0; what < 8; what++) {
            told.append(x.stone(0, what)).append(' ').append(x.stone(1, what)).append(' ');
        }
        for (int tray = 0; tray < 4; tray++) {
            told.append(x.read(tray, 0)).append(' ').append(x.status()).append(' ').append(x.read(tray, 1)).append(' ');
        }
        for (int what = 0; what < 4; what++) {
            told.append(x.walked(what)).append(' ').append(x.mason(what, 0)).append(' ');
        }
        told.append(x.slipAt(0, 0)).append(' ').append(x.slipAt(0, 1)).append(' ').append(x.slipAt(1, 0));
        told.append(' ').append(x.firstCount()).append(' ').append(x.top()).append(' ').append(x.bottom());
        return told.append(' ').append(x.fault(0)).append(' ').append(x.fault(1)).toString();
    }
}
