import java.util.Arrays;

/** Walls in which by an oath every M-th stone is hollow. The words in capitals are those of the document. */
public final class HollowWall {
    public static final int NONE = -1;

    // STATUS, by the document's numbers.
    private static final int FINE = 0;
    private static final int NO_TRAY = 1;
    private static final int NO_SUCH = 2;
    private static final int MISSING = 3;
    private static final int NO_PLACE = 4;
    private static final int BAD_NUMBER = 5;
    private static final int BELOW_ZERO = 6;
    private static final int ONE_TOO_MANY = 7;
    private static final int NOTHING = 8;
    private static final int CANNOT_BE = 9;
    private static final int FAULTY = 10;
    private static final int UNLIKE_SORTS = 11;

    private static final int TRAYS = 4;
    private static final int TRAY_MOST = 60;
    private static final int TAPE_MOST = 900;
    private static final int ROUND_TEXT_MOST = 300;
    private static final int OATH_LEAST = 2;
    private static final int OATH_MOST = 13;
    private static final int COURSES_MOST = 6;
    private static final int COURSE_STONES_MOST = 16;
    private static final int STONES_MOST = 96;
    private static final int MASONS_MOST = 4;
    private static final int LAYS_MOST = 96;
    private static final int COSTS_MOST = 9;
    private static final int SLIPS_MOST = 6;
    private static final int FINDS_MOST = 8;
    private static final int YEAR_MOST = 9999;
    private static final int NAME_MOST = 8;
    private static final int STEPS_MOST = 30;
    private static final int STEPS_DONE_MOST = 400;
    private static final int WITHIN_MOST = 3;
    private static final int MARKS_MOST = 3;
    private static final int PIECE_MOST = 16;
    private static final int JOIN_MOST = 200;
    private static final int SEED_MOST = 9999;
    private static final int SEEDS_MOST = 20;
    private static final int ERRS_MOST = 16;
    private static final int TELLING_MOST = 12;
    private static final int WAYS_MOST = 999999;
    // Far above what the common divisor of two numbers below a million takes.
    private static final int DIVISIONS_MOST = 1000;

    // FAULTS, by the document's numbers.
    private static final int NO_FAULT = 0;
    private static final int NO_TOKEN_FAULT = 1;
    private static final int PLACE_FAULT = 2;
    private static final int NAME_FAULT = 3;
    private static final int NUMBER_FAULT = 4;
    private static final int STONE_FAULT = 5;
    private static final int MORE_FAULT = 6;
    private static final int WITHIN_FAULT = 7;

    private int status = FINE;
    private long top = 0;
    private long bottom = 1;
    private final Tray[] trays = new Tray[TRAYS];
    private final Text text = new Text();
    private final Site site = new Site();
    private final Site[] marks = new Site[MARKS_MOST];
    private int markCount = 0;
    private final WallReader wallReader = new WallReader();
    private final RoundReader roundReader = new RoundReader();
    private final Readings readings = new Readings();
    private final Telling teller = new Telling();
    private final Walker walker = new Walker();
    private final Walker trial = new Walker();
    private int explainedFirst = NONE;
    private int explainedSlips = 0;
    private final int[] explainedStone = new int[STONES_MOST];
    private final int[] explainedBy = new int[STONES_MOST];
    private final int[] rowUpTo = new int[STONES_MOST];

    public HollowWall() {
        for (int i = 0; i < TRAYS; i++) {
            trays[i] = new Tray();
        }
        for (int i = 0; i < MARKS_MOST; i++) {
            marks[i] = new Site();
        }
    }

    public int status() {
        return status;
    }

    public long top() {
        return top;
    }

    public long bottom() {
        return bottom;
    }

    // ---- what a call answers

    private int answer(int value) {
        status = FINE;
        return value;
    }

    private int refuse(int why) {
        status = why;
        return NONE;
    }

    private boolean accept() {
        status = FINE;
        return true;
    }

    private boolean deny(int why) {
        status = why;
        return false;
    }

    private int answerOrNothing(int value) {
        return value == NONE ? refuse(NOTHING) : answer(value);
    }

    private void tellFraction(long part, long whole) {
        long a = part;
        long b = whole;
        for (int i = 0; i < DIVISIONS_MOST && b > 0; i++) {
            long rest = a % b;
            a = b;
            b = rest;
        }
        if (part == 0 || a == 0) {
            top = 0;
            bottom = 1;
        } else {
            top = part / a;
            bottom = whole / a;
        }
    }

    private static boolean isWithin(int number, int least, int most) {
        return number >= least && number <= most;
    }

    // ---- TRAYS

    /** The TRAY, missing or not; null if there is no such one. */
    private Tray trayAt(int tray) {
        return isWithin(tray, 0, TRAYS - 1) ? trays[tray] : null;
    }

    private static int placeStatus(Tray found, int place) {
        if (found == null) {
            return NO_TRAY;
        }
        if (found.missing) {
            return MISSING;
        }
        return found.hasPlace(place) ? FINE : NO_PLACE;
    }

    public boolean tray(int tray, int sort, int many) {
        Tray found = trayAt(tray);
        if (found == null || !isWithin(sort, 0, 3)) {
            return deny(NO_TRAY);
        }
        if (many > TRAY_MOST) {
            return deny(BAD_NUMBER);
        }
        if (many < 0) {
            return deny(BELOW_ZERO);
        }
        found.lay(sort, many);
        return accept();
    }

    public boolean write(int tray, int place, long v) {
        Tray found = trayAt(tray);
        int why = placeStatus(found, place);
        if (found == null || why != FINE) {
            return deny(why);
        }
        found.put(place, v);
        return accept();
    }

    public long read(int tray, int place) {
        Tray found = trayAt(tray);
        int why = placeStatus(found, place);
        if (found == null || why != FINE) {
            return refuse(why);
        }
        status = FINE;
        return found.numbers[place];
    }

    public boolean pour(int tray, int i, int to, int j, int many) {
        Tray from = trayAt(tray);
        Tray into = trayAt(to);
        if (from == null || into == null) {
            return deny(NO_TRAY);
        }
        if (from.missing || into.missing) {
            return deny(MISSING);
        }
        if (from.sort != into.sort) {
            return deny(UNLIKE_SORTS);
        }
        if (many < 0) {
            return deny(BELOW_ZERO);
        }
        if (!from.hasRow(i, many) || !into.hasRow(j, many)) {
            return deny(NO_PLACE);
        }
        System.arraycopy(from.numbers, i, into.numbers, j, many);
        return accept();
    }

    // ---- texts

    public int feed(int a, int b, int c, int d, int e) {
        if (text.length > TAPE_MOST - 20) {
            return NONE;
        }
        text.append(a);
        text.append(b);
        text.append(c);
        text.append(d);
        text.append(e);
        return text.length;
    }

    public int wall(int n) {
        if (!isWithin(n, 0, text.length)) {
            return refuse(BAD_NUMBER);
        }
        boolean taken = wallReader.readWall(text, n);
        text.length = 0;
        if (!taken) {
            return refuse(FAULTY);
        }
        site.build(wallReader.wall);
        return answer(site.wall.stones);
    }

    public int round(int n) {
        if (!isWithin(n, 0, Math.min(text.length, ROUND_TEXT_MOST))) {
            return refuse(BAD_NUMBER);
        }
        boolean taken = roundReader.readRound(text, n);
        text.length = 0;
        if (!taken) {
            return refuse(FAULTY);
        }
        site.round.copyFrom(roundReader.round);
        site.hasRound = true;
        return answer(site.round.steps);
    }

    public int fault(int what) {
        if (what == 0) {
            return text.faultKind;
        }
        return what == 1 ? text.faultPlace : NONE;
    }

    public int many(int what) {
        switch (what) {
            case 0: return answer(site.wall.stones);
            case 1: return answer(site.wall.courses);
            case 2: return answer(site.wall.masons);
            case 3: return answer(site.wall.slips);
            case 4: return answer(site.wall.finds);
            case 5: return answer(site.wall.oath);
            case 6: return answer(site.wall.first);
            case 7: return answer(site.hammer);
            case 8: return answer(site.countNotes());
            default: return refuse(BAD_NUMBER);
        }
    }

    public int stone(int stone, int what) {
        Wall wall = site.wall;
        if (!wall.hasStone(stone)) {
            return refuse(NO_SUCH);
        }
        switch (what) {
            case 0: return answer(wall.courseOf[stone]);
            case 1: return answer(wall.placeInCourse(stone));
            case 2: return answerOrNothing(wall.laidBy[stone]);
            case 3: return answer(wall.trueCount[stone]);
            case 4: return answer(wall.swornCount[stone]);
            case 5: return answer(wall.isHollow(stone) ? 1 : 0);
            case 6: return answerOrNothing(site.notes[stone]);
            case 7: return answerOrNothing(wall.findYear[stone]);
            default: return refuse(BAD_NUMBER);
        }
    }

    public int mason(int mason, int what) {
        Wall wall = site.wall;
        if (!wall.hasMason(mason)) {
            return refuse(NO_SUCH);
        }
        switch (what) {
            case 0: return answerOrNothing(wall.laidFrom[mason]);
            case 1: return answer(wall.laidMany[mason]);
            case 2: return answer(wall.costs[mason]);
            case 3: return answer(wall.slipsOf(mason));
            default: return refuse(BAD_NUMBER);
        }
    }

    public int hollows(int from, int to) {
        Wall wall = site.wall;
        if (!wall.hasStone(from) || !wall.hasStone(to)) {
            return refuse(NO_SUCH);
        }
        if (to < from) {
            return refuse(BAD_NUMBER);
        }
        int found = 0;
        for (int s = from; s <= to; s++) {
            if (wall.isHollow(s)) {
                found++;
            }
        }
        return answer(found);
    }

    public int hollowAt(int k) {
        int ahead = 0;
        for (int s = 0; s < site.wall.stones; s++) {
            if (site.wall.isHollow(s)) {
                if (ahead == k) {
                    return answer(s);
                }
                ahead++;
            }
        }
        return refuse(NOTHING);
    }

    public int nextHollow(int stone) {
        if (!site.wall.hasStone(stone)) {
            return refuse(NO_SUCH);
        }
        for (int s = stone; s < site.wall.stones; s++) {
            if (site.wall.isHollow(s)) {
                return answer(s);
            }
        }
        return refuse(NOTHING);
    }

    public int gap() {
        int longest = 0;
        int row = 0;
        for (int s = 0; s < site.wall.stones; s++) {
            row = site.wall.isHollow(s) ? 0 : row + 1;
            longest = Math.max(longest, row);
        }
        return answer(longest);
    }

    public int shift(int stone) {
        Wall wall = site.wall;
        if (!wall.hasStone(stone)) {
            return refuse(NO_SUCH);
        }
        int more = wall.trueCount[stone] - wall.swornCount[stone];
        return answer(more < 0 ? more + wall.oath : more);
    }

    public int price() {
        int all = 0;
        for (int s = 0; s < site.wall.stones; s++) {
            all += site.wall.toldCost(s);
        }
        return answer(all);
    }

    public int dearest() {
        int dearest = NONE;
        int most = 0;
        for (int k = 0; k < site.wall.masons; k++) {
            int cost = site.wall.toldCostOf(k);
            if (cost > most) {
                most = cost;
                dearest = k;
            }
        }
        return answerOrNothing(dearest);
    }

    public int astray() {
        for (int s = 0; s < site.wall.stones; s++) {
            if (site.wall.isHollow(s) != site.wall.isSwornHollow(s)) {
                return answer(s);
            }
        }
        return refuse(NOTHING);
    }

    // ---- what is NOTED

    public int knock(int stone) {
        if (!site.wall.hasStone(stone)) {
            return refuse(NO_SUCH);
        }
        site.notes[stone] = site.wall.isHollow(stone) ? 1 : 0;
        return answer(site.notes[stone]);
    }

    public boolean note(int stone, int what) {
        if (!site.wall.hasStone(stone)) {
            return deny(NO_SUCH);
        }
        if (!isWithin(what, NONE, 1)) {
            return deny(BAD_NUMBER);
        }
        site.notes[stone] = what;
        return accept();
    }

    public int clear() {
        int noted = site.countNotes();
        Arrays.fill(site.notes, NONE);
        return answer(noted);
    }

    public int wrong() {
        for (int s = 0; s < site.wall.stones; s++) {
            if (!agrees(site.notes[s], site.wall.isSwornHollow(s))) {
                return answer(s);
            }
        }
        return refuse(NOTHING);
    }

    private static boolean agrees(int noted, boolean hollow) {
        return noted == NONE || (noted == 1) == hollow;
    }

    // ---- READINGS

    public int least(boolean free) {
        if (!readings.solve(site, free)) {
            return refuse(NOTHING);
        }
        return answer(readings.leastCost);
    }

    public int ways(boolean free) {
        if (!readings.solve(site, free)) {
            return refuse(NOTHING);
        }
        return answer(readings.wayCount);
    }

    public int explain(boolean free) {
        if (!readings.solve(site, free)) {
            return refuse(NOTHING);
        }
        readings.trace(0);
        explainedFirst = readings.tracedFirst;
        explainedSlips = 0;
        for (int s = 1; s < site.wall.stones; s++) {
            if (readings.tracedBy[s] > 0) {
                explainedStone[explainedSlips] = s;
                explainedBy[explainedSlips] = readings.tracedBy[s];
                explainedSlips++;
            }
        }
        return answer(explainedSlips);
    }

    public int slipAt(int k, int what) {
        if (!isWithin(what, 0, 1)) {
            return refuse(BAD_NUMBER);
        }
        if (!isWithin(k, 0, explainedSlips - 1)) {
            return refuse(NOTHING);
        }
        return answer(what == 0 ? explainedStone[k] : explainedBy[k]);
    }

    public int firstCount() {
        return answerOrNothing(explainedFirst);
    }

    public int sure(int stone, boolean free) {
        if (!site.wall.hasStone(stone)) {
            return refuse(NO_SUCH);
        }
        if (!readings.solve(site, free)) {
            return refuse(NOTHING);
        }
        readings.followFromAhead();
        return answer(readings.sureness(stone));
    }

    public boolean blame(int mason, boolean free) {
        if (!site.wall.hasMason(mason)) {
            return deny(NO_SUCH);
        }
        if (!readings.solve(site, free)) {
            return deny(NOTHING);
        }
        if (readings.wayCount >= WAYS_MOST) {
            return deny(CANNOT_BE);
        }
        int all = readings.wayCount;
        tellFraction(all - readings.waysWithout(mason), all);
        return accept();
    }

    public int telling(boolean free, int what) {
        if (!isWithin(what, 0, 1)) {
            return refuse(BAD_NUMBER);
        }
        if (!readings.solve(site, free)) {
            return refuse(NOTHING);
        }
        // By number: more than 12 READINGS that all say the same need no first STONE either, and 8 is ahead of 9.
        if (what == 1 && readings.allSaySame()) {
            return refuse(NOTHING);
        }
        if (readings.wayCount > TELLING_MOST) {
            return refuse(CANNOT_BE);
        }
        teller.plan(readings);
        return answer(what == 0 ? teller.knocks : teller.bestStone);
    }

    public int oaths() {
        int found = 0;
        for (int m = OATH_LEAST; m <= OATH_MOST; m++) {
            for (int f = 1; f <= m; f++) {
                if (site.isOath(m, f)) {
                    found++;
                }
            }
        }
        return answer(found);
    }

    public int oathAt(int k, int what) {
        if (!isWithin(what, 0, 1)) {
            return refuse(BAD_NUMBER);
        }
        int ahead = 0;
        for (int m = OATH_LEAST; m <= OATH_MOST; m++) {
            for (int f = 1; f <= m; f++) {
                if (site.isOath(m, f)) {
                    if (ahead == k) {
                        return answer(what == 0 ? m : f);
                    }
                    ahead++;
                }
            }
        }
        return refuse(NOTHING);
    }

    public int bestKnock(boolean free) {
        if (!readings.solve(site, free) || site.countNotes() == site.wall.stones) {
            return refuse(NOTHING);
        }
        if (readings.wayCount >= WAYS_MOST) {
            return refuse(CANNOT_BE);
        }
        readings.followFromAhead();
        int best = NONE;
        long fewest = WAYS_MOST;
        for (int s = 0; s < site.wall.stones; s++) {
            long hollow = readings.hollowWays(s);
            long left = Math.max(hollow, readings.wayCount - hollow);
            if (site.notes[s] == NONE && left < fewest) {
                fewest = left;
                best = s;
            }
        }
        return answerOrNothing(best);
    }

    public int twice() {
        int found = 0;
        for (int s = 1; s < site.wall.stones; s++) {
            if (site.isTwice(s)) {
                found++;
            }
        }
        return answer(found);
    }

    public int twiceAt(int k) {
        int ahead = 0;
        for (int s = 1; s < site.wall.stones; s++) {
            if (site.isTwice(s)) {
                if (ahead == k) {
                    return answer(s);
                }
                ahead++;
            }
        }
        return refuse(NOTHING);
    }

    // ---- pieces, oaths, years

    public int fits(int tray, int many, int what) {
        Tray piece = trayAt(tray);
        if (piece == null) {
            return refuse(NO_TRAY);
        }
        if (piece.missing) {
            return refuse(MISSING);
        }
        if (many > piece.length) {
            return refuse(NO_PLACE);
        }
        if (!isWithin(many, 1, PIECE_MOST) || !isWithin(what, 0, 1) || !isPiece(piece, many)) {
            return refuse(BAD_NUMBER);
        }
        int found = 0;
        int firstFit = NONE;
        for (int s = 0; s + many <= site.wall.stones; s++) {
            if (fitsFrom(piece, many, s)) {
                found++;
                firstFit = firstFit == NONE ? s : firstFit;
            }
        }
        if (found == 0) {
            return refuse(NOTHING);
        }
        return answer(what == 0 ? found : firstFit);
    }

    private static boolean isPiece(Tray piece, int many) {
        for (int i = 0; i < many; i++) {
            if (!piece.hasPlace(i) || piece.numbers[i] < NONE || piece.numbers[i] > 1) {
                return false;
            }
        }
        return true;
    }

    private boolean fitsFrom(Tray piece, int many, int stone) {
        for (int i = 0; i < many; i++) {
            if (!piece.hasPlace(i) || !site.wall.hasStone(stone + i)
                    || !agrees((int) piece.numbers[i], site.wall.isHollow(stone + i))) {
                return false;
            }
        }
        return true;
    }

    private static boolean isCount(int oath, int count) {
        return isWithin(oath, OATH_LEAST, OATH_MOST) && isWithin(count, 1, oath);
    }

    private static int countBehind(int count, int oath) {
        return count >= oath ? 1 : count + 1;
    }

    public int both(int m, int a, int n, int b) {
        if (!isCount(m, a) || !isCount(n, b)) {
            return refuse(BAD_NUMBER);
        }
        int one = a;
        int other = b;
        // Behind m times n STONES both counts come again as they were.
        for (int s = 0; s < m * n; s++) {
            if (one == m && other == n) {
                return answer(s);
            }
            one = countBehind(one, m);
            other = countBehind(other, n);
        }
        return refuse(NOTHING);
    }

    public int join(int n, int b, int stones) {
        if (!isCount(n, b) || !isWithin(stones, 1, JOIN_MOST)) {
            return refuse(BAD_NUMBER);
        }
        Wall wall = site.wall;
        if (wall.stones == 0) {
            return refuse(NOTHING);
        }
        int ours = wall.trueCount[wall.stones - 1];
        int theirs = b;
        int found = 0;
        for (int s = 0; s < stones; s++) {
            ours = countBehind(ours, wall.oath);
            if (ours == wall.oath && theirs == n) {
                found++;
            }
            theirs = countBehind(theirs, n);
        }
        return answer(found);
    }

    public int years() {
        Wall wall = site.wall;
        int longest = 0;
        for (int s = 0; s < wall.stones; s++) {
            rowUpTo[s] = 0;
            if (wall.isHollowFind(s)) {
                for (int t = 0; t < s; t++) {
                    if (rowUpTo[t] > rowUpTo[s] && wall.findYear[t] <= wall.findYear[s]) {
                        rowUpTo[s] = rowUpTo[t];
                    }
                }
                rowUpTo[s]++;
                longest = Math.max(longest, rowUpTo[s]);
            }
        }
        return answer(longest);
    }

    public int against() {
        Wall wall = site.wall;
        int couples = 0;
        for (int s = 0; s < wall.stones; s++) {
            for (int t = 0; t < s && wall.isHollowFind(s); t++) {
                if (wall.isHollowFind(t) && wall.findYear[t] > wall.findYear[s]) {
                    couples++;
                }
            }
        }
        return answer(couples);
    }

    public int dated(int stone, int what) {
        if (!site.wall.hasStone(stone)) {
            return refuse(NO_SUCH);
        }
        if (!isWithin(what, 0, 1)) {
            return refuse(BAD_NUMBER);
        }
        int earliest = site.wall.yearAhead(stone);
        int latest = site.wall.yearBehind(stone);
        if ((what == 0 ? earliest : latest) == NONE) {
            return refuse(NOTHING);
        }
        if (latest != NONE && earliest > latest) {
            return refuse(CANNOT_BE);
        }
        return answer(what == 0 ? earliest : latest);
    }

    // ---- ROUNDS

    public boolean hammer(int stone) {
        if (!site.wall.hasStone(stone)) {
            return deny(NO_SUCH);
        }
        site.hammer = stone;
        return accept();
    }

    private boolean canWalk() {
        return site.hasRound && site.wall.stones > 0;
    }

    public int walk(int seed, int errs) {
        if (!isWithin(seed, 0, SEED_MOST) || !isWithin(errs, 0, ERRS_MOST)) {
            return refuse(BAD_NUMBER);
        }
        if (!canWalk()) {
            return refuse(NOTHING);
        }
        walker.run(site, seed, errs);
        System.arraycopy(walker.notes, 0, site.notes, 0, STONES_MOST);
        site.hammer = walker.at;
        return answer(walker.steps);
    }

    public int walked(int what) {
        if (!isWithin(what, 0, 3)) {
            return refuse(BAD_NUMBER);
        }
        if (!walker.hasRun) {
            return refuse(NOTHING);
        }
        switch (what) {
            case 0: return answer(walker.knocks);
            case 1: return answer(walker.heardWrong);
            case 2: return answer(walker.notesMade);
            default: return answer(walker.isStepLeft ? 1 : 0);
        }
    }

    public boolean odds(int seed, int many, int errs) {
        if (!isWithin(seed, 0, SEED_MOST) || !isWithin(many, 1, SEEDS_MOST) || !isWithin(errs, 0, ERRS_MOST)
                || seed + many - 1 > SEED_MOST) {
            return deny(BAD_NUMBER);
        }
        if (!canWalk()) {
            return deny(NOTHING);
        }
        int good = 0;
        for (int i = 0; i < many; i++) {
            trial.run(site, seed + i, errs);
            if (isAllTrue(trial.notes)) {
                good++;
            }
        }
        tellFraction(good, many);
        return accept();
    }

    private boolean isAllTrue(int[] notes) {
        for (int s = 0; s < site.wall.stones; s++) {
            if (!agrees(notes[s], site.wall.isHollow(s))) {
                return false;
            }
        }
        return true;
    }

    // ---- MARKS

    public int mark() {
        if (markCount >= MARKS_MOST) {
            return refuse(ONE_TOO_MANY);
        }
        marks[markCount].copyFrom(site);
        markCount++;
        return answer(markCount);
    }

    public int back() {
        if (markCount <= 0) {
            return refuse(NOTHING);
        }
        markCount--;
        site.copyFrom(marks[markCount]);
        return answer(markCount);
    }

    /** A row of numbers of one sort. */
    private static final class Tray {
        final long[] numbers = new long[TRAY_MOST];
        boolean missing = true;
        int sort = 0;
        int length = 0;

        void lay(int newSort, int many) {
            missing = false;
            sort = newSort;
            length = many;
            Arrays.fill(numbers, 0L);
        }

        void put(int place, long v) {
            switch (sort) {
                case 0: numbers[place] = (byte) v; break;
                case 1: numbers[place] = (short) v; break;
                case 2: numbers[place] = (int) v; break;
                default: numbers[place] = v; break;
            }
        }

        boolean hasPlace(int place) {
            return place >= 0 && place < length;
        }

        /** No numbers at all may begin behind the last one, too. */
        boolean hasRow(int place, int howMany) {
            return place >= 0 && place <= length && howMany <= length - place;
        }
    }

    /** The tape, the TOKENS of the text that is read from it, and the FAULT found latest. */
    private static final class Text {
        static final int AT_END = 0;
        static final int NO_TOKEN = 1;
        static final int WORD = 2;
        static final int NUMBER = 3;
        static final int SIGN = 4;
        private static final int DIGITS_MOST = 4;
        private static final String RESERVED = " oath from course mason lays costs slip at by find year go back knock note turn when hollow full stone noted first loop end stop ";

        final byte[] bytes = new byte[TAPE_MOST];
        int length = 0;
        int faultKind = NONE;
        int faultPlace = NONE;
        int kind = AT_END;
        int start = 0;
        int next = 0;
        private int textLength = 0;
        private int value = 0;
        private int numberPlace = 0;

        void append(int four) {
            for (int shift = 24; shift >= 0; shift -= 8) {
                if (length < TAPE_MOST) {
                    bytes[length] = (byte) (four >> shift);
                    length++;
                }
            }
        }

        void begin(int n) {
            textLength = Math.min(n, length);
            next = 0;
            faultKind = NO_FAULT;
            faultPlace = NONE;
            advance();
        }

        void advance() {
            while (next < textLength && (bytes[next] == 10 || bytes[next] == 32)) {
                next++;
            }
            start = next;
            if (next >= textLength) {
                kind = AT_END;
            } else {
                passToken(bytes[next]);
            }
        }

        private void passToken(int sign) {
            value = 0;
            if (sign >= 'a' && sign <= 'z') {
                kind = WORD;
                while (next < textLength && bytes[next] >= 'a' && bytes[next] <= 'z') {
                    next++;
                }
            } else if (sign >= '0' && sign <= '9') {
                while (next < textLength && bytes[next] >= '0' && bytes[next] <= '9') {
                    value = value * 10 + bytes[next] - '0';
                    next++;
                }
                kind = next - start > DIGITS_MOST ? NO_TOKEN : NUMBER;
            } else {
                kind = sign == ';' || sign == '<' || sign == '>' || sign == '=' ? SIGN : NO_TOKEN;
                next++;
            }
        }

        boolean isWord(String word) {
            if (kind != WORD || next - start != word.length()) {
                return false;
            }
            for (int i = 0; i < word.length(); i++) {
                if (bytes[start + i] != word.charAt(i)) {
                    return false;
                }
            }
            return true;
        }

        boolean isSign(int sign) {
            return kind == SIGN && bytes[start] == sign;
        }

        /** A WORD that may be a NAME, taken or not. */
        boolean isName() {
            int size = next - start;
            if (kind != WORD || size > NAME_MOST) {
                return false;
            }
            for (int at = 0; at + size + 1 < RESERVED.length(); at++) {
                if (RESERVED.charAt(at) == ' ' && RESERVED.charAt(at + size + 1) == ' ' && isReservedFrom(at + 1)) {
                    return false;
                }
            }
            return true;
        }

        private boolean isReservedFrom(int at) {
            for (int i = 0; i < next - start; i++) {
                if (RESERVED.charAt(at + i) != bytes[start + i]) {
                    return false;
                }
            }
            return true;
        }

        /** Always false, so that a reader can hand it on. */
        boolean faultAt(int fault, int place) {
            faultKind = fault;
            faultPlace = place;
            return false;
        }

        boolean faultHere(int fault) {
            return faultAt(fault, start);
        }

        boolean misplaced() {
            return faultAt(kind == NO_TOKEN ? NO_TOKEN_FAULT : PLACE_FAULT, start);
        }

        boolean takeWord(String word) {
            if (!isWord(word)) {
                return misplaced();
            }
            advance();
            return true;
        }

        boolean takeSemicolon() {
            if (!isSign(';')) {
                return misplaced();
            }
            advance();
            return true;
        }

        /** The NUMBER, or NONE behind a FAULT. */
        int takeNumber(int least, int most) {
            if (kind != NUMBER) {
                misplaced();
                return NONE;
            }
            if (!isWithin(value, least, most)) {
                faultHere(NUMBER_FAULT);
                return NONE;
            }
            int number = value;
            numberPlace = start;
            advance();
            return number;
        }

        /** A FAULT of the NUMBER taken latest. */
        boolean faultAtNumber(int fault) {
            return faultAt(fault, numberPlace);
        }
    }

    /** What a WALL's text tells, and the counts and masons that follow from it. */
    private static final class Wall {
        int oath = 7;
        int first = 1;
        int stones = 0;
        int courses = 0;
        int masons = 0;
        int slips = 0;
        int finds = 0;
        final int[] courseStart = new int[COURSES_MOST];
        final int[] lays = new int[MASONS_MOST];
        final int[] costs = new int[MASONS_MOST];
        final int[] laidFrom = new int[MASONS_MOST];
        final int[] laidMany = new int[MASONS_MOST];
        final int[] courseOf = new int[STONES_MOST];
        final int[] laidBy = new int[STONES_MOST];
        final int[] slipCost = new int[STONES_MOST];
        final int[] slipBy = new int[STONES_MOST];
        final int[] findYear = new int[STONES_MOST];
        final int[] trueCount = new int[STONES_MOST];
        final int[] swornCount = new int[STONES_MOST];

        void wipe() {
            stones = 0;
            courses = 0;
            masons = 0;
            slips = 0;
            finds = 0;
            Arrays.fill(slipBy, 0);
            Arrays.fill(findYear, NONE);
        }

        void copyFrom(Wall other) {
            oath = other.oath;
            first = other.first;
            stones = other.stones;
            courses = other.courses;
            masons = other.masons;
            slips = other.slips;
            finds = other.finds;
            System.arraycopy(other.courseStart, 0, courseStart, 0, COURSES_MOST);
            System.arraycopy(other.lays, 0, lays, 0, MASONS_MOST);
            System.arraycopy(other.costs, 0, costs, 0, MASONS_MOST);
            System.arraycopy(other.laidFrom, 0, laidFrom, 0, MASONS_MOST);
            System.arraycopy(other.laidMany, 0, laidMany, 0, MASONS_MOST);
            System.arraycopy(other.courseOf, 0, courseOf, 0, STONES_MOST);
            System.arraycopy(other.laidBy, 0, laidBy, 0, STONES_MOST);
            System.arraycopy(other.slipCost, 0, slipCost, 0, STONES_MOST);
            System.arraycopy(other.slipBy, 0, slipBy, 0, STONES_MOST);
            System.arraycopy(other.findYear, 0, findYear, 0, STONES_MOST);
            System.arraycopy(other.trueCount, 0, trueCount, 0, STONES_MOST);
            System.arraycopy(other.swornCount, 0, swornCount, 0, STONES_MOST);
        }

        boolean hasStone(int s) {
            return s >= 0 && s < stones;
        }

        boolean hasMason(int k) {
            return k >= 0 && k < masons;
        }

        void addCourse(int many) {
            if (courses < COURSES_MOST && stones + many <= STONES_MOST) {
                courseStart[courses] = stones;
                for (int s = stones; s < stones + many; s++) {
                    courseOf[s] = courses;
                }
                courses++;
                stones += many;
            }
        }

        void addMason(int howMany, int cost) {
            if (masons < MASONS_MOST) {
                lays[masons] = howMany;
                costs[masons] = cost;
                masons++;
            }
        }

        void addSlip(int s, int by) {
            slipBy[s] = by;
            slips++;
        }

        void addFind(int s, int year) {
            findYear[s] = year;
            finds++;
        }

        /** What can be told only when the whole text is known. */
        void settle() {
            layByMasons();
            countStones();
        }

        private void layByMasons() {
            Arrays.fill(laidBy, NONE);
            Arrays.fill(slipCost, 1);
            int next = 0;
            for (int k = 0; k < masons; k++) {
                int left = stones - next;
                int laid = k == masons - 1 ? left : Math.min(lays[k], left);
                laidFrom[k] = laid > 0 ? next : NONE;
                laidMany[k] = laid;
                for (int s = next; s < next + laid; s++) {
                    laidBy[s] = k;
                    // Where the count changed hands a SLIP COSTS 1, whoever laid the STONE.
                    slipCost[s] = s == next && k > 0 ? 1 : costs[k];
                }
                next += laid;
            }
        }

        private void countStones() {
            int count = first;
            int sworn = first;
            for (int s = 0; s < stones; s++) {
                trueCount[s] = count;
                swornCount[s] = sworn;
                sworn = countBehind(sworn, oath);
                count = countBehind(count, oath) + (s + 1 < stones ? slipBy[s + 1] : 0);
                count = count > oath ? count - oath : count;
            }
        }

        boolean isHollow(int s) {
            return trueCount[s] == oath;
        }

        boolean isSwornHollow(int s) {
            return swornCount[s] == oath;
        }

        boolean isCourseStart(int s) {
            return courseStart[courseOf[s]] == s;
        }

        int placeInCourse(int s) {
            return s - courseStart[courseOf[s]];
        }

        /** The first STONE of the COURSE behind that of a STONE. */
        int nextCourseStart(int s) {
            int next = courseOf[s] + 1;
            return next < courses ? courseStart[next] : courseStart[0];
        }

        int slipsOf(int k) {
            int found = 0;
            for (int s = 0; s < stones; s++) {
                if (laidBy[s] == k && slipBy[s] > 0) {
                    found++;
                }
            }
            return found;
        }

        /** What the SLIP told at a STONE COSTS, 0 where none is. */
        int toldCost(int s) {
            return slipBy[s] > 0 ? slipCost[s] : 0;
        }

        int toldCostOf(int k) {
            int all = 0;
            for (int s = 0; s < stones; s++) {
                if (laidBy[s] == k) {
                    all += toldCost(s);
                }
            }
            return all;
        }

        boolean isHollowFind(int s) {
            return findYear[s] != NONE && isHollow(s);
        }

        int yearAhead(int stone) {
            for (int s = stone; s >= 0; s--) {
                if (findYear[s] != NONE) {
                    return findYear[s];
                }
            }
            return NONE;
        }

        int yearBehind(int stone) {
            for (int s = stone; s < stones; s++) {
                if (findYear[s] != NONE) {
                    return findYear[s];
                }
            }
            return NONE;
        }
    }

    /** Reads a WALL's text into a WALL of its own, so that the old one stays behind a FAULT. */
    private static final class WallReader {
        final Wall wall = new Wall();
        private final int[] nameStart = new int[MASONS_MOST];
        private final int[] nameLength = new int[MASONS_MOST];
        private int lastSlip = 0;

        boolean readWall(Text text, int n) {
            wall.wipe();
            lastSlip = 0;
            text.begin(n);
            boolean taken = readOath(text);
            for (int part = 0; part < TAPE_MOST && taken && text.kind != Text.AT_END; part++) {
                if (text.isWord("course")) {
                    taken = readCourse(text);
                } else if (text.isWord("mason")) {
                    taken = readMason(text);
                } else if (text.isWord("slip")) {
                    taken = readSlip(text);
                } else if (text.isWord("find")) {
                    taken = readFind(text);
                } else {
                    taken = text.misplaced();
                }
            }
            if (taken) {
                wall.settle();
            }
            return taken;
        }

        private boolean readOath(Text text) {
            if (!text.takeWord("oath")) {
                return false;
            }
            int oath = text.takeNumber(OATH_LEAST, OATH_MOST);
            if (oath == NONE || !text.takeWord("from")) {
                return false;
            }
            int first = text.takeNumber(1, oath);
            if (first == NONE) {
                return false;
            }
            wall.oath = oath;
            wall.first = first;
            return text.takeSemicolon();
        }

        private boolean readCourse(Text text) {
            if (wall.courses >= COURSES_MOST) {
                return text.faultHere(MORE_FAULT);
            }
            text.advance();
            int many = text.takeNumber(1, COURSE_STONES_MOST);
            if (many == NONE) {
                return false;
            }
            wall.addCourse(many);
            return text.takeSemicolon();
        }

        private boolean readMason(Text text) {
            if (wall.masons >= MASONS_MOST) {
                return text.faultHere(MORE_FAULT);
            }
            text.advance();
            if (!takeName(text) || !text.takeWord("lays")) {
                return false;
            }
            int lays = text.takeNumber(1, LAYS_MOST);
            if (lays == NONE || !text.takeWord("costs")) {
                return false;
            }
            int costs = text.takeNumber(1, COSTS_MOST);
            if (costs == NONE) {
                return false;
            }
            wall.addMason(lays, costs);
            return text.takeSemicolon();
        }

        private boolean takeName(Text text) {
            if (!text.isName()) {
                return text.misplaced();
            }
            int length = text.next - text.start;
            for (int k = 0; k < wall.masons; k++) {
                if (nameLength[k] == length && isSame(text.bytes, nameStart[k], text.start, length)) {
                    return text.faultHere(NAME_FAULT);
                }
            }
            nameStart[wall.masons] = text.start;
            nameLength[wall.masons] = length;
            text.advance();
            return true;
        }

        private static boolean isSame(byte[] bytes, int one, int other, int length) {
            for (int i = 0; i < length; i++) {
                if (bytes[one + i] != bytes[other + i]) {
                    return false;
                }
            }
            return true;
        }

        private boolean readSlip(Text text) {
            if (wall.slips >= SLIPS_MOST) {
                return text.faultHere(MORE_FAULT);
            }
            text.advance();
            if (!text.takeWord("at")) {
                return false;
            }
            int stone = text.takeNumber(0, wall.stones - 1);
            if (stone == NONE) {
                return false;
            }
            if (stone <= lastSlip) {
                return text.faultAtNumber(STONE_FAULT);
            }
            if (!text.takeWord("by")) {
                return false;
            }
            int by = text.takeNumber(1, wall.oath - 1);
            if (by == NONE) {
                return false;
            }
            wall.addSlip(stone, by);
            lastSlip = stone;
            return text.takeSemicolon();
        }

        private boolean readFind(Text text) {
            if (wall.finds >= FINDS_MOST) {
                return text.faultHere(MORE_FAULT);
            }
            text.advance();
            if (!text.takeWord("at")) {
                return false;
            }
            int stone = text.takeNumber(0, wall.stones - 1);
            if (stone == NONE) {
                return false;
            }
            if (wall.findYear[stone] != NONE) {
                return text.faultAtNumber(STONE_FAULT);
            }
            if (!text.takeWord("year")) {
                return false;
            }
            int year = text.takeNumber(0, YEAR_MOST);
            if (year == NONE) {
                return false;
            }
            wall.addFind(stone, year);
            return text.takeSemicolon();
        }
    }

    /** The STEPS of a ROUND in a row, with an END behind each when and loop. */
    private static final class Round {
        static final int GO = 0;
        static final int BACK = 1;
        static final int KNOCK = 2;
        static final int NOTE = 3;
        static final int TURN = 4;
        static final int WHEN = 5;
        static final int LOOP = 6;
        static final int STOP = 7;
        static final int END = 8;

        static final int IF_HOLLOW = 0;
        static final int IF_FULL = 1;
        static final int IF_NOTED = 2;
        static final int IF_FIRST = 3;
        static final int IF_BELOW = 4;
        static final int IF_ABOVE = 5;
        static final int IF_SAME = 6;

        static final int ROWS = 2 * STEPS_MOST;

        int steps = 0;
        int length = 0;
        final int[] kind = new int[ROWS];
        final int[] number = new int[ROWS];
        final int[] test = new int[ROWS];
        final int[] partner = new int[ROWS];

        void copyFrom(Round other) {
            steps = other.steps;
            length = other.length;
            System.arraycopy(other.kind, 0, kind, 0, ROWS);
            System.arraycopy(other.number, 0, number, 0, ROWS);
            System.arraycopy(other.test, 0, test, 0, ROWS);
            System.arraycopy(other.partner, 0, partner, 0, ROWS);
        }

        /** Where the new row stands. */
        int add(int newKind) {
            int at = Math.min(length, ROWS - 1);
            kind[at] = newKind;
            number[at] = 0;
            test[at] = 0;
            partner[at] = at;
            length = at + 1;
            return at;
        }

        void pair(int opening, int end) {
            partner[opening] = end;
            partner[end] = opening;
        }
    }

    /** Reads a ROUND's text into a ROUND of its own. */
    private static final class RoundReader {
        final Round round = new Round();
        private final int[] openings = new int[WITHIN_MOST];
        private int open = 0;

        boolean readRound(Text text, int n) {
            round.steps = 0;
            round.length = 0;
            open = 0;
            text.begin(n);
            for (int i = 0; i < ROUND_TEXT_MOST && text.kind != Text.AT_END; i++) {
                boolean read = text.isWord("end") ? readEnd(text) : readStep(text);
                if (!read) {
                    return false;
                }
            }
            return open == 0 || text.misplaced();
        }

        private boolean readEnd(Text text) {
            if (open <= 0) {
                return text.misplaced();
            }
            open--;
            round.pair(openings[open], round.add(Round.END));
            text.advance();
            return text.takeSemicolon();
        }

        private boolean readStep(Text text) {
            int kind = stepKind(text);
            if (kind == NONE) {
                return text.misplaced();
            }
            if (round.steps >= STEPS_MOST) {
                return text.faultHere(MORE_FAULT);
            }
            boolean opens = kind == Round.WHEN || kind == Round.LOOP;
            if (opens && open >= WITHIN_MOST) {
                return text.faultHere(WITHIN_FAULT);
            }
            int at = round.add(kind);
            round.steps++;
            if (opens) {
                openings[open] = at;
                open++;
            }
            text.advance();
            return readRest(text, at) && text.takeSemicolon();
        }

        private static int stepKind(Text text) {
            if (text.isWord("go")) {
                return Round.GO;
            }
            if (text.isWord("back")) {
                return Round.BACK;
            }
            if (text.isWord("knock")) {
                return Round.KNOCK;
            }
            if (text.isWord("note")) {
                return Round.NOTE;
            }
            if (text.isWord("turn")) {
                return Round.TURN;
            }
            if (text.isWord("when")) {
                return Round.WHEN;
            }
            if (text.isWord("loop")) {
                return Round.LOOP;
            }
            return text.isWord("stop") ? Round.STOP : NONE;
        }

        /** What stands between a STEP's WORD and its semicolon. */
        private boolean readRest(Text text, int at) {
            switch (round.kind[at]) {
                case Round.GO:
                case Round.BACK:
                case Round.LOOP:
                    round.number[at] = text.takeNumber(1, 99);
                    return round.number[at] != NONE;
                case Round.WHEN:
                    return readTest(text, at);
                default:
                    return true;
            }
        }

        private boolean readTest(Text text, int at) {
            boolean compares = text.isWord("stone");
            if (compares) {
                text.advance();
            }
            int test = compares ? compareKind(text) : testKind(text);
            if (test == NONE) {
                return text.misplaced();
            }
            round.test[at] = test;
            text.advance();
            if (compares) {
                round.number[at] = text.takeNumber(0, 99);
            }
            return round.number[at] != NONE;
        }

        private static int testKind(Text text) {
            if (text.isWord("hollow")) {
                return Round.IF_HOLLOW;
            }
            if (text.isWord("full")) {
                return Round.IF_FULL;
            }
            if (text.isWord("noted")) {
                return Round.IF_NOTED;
            }
            return text.isWord("first") ? Round.IF_FIRST : NONE;
        }

        private static int compareKind(Text text) {
            if (text.isSign('<')) {
                return Round.IF_BELOW;
            }
            if (text.isSign('>')) {
                return Round.IF_ABOVE;
            }
            return text.isSign('=') ? Round.IF_SAME : NONE;
        }
    }

    /** All that a MARK keeps. */
    private static final class Site {
        final Wall wall = new Wall();
        final int[] notes = new int[STONES_MOST];
        final Round round = new Round();
        boolean hasRound = false;
        int hammer = 0;

        Site() {
            Arrays.fill(notes, NONE);
        }

        void copyFrom(Site other) {
            wall.copyFrom(other.wall);
            System.arraycopy(other.notes, 0, notes, 0, STONES_MOST);
            round.copyFrom(other.round);
            hasRound = other.hasRound;
            hammer = other.hammer;
        }

        void build(Wall newWall) {
            wall.copyFrom(newWall);
            Arrays.fill(notes, NONE);
            hasRound = false;
            hammer = 0;
        }

        int countNotes() {
            int noted = 0;
            for (int s = 0; s < wall.stones; s++) {
                if (notes[s] != NONE) {
                    noted++;
                }
            }
            return noted;
        }

        /** Whether an oath explains what is NOTED without a SLIP. */
        boolean isOath(int m, int f) {
            return isExplained(m, f, NONE);
        }

        /** Whether it is explained, if the STONE ahead of this one was counted twice. */
        boolean isTwice(int stone) {
            return isExplained(wall.oath, wall.first, stone);
        }

        private boolean isExplained(int m, int f, int countedAgain) {
            int count = f;
            for (int s = 0; s < wall.stones; s++) {
                // A SLIP by M less 1 leaves the count where it was.
                if (s > 0 && s != countedAgain) {
                    count = countBehind(count, m);
                }
                if (!agrees(notes[s], count == m)) {
                    return false;
                }
            }
            return true;
        }
    }

    /** The READINGS with the LEAST COST, by what is the cheapest from each STONE and count on. */
    private static final class Readings {
        private static final int FAR = 1000000;

        private final int[][] costBehind = new int[STONES_MOST][OATH_MOST + 1];
        private final int[][] waysBehind = new int[STONES_MOST][OATH_MOST + 1];
        private final int[][] costAhead = new int[STONES_MOST][OATH_MOST + 1];
        private final int[][] waysAhead = new int[STONES_MOST][OATH_MOST + 1];
        private Wall wall = new Wall();
        private int[] notes = new int[STONES_MOST];
        private boolean isFree = false;
        private int bestCost = FAR;
        private int bestWays = 0;
        int leastCost = FAR;
        int wayCount = 0;
        int tracedFirst = 1;
        final int[] tracedBy = new int[STONES_MOST];
        final int[] tracedCount = new int[STONES_MOST];

        /** Whether there is a READING. */
        boolean solve(Site site, boolean free) {
            wall = site.wall;
            notes = site.notes;
            isFree = free;
            followFromBehind(NONE);
            leastCost = FAR;
            for (int c = 1; c <= wall.oath; c++) {
                if (mayStart(c)) {
                    leastCost = Math.min(leastCost, costBehind[0][c]);
                }
            }
            wayCount = waysAt(leastCost);
            return leastCost < FAR;
        }

        int stones() {
            return wall.stones;
        }

        private boolean mayStart(int count) {
            return isFree || count == wall.first;
        }

        private int waysAt(int cost) {
            int all = 0;
            for (int c = 1; c <= wall.oath; c++) {
                if (cost < FAR && mayStart(c) && costBehind[0][c] == cost) {
                    all = Math.min(WAYS_MOST, all + waysBehind[0][c]);
                }
            }
            return all;
        }

        /** How many of them have no SLIP in what a MASON laid; what is behind is then without these. */
        int waysWithout(int mason) {
            followFromBehind(mason);
            return waysAt(leastCost);
        }

        private void followFromBehind(int banned) {
            // A WALL of no STONES has READINGS too: one for each FIRST count.
            for (int s = Math.max(wall.stones - 1, 0); s >= 0; s--) {
                for (int c = 1; c <= wall.oath; c++) {
                    followBehind(s, c, banned);
                }
            }
        }

        private void followBehind(int s, int c, int banned) {
            bestCost = FAR;
            bestWays = 0;
            if (agrees(notes[s], c == wall.oath)) {
                if (s + 1 >= wall.stones) {
                    offer(0, 1);
                }
                int next = c;
                for (int by = 0; s + 1 < wall.stones && by < wall.oath; by++) {
                    next = countBehind(next, wall.oath);
                    offer(priceOf(s + 1, by, banned) + costBehind[s + 1][next], waysBehind[s + 1][next]);
                }
            }
            costBehind[s][c] = bestCost;
            waysBehind[s][c] = bestWays;
        }

        private void offer(int cost, int found) {
            if (cost < bestCost) {
                bestCost = cost;
                bestWays = found;
            } else if (cost == bestCost && cost < FAR) {
                bestWays = Math.min(WAYS_MOST, bestWays + found);
            }
        }

        private int priceOf(int s, int by, int banned) {
            if (by == 0) {
                return 0;
            }
            return banned != NONE && wall.laidBy[s] == banned ? FAR : wall.slipCost[s];
        }

        void followFromAhead() {
            for (int s = 0; s < wall.stones; s++) {
                for (int c = 1; c <= wall.oath; c++) {
                    followAhead(s, c);
                }
            }
        }

        private void followAhead(int s, int c) {
            bestCost = FAR;
            bestWays = 0;
            if (agrees(notes[s], c == wall.oath)) {
                if (s == 0 && mayStart(c)) {
                    offer(0, 1);
                }
                int last = c;
                for (int by = 0; s > 0 && by < wall.oath; by++) {
                    last = last <= 1 ? wall.oath : last - 1;
                    offer(priceOf(s, by, NONE) + costAhead[s - 1][last], waysAhead[s - 1][last]);
                }
            }
            costAhead[s][c] = bestCost;
            waysAhead[s][c] = bestWays;
        }

        private boolean isLeastAt(int s, int c) {
            return costAhead[s][c] < FAR && costAhead[s][c] + costBehind[s][c] == leastCost;
        }

        /** 2: HOLLOW in all of them, 0: in none, 1: in some. */
        int sureness(int s) {
            boolean full = false;
            for (int c = 1; c < wall.oath; c++) {
                full = full || isLeastAt(s, c);
            }
            if (!isLeastAt(s, wall.oath)) {
                return 0;
            }
            return full ? 1 : 2;
        }

        boolean allSaySame() {
            followFromAhead();
            for (int s = 0; s < wall.stones; s++) {
                if (sureness(s) == 1) {
                    return false;
                }
            }
            return true;
        }

        /** In how many of them a STONE is HOLLOW. */
        long hollowWays(int s) {
            int m = wall.oath;
            return isLeastAt(s, m) ? (long) waysAhead[s][m] * waysBehind[s][m] : 0;
        }

        /** The k-th of them (0: the FIRST), in the order in which they are counted. */
        void trace(int k) {
            int rest = traceFirst(k);
            int count = tracedFirst;
            tracedCount[0] = count;
            tracedBy[0] = 0;
            for (int s = 1; s < wall.stones; s++) {
                rest = traceStone(s, count, rest);
                count = tracedCount[s];
            }
        }

        /** How many with the same FIRST count are ahead of it. */
        private int traceFirst(int k) {
            int rest = k;
            for (int c = 1; c <= wall.oath; c++) {
                if (mayStart(c) && costBehind[0][c] == leastCost) {
                    if (rest < waysBehind[0][c]) {
                        tracedFirst = c;
                        return rest;
                    }
                    rest -= waysBehind[0][c];
                }
            }
            return rest;
        }

        private int traceStone(int s, int last, int ahead) {
            int rest = ahead;
            int owed = costBehind[s - 1][last];
            int count = last;
            for (int by = 0; by < wall.oath; by++) {
                count = countBehind(count, wall.oath);
                if (priceOf(s, by, NONE) + costBehind[s][count] == owed) {
                    if (rest < waysBehind[s][count]) {
                        tracedCount[s] = count;
                        tracedBy[s] = by;
                        return rest;
                    }
                    rest -= waysBehind[s][count];
                }
            }
            return rest;
        }

        boolean isTracedHollow(int s) {
            return tracedCount[s] == wall.oath;
        }
    }

    /** TELLING apart of few READINGS: sets of them are numbers, a bit for each READING. */
    private static final class Telling {
        private final int[] hollowIn = new int[STONES_MOST];
        private final int[] askedStone = new int[STONES_MOST];
        private int asked = 0;
        private final int[] fewest = new int[1 << TELLING_MOST];
        int knocks = 0;
        int bestStone = NONE;

        void plan(Readings readings) {
            int many = Math.min(readings.wayCount, TELLING_MOST);
            int all = (1 << many) - 1;
            gather(readings, many);
            chooseStones(readings.stones(), all);
            for (int set = 1; set <= all; set++) {
                fewest[set] = fewestFor(set);
            }
            knocks = fewest[all];
            bestStone = bestFor(all);
        }

        private void gather(Readings readings, int many) {
            Arrays.fill(hollowIn, 0);
            for (int k = 0; k < many; k++) {
                readings.trace(k);
                for (int s = 0; s < readings.stones(); s++) {
                    if (readings.isTracedHollow(s)) {
                        hollowIn[s] |= 1 << k;
                    }
                }
            }
        }

        /** A STONE that parts them as one ahead of it does need not be asked. */
        private void chooseStones(int stones, int all) {
            asked = 0;
            for (int s = 0; s < stones; s++) {
                if (hollowIn[s] != 0 && hollowIn[s] != all && !isAsked(hollowIn[s], all)) {
                    askedStone[asked] = s;
                    asked++;
                }
            }
        }

        private boolean isAsked(int hollow, int all) {
            for (int i = 0; i < asked; i++) {
                int other = hollowIn[askedStone[i]];
                if (other == hollow || other == (all & ~hollow)) {
                    return true;
                }
            }
            return false;
        }

        /** How many KNOCKS a set needs if a STONE is the first; NONE if that does not part it. */
        private int neededBy(int s, int set) {
            int hollow = set & hollowIn[s];
            int full = set & ~hollowIn[s];
            return hollow == 0 || full == 0 ? NONE : 1 + Math.max(fewest[hollow], fewest[full]);
        }

        private int fewestFor(int set) {
            int best = 0;
            for (int i = 0; i < asked; i++) {
                int needed = neededBy(askedStone[i], set);
                if (needed != NONE && (best == 0 || needed < best)) {
                    best = needed;
                }
            }
            return best;
        }

        private int bestFor(int set) {
            for (int i = 0; i < asked; i++) {
                if (neededBy(askedStone[i], set) == fewest[set]) {
                    return askedStone[i];
                }
            }
            return NONE;
        }
    }

    /** A walk with the HAMMER, on notes of its own. */
    private static final class Walker {
        // Far above the 400 STEPS and the 99 times that each loop may come to its end without one.
        private static final int MOVES_MOST = 1000000;

        final int[] notes = new int[STONES_MOST];
        private final int[] timesLeft = new int[Round.ROWS];
        private int draw = 0;
        private int errors = 0;
        private int heard = NONE;
        int at = 0;
        boolean hasRun = false;
        int steps = 0;
        int knocks = 0;
        int heardWrong = 0;
        int notesMade = 0;
        boolean isStepLeft = false;

        void run(Site site, int seed, int errs) {
            begin(site, seed, errs);
            Round round = site.round;
            int row = 0;
            for (int i = 0; i < MOVES_MOST && row >= 0 && row < round.length; i++) {
                if (round.kind[row] == Round.END) {
                    row = behindEnd(round, row);
                } else if (steps >= STEPS_DONE_MOST) {
                    isStepLeft = true;
                    return;
                } else {
                    steps++;
                    row = behindStep(site, row);
                }
            }
        }

        private void begin(Site site, int seed, int errs) {
            System.arraycopy(site.notes, 0, notes, 0, STONES_MOST);
            at = site.hammer;
            draw = seed;
            errors = errs;
            heard = NONE;
            hasRun = true;
            steps = 0;
            knocks = 0;
            heardWrong = 0;
            notesMade = 0;
            isStepLeft = false;
        }

        private int behindEnd(Round round, int row) {
            int opening = round.partner[row];
            if (round.kind[opening] == Round.LOOP) {
                timesLeft[opening]--;
                if (timesLeft[opening] > 0) {
                    return opening + 1;
                }
            }
            return row + 1;
        }

        /** Does a STEP: the row that comes behind it. */
        private int behindStep(Site site, int row) {
            Round round = site.round;
            Wall wall = site.wall;
            switch (round.kind[row]) {
                case Round.GO:
                    at = Math.min(at + round.number[row], wall.stones - 1);
                    return row + 1;
                case Round.BACK:
                    at = Math.max(at - round.number[row], 0);
                    return row + 1;
                case Round.KNOCK:
                    listen(wall.isHollow(at));
                    return row + 1;
                case Round.NOTE:
                    writeDown();
                    return row + 1;
                case Round.TURN:
                    at = wall.nextCourseStart(at);
                    return row + 1;
                case Round.WHEN:
                    return holds(wall, round.test[row], round.number[row]) ? row + 1 : round.partner[row] + 1;
                case Round.LOOP:
                    timesLeft[row] = round.number[row];
                    return row + 1;
                default:
                    return round.length;
            }
        }

        private void listen(boolean hollow) {
            draw = (draw * 2749 + 8803) % 65536;
            boolean wrongly = draw / 8 % 16 < errors;
            heard = hollow != wrongly ? 1 : 0;
            knocks++;
            if (wrongly) {
                heardWrong++;
            }
        }

        private void writeDown() {
            if (heard != NONE) {
                notes[at] = heard;
                notesMade++;
            }
        }

        private boolean holds(Wall wall, int test, int number) {
            switch (test) {
                case Round.IF_HOLLOW: return heard == 1;
                case Round.IF_FULL: return heard == 0;
                case Round.IF_NOTED: return notes[at] != NONE;
                case Round.IF_FIRST: return wall.isCourseStart(at);
                case Round.IF_BELOW: return at < number;
                case Round.IF_ABOVE: return at > number;
                default: return at == number;
            }
        }
    }
}
