import java.util.List;
import java.util.Random;

/** Promises 13 to 23, 28 to 40 and 44 to 46 on drawn WALLS, against answers found by going through all there is. */
public final class ByForceTest {
    private static final int STONES_OF_ONE = 12;
    private static final int OATHS_OF_ONE = 12;
    private static HollowWall used = new HollowWall();
    private static int wallsBuilt = 0;

    public static void main(String[] args) {
        Random draws = new Random(7);
        for (int i = 0; i < 600; i++) {
            stones(new Model(draws, 13, 96));
        }
        for (int i = 0; i < 1500; i++) {
            readings(new Model(draws, 2 + draws.nextInt(4), 1 + draws.nextInt(6)), draws);
        }
        for (int i = 0; i < 60; i++) {
            readings(new Model(draws, 2, 2 + draws.nextInt(12)), draws);
        }
        Checks.end();
    }

    /** Two WALLS are built in one object, so that what is left of the one ahead would be seen. */
    private static HollowWall built(Model m) {
        if (wallsBuilt % 2 == 0) {
            used = new HollowWall();
        }
        wallsBuilt++;
        Checks.fine(used, "wall", Checks.wall(used, m.text), m.stones);
        return used;
    }

    private static void stones(Model m) {
        HollowWall x = built(m);
        int price = 0;
        int[] costs = new int[5];
        int row = 0;
        int gap = 0;
        int astray = -1;
        int hollows = 0;
        int next = -1;
        for (int s = m.stones - 1; s >= 0; s--) {
            next = m.isHollow(s) ? s : next;
            Checks.same("nextHollow", x.nextHollow(s), next);
        }
        for (int s = 0; s < m.stones; s++) {
            // An object is used for at most 512 calls.
            x = s % STONES_OF_ONE == 0 ? built(m) : x;
            Checks.fine(x, "true count", x.stone(s, 3), m.trueCount(s));
            Checks.fine(x, "sworn count", x.stone(s, 4), m.swornCount(s));
            Checks.same("who laid it", x.stone(s, 2), m.laidBy(s));
            Checks.same("year", x.stone(s, 7), m.year[s]);
            Checks.fine(x, "shift", x.shift(s), Math.floorMod(m.trueCount(s) - m.swornCount(s), m.oath));
            if (m.slipBy[s] > 0) {
                price += m.slipCost(s);
                costs[m.laidBy(s) + 1] += m.slipCost(s);
            }
            row = m.isHollow(s) ? 0 : row + 1;
            gap = Math.max(gap, row);
            if (m.isHollow(s)) {
                Checks.fine(x, "hollowAt", x.hollowAt(hollows), s);
                hollows++;
            }
            if (astray < 0 && m.isHollow(s) != (m.swornCount(s) == m.oath)) {
                astray = s;
            }
            dated(x, m, s);
        }
        Checks.refused(x, "hollowAt", x.hollowAt(hollows), 8);
        Checks.refused(x, "wrong", x.wrong(), 8);
        Checks.fine(x, "hollows", x.hollows(0, m.stones - 1), hollows);
        Checks.fine(x, "price", x.price(), price);
        Checks.fine(x, "gap", x.gap(), gap);
        Checks.same("astray", x.astray(), astray);
        int dearest = -1;
        for (int k = 0; k < 4; k++) {
            if (costs[k + 1] > (dearest < 0 ? 0 : costs[dearest + 1])) {
                dearest = k;
            }
        }
        Checks.same("dearest", x.dearest(), dearest);
        years(x, m);
    }

    private static void dated(HollowWall x, Model m, int stone) {
        int ahead = -1;
        int behind = -1;
        for (int s = 0; s < m.stones; s++) {
            if (m.year[s] >= 0 && s <= stone) {
                ahead = m.year[s];
            }
            if (m.year[s] >= 0 && s >= stone && behind < 0) {
                behind = m.year[s];
            }
        }
        boolean crossed = ahead >= 0 && behind >= 0 && ahead > behind;
        for (int what = 0; what < 2; what++) {
            int due = what == 0 ? ahead : behind;
            if (due < 0 || crossed) {
                Checks.refused(x, "dated", x.dated(stone, what), due < 0 ? 8 : 9);
            } else {
                Checks.fine(x, "dated", x.dated(stone, what), due);
            }
        }
    }

    private static void years(HollowWall x, Model m) {
        int[] found = new int[8];
        int many = 0;
        for (int s = 0; s < m.stones; s++) {
            if (m.year[s] >= 0 && m.isHollow(s)) {
                found[many++] = m.year[s];
            }
        }
        int longest = 0;
        for (int set = 0; set < 1 << many; set++) {
            int last = -1;
            boolean rises = true;
            for (int i = 0; i < many; i++) {
                if ((set >> i & 1) == 1) {
                    rises &= found[i] >= last;
                    last = found[i];
                }
            }
            longest = rises ? Math.max(longest, Integer.bitCount(set)) : longest;
        }
        int couples = 0;
        for (int i = 0; i < many; i++) {
            for (int j = i + 1; j < many; j++) {
                couples += found[i] > found[j] ? 1 : 0;
            }
        }
        Checks.fine(x, "years", x.years(), longest);
        Checks.fine(x, "against", x.against(), couples);
    }

    private static void readings(Model m, Random draws) {
        HollowWall x = built(m);
        for (int i = draws.nextInt(m.stones + 2); i > 0; i--) {
            int s = draws.nextInt(m.stones);
            m.notes[s] = draws.nextInt(3) > 0 ? draws.nextInt(2) : m.isHollow(s) ? 1 : 0;
            x.note(s, m.notes[s]);
        }
        for (int i = 0; i < 2; i++) {
            List<int[]> least = m.leastReadings(i == 1);
            if (least.isEmpty()) {
                Checks.refused(x, "least", x.least(i == 1), 8);
            } else {
                costs(x, m, least, i == 1);
                tellings(x, m, least, i == 1);
                bestKnock(x, m, least, i == 1);
            }
        }
        oathsAndTwice(x, m);
        int wrong = -1;
        for (int s = m.stones - 1; s >= 0; s--) {
            wrong = m.notes[s] >= 0 && (m.notes[s] == 1) != (m.swornCount(s) == m.oath) ? s : wrong;
        }
        Checks.same("wrong", x.wrong(), wrong);
    }

    private static void costs(HollowWall x, Model m, List<int[]> least, boolean free) {
        Checks.fine(x, "least", x.least(free), least.get(0)[0]);
        Checks.fine(x, "ways", x.ways(free), Math.min(999999, least.size()));
        int slips = 0;
        int explained = x.explain(free);
        for (int s = 1; s < m.stones; s++) {
            if (least.get(0)[s + 1] > 0) {
                Checks.fine(x, "slipAt 0", x.slipAt(slips, 0), s);
                Checks.fine(x, "slipAt 1", x.slipAt(slips, 1), least.get(0)[s + 1]);
                slips++;
            }
        }
        Checks.same("explain", explained, slips);
        Checks.fine(x, "firstCount", x.firstCount(), least.get(0)[1]);
        for (int s = 0; s < m.stones; s++) {
            int hollow = hollowIn(m, least, s);
            Checks.fine(x, "sure", x.sure(s, free), hollow == 0 ? 0 : hollow == least.size() ? 2 : 1);
        }
        for (int k = 0; k < m.masons.size(); k++) {
            int blamed = 0;
            for (int[] reading : least) {
                boolean slipped = false;
                for (int s = 1; s < m.stones; s++) {
                    slipped |= m.laidBy(s) == k && reading[s + 1] > 0;
                }
                blamed += slipped ? 1 : 0;
            }
            Checks.accepted(x, "blame", x.blame(k, free));
            long top = x.top();
            long bottom = x.bottom();
            Checks.same("blame", top * least.size(), bottom * blamed);
            for (int d = 2; d <= bottom; d++) {
                Checks.holds("no common divisor", top % d != 0 || bottom % d != 0);
            }
        }
    }

    private static int hollowIn(Model m, List<int[]> readings, int stone) {
        int hollow = 0;
        for (int[] reading : readings) {
            hollow += m.saysHollow(reading, stone) ? 1 : 0;
        }
        return hollow;
    }

    private static void tellings(HollowWall x, Model m, List<int[]> least, boolean free) {
        boolean same = true;
        for (int s = 0; s < m.stones; s++) {
            int hollow = hollowIn(m, least, s);
            same &= hollow == 0 || hollow == least.size();
        }
        if (least.size() > 12) {
            Checks.refused(x, "telling", x.telling(free, 0), 9);
            Checks.refused(x, "telling first", x.telling(free, 1), same ? 8 : 9);
            return;
        }
        int knocks = m.knocksFor(least);
        Checks.fine(x, "telling", x.telling(free, 0), knocks);
        int best = -1;
        for (int s = m.stones - 1; s >= 0 && knocks > 0; s--) {
            best = m.knocksWith(least, s) == knocks ? s : best;
        }
        Checks.same("telling first", x.telling(free, 1), best);
        Checks.same("status", x.status(), knocks == 0 ? 8 : 0);
    }

    private static void bestKnock(HollowWall x, Model m, List<int[]> least, boolean free) {
        int best = -1;
        int fewest = Integer.MAX_VALUE;
        for (int s = 0; s < m.stones; s++) {
            int hollow = hollowIn(m, least, s);
            int left = Math.max(hollow, least.size() - hollow);
            if (m.notes[s] < 0 && left < fewest) {
                fewest = left;
                best = s;
            }
        }
        Checks.same("bestKnock", x.bestKnock(free), best);
        Checks.same("status", x.status(), best < 0 ? 8 : 0);
    }

    private static void oathsAndTwice(HollowWall x, Model m) {
        int oaths = 0;
        for (int o = 2; o <= 13; o++) {
            for (int f = 1; f <= o; f++) {
                boolean good = true;
                for (int s = 0; s < m.stones; s++) {
                    good &= m.notes[s] < 0 || m.notes[s] == ((f + s) % o == 0 ? 1 : 0);
                }
                if (good && oaths < OATHS_OF_ONE) {
                    Checks.fine(x, "oathAt 0", x.oathAt(oaths, 0), o);
                    Checks.fine(x, "oathAt 1", x.oathAt(oaths, 1), f);
                }
                oaths += good ? 1 : 0;
            }
        }
        Checks.fine(x, "oaths", x.oaths(), oaths);
        int twice = 0;
        for (int t = 1; t < m.stones; t++) {
            boolean good = true;
            for (int s = 0; s < m.stones; s++) {
                int count = (m.first - 1 + s + (s >= t ? m.oath - 1 : 0)) % m.oath + 1;
                good &= m.notes[s] < 0 || m.notes[s] == (count == m.oath ? 1 : 0);
            }
            if (good) {
                Checks.fine(x, "twiceAt", x.twiceAt(twice), t);
                twice++;
            }
        }
        Checks.fine(x, "twice", x.twice(), twice);
        Checks.refused(x, "twiceAt", x.twiceAt(twice), 8);
    }
}
