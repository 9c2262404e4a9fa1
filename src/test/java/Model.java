import java.util.ArrayList;
import java.util.List;
import java.util.Random;

/** A WALL drawn by chance, with its text, and plain answers that are found by going through all there is. */
final class Model {
    final int oath;
    final int first;
    final List<Integer> courses = new ArrayList<>();
    final List<int[]> masons = new ArrayList<>();
    final int stones;
    final int[] slipBy;
    final int[] year;
    final int[] notes;
    final String text;

    Model(Random draws, int oathMost, int stonesMost) {
        oath = 2 + draws.nextInt(oathMost - 1);
        first = 1 + draws.nextInt(oath);
        int all = 0;
        for (int i = draws.nextInt(6) + 1; i > 0 && all < stonesMost; i--) {
            int many = 1 + draws.nextInt(Math.min(16, stonesMost - all));
            courses.add(many);
            all += many;
        }
        stones = all;
        for (int i = draws.nextInt(5); i > 0; i--) {
            masons.add(new int[] {1 + draws.nextInt(Math.min(96, stones)), 1 + draws.nextInt(9)});
        }
        slipBy = new int[stones];
        for (int i = draws.nextInt(7); i > 0; i--) {
            int s = draws.nextInt(stones);
            slipBy[s] = s == 0 ? 0 : 1 + draws.nextInt(oath - 1);
        }
        year = new int[stones];
        java.util.Arrays.fill(year, -1);
        for (int i = draws.nextInt(9); i > 0; i--) {
            year[draws.nextInt(stones)] = 1700 + draws.nextInt(6);
        }
        notes = new int[stones];
        java.util.Arrays.fill(notes, -1);
        text = tell();
    }

    private String tell() {
        StringBuilder told = new StringBuilder("oath " + oath + " from " + first + ";");
        for (int many : courses) {
            told.append("course ").append(many).append(";\n");
        }
        for (int k = 0; k < masons.size(); k++) {
            told.append("mason m").append((char) ('a' + k)).append(" lays ").append(masons.get(k)[0]).append(" costs ")
                .append(masons.get(k)[1]).append(" ;");
        }
        for (int s = 0; s < stones; s++) {
            if (slipBy[s] > 0) {
                told.append("slip at ").append(s).append(" by ").append(slipBy[s]).append(";");
            }
            if (year[s] >= 0) {
                told.append("find at ").append(s).append(" year ").append(year[s]).append(";");
            }
        }
        return told.toString();
    }

    int laidBy(int stone) {
        int left = stone;
        for (int k = 0; k < masons.size(); k++) {
            left -= masons.get(k)[0];
            if (left < 0 || k == masons.size() - 1) {
                return k;
            }
        }
        return -1;
    }

    int slipCost(int stone) {
        int k = laidBy(stone);
        if (k < 0) {
            return 1;
        }
        return k > 0 && laidBy(stone - 1) != k ? 1 : masons.get(k)[1];
    }

    int trueCount(int stone) {
        int all = first - 1 + stone;
        for (int s = 0; s <= stone; s++) {
            all += slipBy[s];
        }
        return all % oath + 1;
    }

    int swornCount(int stone) {
        return (first - 1 + stone) % oath + 1;
    }

    boolean isHollow(int stone) {
        return trueCount(stone) == oath;
    }

    /** A READING: at [0] its COST, at [1] its FIRST count, behind that the BY of each STONE from 1 on. */
    List<int[]> leastReadings(boolean free) {
        List<int[]> all = new ArrayList<>();
        for (int f = 1; f <= oath; f++) {
            if (free || f == first) {
                int[] reading = new int[stones + 1];
                reading[1] = f;
                extend(all, reading, f, 0);
            }
        }
        int least = Integer.MAX_VALUE;
        for (int[] reading : all) {
            least = Math.min(least, reading[0]);
        }
        List<int[]> cheapest = new ArrayList<>();
        for (int[] reading : all) {
            if (reading[0] == least) {
                cheapest.add(reading);
            }
        }
        return cheapest;
    }

    private void extend(List<int[]> all, int[] reading, int count, int stone) {
        if (notes[stone] >= 0 && notes[stone] != (count == oath ? 1 : 0)) {
            return;
        }
        if (stone == stones - 1) {
            all.add(reading.clone());
            return;
        }
        for (int by = 0; by < oath; by++) {
            int cost = by == 0 ? 0 : slipCost(stone + 1);
            reading[0] += cost;
            reading[stone + 2] = by;
            extend(all, reading, (count + by) % oath + 1, stone + 1);
            reading[stone + 2] = 0;
            reading[0] -= cost;
        }
    }

    boolean saysHollow(int[] reading, int stone) {
        int all = reading[1] - 1 + stone;
        for (int s = 1; s <= stone; s++) {
            all += reading[s + 1];
        }
        return all % oath == oath - 1;
    }

    /** The fewest KNOCKS that tell READINGS apart. */
    int knocksFor(List<int[]> readings) {
        int fewest = -1;
        for (int s = 0; s < stones; s++) {
            int needed = knocksWith(readings, s);
            if (needed >= 0 && (fewest < 0 || needed < fewest)) {
                fewest = needed;
            }
        }
        return Math.max(fewest, 0);
    }

    /** -1: the STONE does not part them. */
    int knocksWith(List<int[]> readings, int stone) {
        List<int[]> hollow = new ArrayList<>();
        List<int[]> full = new ArrayList<>();
        for (int[] reading : readings) {
            (saysHollow(reading, stone) ? hollow : full).add(reading);
        }
        if (hollow.isEmpty() || full.isEmpty()) {
            return -1;
        }
        return 1 + Math.max(knocksFor(hollow), knocksFor(full));
    }
}
