import java.util.ArrayList;
import java.util.List;
import java.util.Random;

/** A law made by chance, its text, and a second reckoning of how a stair breaks it. */
final class LawOracle {
    private static final String[] NAMES = {"riser", "going", "narrow", "head", "wide", "count", "number", "kind"};
    final boolean some;
    boolean primed = false;
    int parts = 0;
    int rels;
    String text;
    /** For each REL left PARTS, right PARTS and, as 1 or 0, whether it is >= ; a PART is sign, number, name, next. */
    private final List<List<int[]>> left = new ArrayList<>();
    private final List<List<int[]>> right = new ArrayList<>();
    private final List<Boolean> atLeast = new ArrayList<>();

    LawOracle(Random random) {
        some = random.nextInt(3) == 0;
        rels = 1 + random.nextInt(3);
        StringBuilder words = new StringBuilder(some ? "some " : "all ");
        for (int r = 0; r < rels; r++) {
            words.append(r == 0 ? "" : " and ");
            left.add(sum(random, words, 1 + random.nextInt(2)));
            atLeast.add(random.nextBoolean());
            words.append(atLeast.get(r) ? ">=" : "<=");
            List<int[]> other = sum(random, words, 1);
            other.add(new int[] {1, random.nextInt(1000), -1, 0});
            words.append('+').append(other.get(1)[1]);
            parts++;
            right.add(other);
        }
        text = words.toString();
    }

    private List<int[]> sum(Random random, StringBuilder words, int count) {
        List<int[]> sum = new ArrayList<>();
        for (int i = 0; i < count; i++) {
            int sign = i > 0 && random.nextBoolean() ? -1 : 1;
            int weight = random.nextInt(4) == 0 ? random.nextInt(6) : 1;
            int name = random.nextInt(NAMES.length);
            int next = random.nextInt(6) == 0 ? 1 : 0;
            words.append(i == 0 ? "" : sign > 0 ? "+" : "-").append(weight == 1 ? "" : weight + "*");
            words.append(NAMES[name]).append(next == 1 ? "'" : "");
            primed |= next == 1;
            parts++;
            sum.add(new int[] {sign, weight, name, next});
        }
        return sum;
    }

    private static int value(StairOracle stair, List<int[]> rows, int k, int name) {
        int[] row = rows.get(k);
        switch (name) {
            case 0: return row[1];
            case 1: return row[3];
            case 2: return row[4];
            case 3: return row[6];
            case 4: return stair.width;
            case 5: return rows.size() + 1;
            case 6: return k + 1;
            default: return row[0];
        }
    }

    private static int total(StairOracle stair, List<int[]> rows, int k, List<int[]> sum) {
        int total = 0;
        for (int[] part : sum) {
            total += part[0] * part[1] * (part[2] < 0 ? 1 : value(stair, rows, k + part[3], part[2]));
        }
        return total;
    }

    /** The first REL that doesn't hold and by how much, or null. */
    private int[] fails(StairOracle stair, List<int[]> rows, int k) {
        for (int r = 0; r < rels; r++) {
            int more = total(stair, rows, k, left.get(r)) - total(stair, rows, k, right.get(r));
            int by = atLeast.get(r) ? -more : more;
            if (by > 0) {
                return new int[] {r, by};
            }
        }
        return null;
    }

    /** What broken() answers for 0 to 3. */
    int[] verdict(StairOracle stair, List<int[]> rows) {
        int asked = primed ? rows.size() - 1 : rows.size();
        int[] kept = {0, -1, -1, 0};
        for (int k = 0; k < asked; k++) {
            int[] fail = fails(stair, rows, k);
            if (some && fail == null) {
                return kept;
            }
            if (!some && fail != null) {
                return new int[] {1, k, fail[0], fail[1]};
            }
        }
        if (!some) {
            return kept;
        }
        int[] first = asked == 0 ? new int[] {0, 1} : fails(stair, rows, 0);
        return new int[] {1, 0, first[0], first[1]};
    }
}
