import java.util.ArrayList;
import java.util.Arrays;
import java.util.List;

/** A second reckoning of the best: all ways made first, then put in order, then tried. */
final class BestOracle {
    /** Of each way the LAW that it breaks first, or -2. */
    final List<Integer> broken = new ArrayList<>();
    final int flights;
    int cost = -2;
    int kept = 0;
    /** RISERS and the FLIGHTS' TREADS of the way that is told, -1 for what there isn't. */
    int[] told = {-1, -1, -1, -1};

    BestOracle(StairOracle now, List<LawOracle> laws, int[] prices, int least, int greatest) {
        StairOracle stair = now.copy();
        flights = stair.treads.length;
        for (int[] way : ways(stair, least, greatest)) {
            stair.treads = Arrays.copyOfRange(way, 1, way.length);
            int first = firstBroken(stair, laws);
            broken.add(first);
            if (first == -2) {
                keep(way, stair.cost(prices));
            }
        }
    }

    private void keep(int[] way, int price) {
        kept++;
        if (kept == 1 || price < cost) {
            cost = price;
            Arrays.fill(told, -1);
            System.arraycopy(way, 0, told, 0, way.length);
        }
    }

    /** All ways of 1 to 20 TREADS for each FLIGHT, sorted by how many RISERS, then by the FLIGHTS' numbers. */
    private static List<int[]> ways(StairOracle stair, int least, int greatest) {
        int flights = stair.treads.length;
        int turns = 0;
        for (int kind : stair.turns) {
            turns += kind == 0 ? 1 : 3;
        }
        List<int[]> ways = new ArrayList<>();
        for (int a = 1; a <= 20; a++) {
            for (int b = 1; b <= (flights > 1 ? 20 : 1); b++) {
                for (int c = 1; c <= (flights > 2 ? 20 : 1); c++) {
                    int[] way = Arrays.copyOf(new int[] {a, b, c}, flights);
                    int risers = Arrays.stream(way).sum() + turns + 1;
                    if (risers >= least && risers <= greatest) {
                        ways.add(Arrays.copyOf(new int[] {risers, a, b, c}, flights + 1));
                    }
                }
            }
        }
        ways.sort(Arrays::compare);
        return ways.subList(0, Math.min(2000, ways.size()));
    }

    static int firstBroken(StairOracle stair, List<LawOracle> laws) {
        List<int[]> rows = laws.isEmpty() ? null : stair.lay();
        for (int i = 0; i < laws.size(); i++) {
            if (laws.get(i).verdict(stair, rows)[0] == 1) {
                return i;
            }
        }
        return -2;
    }
}
