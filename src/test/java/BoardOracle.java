import java.util.Arrays;

/** A second reckoning of boards: one more, until the pieces fit in some way. */
final class BoardOracle {
    private BoardOracle() {
    }

    /** Of pieces none of which is longer. */
    static int fewest(int[] pieces, int length) {
        int[] sorted = pieces.clone();
        Arrays.sort(sorted);
        int fewest = 0;
        int[] rooms = new int[0];
        while (!fits(sorted, sorted.length - 1, rooms)) {
            fewest++;
            rooms = new int[fewest];
            Arrays.fill(rooms, length);
        }
        return fewest;
    }

    private static boolean fits(int[] pieces, int at, int[] rooms) {
        if (at < 0) {
            return true;
        }
        for (int b = 0; b < rooms.length; b++) {
            boolean same = b > 0 && rooms[b] == rooms[b - 1];
            if (!same && rooms[b] >= pieces[at]) {
                rooms[b] -= pieces[at];
                boolean all = fits(pieces, at - 1, rooms);
                rooms[b] += pieces[at];
                if (all) {
                    return true;
                }
            }
        }
        return false;
    }
}
