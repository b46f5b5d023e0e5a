import java.util.ArrayList;
import java.util.List;

/** A second reckoning of a stair, written from the document's words alone. */
final class StairOracle {
    int height;
    int width;
    int walk;
    int post;
    boolean bull;
    int[] treads;
    int[] lengths;
    int[] turns;
    List<int[]> beams = new ArrayList<>();

    StairOracle copy() {
        StairOracle copy = new StairOracle();
        copy.height = height;
        copy.width = width;
        copy.walk = walk;
        copy.post = post;
        copy.bull = bull;
        copy.treads = treads.clone();
        copy.lengths = lengths.clone();
        copy.turns = turns.clone();
        copy.beams = new ArrayList<>(beams);
        return copy;
    }

    /** Tells a shop this stair. */
    void tellTo(StairShop shop) {
        shop.measures(height, width, walk, post);
        shop.path(treads.length);
        // the greatest one first, so that there is always a TREAD in some FLIGHT
        for (int round = 0; round < 2; round++) {
            for (int i = 0; i < treads.length; i++) {
                if (treads[i] > 0 == (round == 0)) {
                    shop.flight(i, treads[i], lengths[i]);
                }
            }
        }
        for (int i = 0; i < turns.length; i++) {
            shop.turn(i, turns[i]);
        }
        shop.first(bull ? 1 : 0);
        for (int[] beam : beams) {
            shop.beam(beam[0], beam[1], beam[2]);
        }
    }

    static int[] part(int total, int n) {
        int[] parts = new int[n];
        for (int i = 0; i < total; i++) {
            if (n > 0) {
                parts[i % n]++;
            }
        }
        return parts;
    }

    /** Of each TREAD what tread() answers, in its order. */
    List<int[]> lay() {
        List<int[]> rows = new ArrayList<>();
        for (int f = 0; f < treads.length; f++) {
            for (int going : part(lengths[f], treads[f])) {
                boolean first = bull && rows.isEmpty() && f == 0;
                rows.add(new int[] {first ? 1 : 0, 0, 0, first ? going + 30 : going, going, 0, 0, f, -1});
            }
            if (f < turns.length && turns[f] == 0) {
                rows.add(new int[] {2, 0, 0, width, width, 0, 0, -1, f});
            }
            for (int j = 0; f < turns.length && turns[f] == 1 && j < 3; j++) {
                rows.add(new int[] {3, 0, 0, part(walk * 11 / 7, 3)[j], part(post * 11 / 7, 3)[j], 0, 0, -1, f});
            }
        }
        int[] risers = part(height, rows.size() + 1);
        for (int k = 0; k < rows.size(); k++) {
            int[] row = rows.get(k);
            row[1] = risers[k];
            row[2] = risers[k] + (k == 0 ? 0 : rows.get(k - 1)[2]);
            row[5] = k == 0 ? 0 : rows.get(k - 1)[5] + rows.get(k - 1)[3];
            row[6] = head(row);
        }
        return rows;
    }

    private int head(int[] row) {
        int head = 9999;
        for (int[] beam : beams) {
            for (int at = row[5]; at < row[5] + row[3]; at++) {
                if (beam[0] <= at && at < beam[1]) {
                    head = Math.min(head, beam[2] - row[2]);
                }
            }
        }
        return head;
    }

    int cost(int[] prices) {
        List<int[]> rows = lay();
        int sum = prices[4] * (rows.size() + 1);
        for (int[] row : rows) {
            sum += prices[row[0]];
        }
        return sum;
    }
}
