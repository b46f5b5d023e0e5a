import java.util.ArrayList;
import java.util.HashMap;
import java.util.List;
import java.util.Map;

/** A second reckoning of a whole shop: what each call is due to answer, with all that the calls ahead of it left. */
final class ShopOracle {
    /** Stands for a NoSuchElementException. */
    static final int THROWS = Integer.MIN_VALUE;

    /** What acts change. */
    private static final class State {
        StairOracle stair = new StairOracle();
        List<LawOracle> laws = new ArrayList<>();
        int[] prices = {50, 80, 200, 120, 20};

        State copy() {
            State copy = new State();
            copy.stair = stair.copy();
            copy.laws = new ArrayList<>(laws);
            copy.prices = prices.clone();
            return copy;
        }
    }

    /** Every text that may become a law, without its blanks at the end. */
    private final Map<String, LawOracle> known = new HashMap<>();
    private final List<State> past = new ArrayList<>();
    private final List<Integer> pieces = new ArrayList<>();
    private final List<Integer> sheet = new ArrayList<>();
    private State now = new State();
    private BestOracle best = null;
    private String tape = "";
    private int trouble = 0;
    private int fault = 0;
    private int place = -1;

    ShopOracle() {
        now.stair.height = 2600;
        now.stair.width = 900;
        now.stair.walk = 400;
        now.stair.post = 60;
        now.stair.treads = new int[] {12};
        now.stair.lengths = new int[] {2640};
        now.stair.turns = new int[0];
    }

    void learn(LawOracle law) {
        known.put(law.text, law);
    }

    /** Whether it is known what the first n bytes of the tape mean. */
    boolean canRead(int n) {
        if (n < 0 || n > tape.length()) {
            return true;
        }
        String text = tape.substring(0, n);
        return new TextOracle(text).fault != 0 || known.containsKey(text.stripTrailing());
    }

    int fed() {
        return tape.length();
    }

    int answer(String call, int... n) {
        switch (call) {
            case "measures": case "path": case "flight": case "turn": case "first": case "price": case "take":
                return change(call, n);
            case "beam": case "law": case "repeal": case "clear": case "undo": case "feed":
                return addOrDrop(call, n);
            case "size": case "tread": case "riser": case "string":
                return look(call, n);
            case "fault": case "may": case "broken": case "about":
                return laws(call, n);
            case "best": case "bestOf": case "tried":
                return best(call, n);
            case "piece": case "sweep": case "boards":
                return boards(call, n);
            case "trouble":
                return trouble;
            case "where":
                return trouble == 2 ? place : -1;
            default:
                return sheet(call, n);
        }
    }

    private static boolean in(int v, int least, int greatest) {
        return least <= v && v <= greatest;
    }

    private int refuse(int why, int answer) {
        trouble = why;
        return answer;
    }

    private int accept(int answer) {
        trouble = 0;
        return answer;
    }

    private void keep(State state) {
        past.add(now);
        now = state;
        if (past.size() > 40) {
            past.remove(0);
        }
    }

    /** Acts that answer whether they are done: made on a copy, which is kept if nothing refused it. */
    private int change(String call, int[] n) {
        State next = now.copy();
        int why = change(next, call, n);
        if (why == 0) {
            keep(next);
        }
        return refuse(why, why == 0 ? 1 : 0);
    }

    private int change(State next, String call, int[] n) {
        StairOracle stair = next.stair;
        int flights = stair.treads.length;
        switch (call) {
            case "measures":
                stair.height = n[0];
                stair.width = n[1];
                stair.walk = n[2];
                stair.post = n[3];
                return in(n[0], 500, 6000) && in(n[1], 500, 1500) && in(n[2], 200, 500) && in(n[3], 20, 150) ? 0 : 1;
            case "path":
                return path(stair, n[0]);
            case "flight":
                return in(n[0], 0, flights - 1) ? flight(stair, n) : 4;
            case "turn":
                if (in(n[0], 0, flights - 2)) {
                    stair.turns[n[0]] = n[1];
                }
                return !in(n[0], 0, flights - 2) ? 4 : in(n[1], 0, 1) ? 0 : 1;
            case "first":
                stair.bull = n[0] == 1;
                return in(n[0], 0, 1) ? 0 : 1;
            case "price":
                if (in(n[0], 0, 4)) {
                    next.prices[n[0]] = n[1];
                }
                return in(n[0], 0, 4) && in(n[1], 0, 10000) ? 0 : 1;
            default:
                return take(stair);
        }
    }

    private static int path(StairOracle stair, int flights) {
        if (!in(flights, 1, 3)) {
            return 1;
        }
        stair.treads = new int[flights];
        stair.lengths = new int[flights];
        stair.turns = new int[flights - 1];
        for (int f = 0; f < flights; f++) {
            stair.treads[f] = 4;
            stair.lengths[f] = 1000;
        }
        return 0;
    }

    private static int flight(StairOracle stair, int[] n) {
        stair.treads[n[0]] = n[1];
        stair.lengths[n[0]] = n[2];
        boolean some = false;
        for (int treads : stair.treads) {
            some |= treads > 0;
        }
        return some && in(n[1], 0, 20) && in(n[2], 0, 6000) ? 0 : 1;
    }

    private int take(StairOracle stair) {
        if (best == null || best.kept == 0 || best.flights != stair.treads.length) {
            return 5;
        }
        System.arraycopy(best.told, 1, stair.treads, 0, stair.treads.length);
        return 0;
    }

    private int addOrDrop(String call, int[] n) {
        State next = now.copy();
        switch (call) {
            case "beam":
                if (!in(n[0], 0, 20000) || n[1] <= n[0] || !in(n[2], 0, 9000)) {
                    return refuse(1, -1);
                }
                if (now.stair.beams.size() == 8) {
                    return refuse(3, -1);
                }
                next.stair.beams.add(n);
                keep(next);
                return accept(now.stair.beams.size());
            case "clear":
                int were = now.stair.beams.size();
                next.stair.beams.clear();
                if (were > 0) {
                    keep(next);
                }
                return were;
            case "repeal":
                if (now.laws.isEmpty()) {
                    return refuse(4, 0);
                }
                next.laws.remove(next.laws.size() - 1);
                keep(next);
                return accept(1);
            case "undo":
                boolean any = !past.isEmpty();
                now = any ? past.remove(past.size() - 1) : now;
                return any ? 1 : 0;
            case "feed":
                return feed(n);
            default:
                return law(next, n[0]);
        }
    }

    private int feed(int[] n) {
        if (tape.length() > 100) {
            return -1;
        }
        for (int word : n) {
            tape += "" + (char) (word >>> 24) + (char) (word >>> 16 & 255) + (char) (word >>> 8 & 255)
                    + (char) (word & 255);
        }
        return tape.length();
    }

    private int law(State next, int n) {
        if (!in(n, 0, tape.length())) {
            return refuse(1, -1);
        }
        String text = tape.substring(0, n);
        TextOracle read = new TextOracle(text);
        tape = "";
        fault = read.fault;
        place = read.place;
        if (fault != 0) {
            return refuse(2, -1);
        }
        if (now.laws.size() == 8) {
            return refuse(3, -1);
        }
        next.laws.add(known.get(text.stripTrailing()));
        keep(next);
        return accept(now.laws.size() - 1);
    }

    private int look(String call, int[] n) {
        List<int[]> rows = now.stair.lay();
        switch (call) {
            case "tread":
                return in(n[0], 0, rows.size() - 1) && in(n[1], 0, 8) ? rows.get(n[0])[n[1]] : -10000;
            case "riser":
                int[] risers = StairOracle.part(now.stair.height, rows.size() + 1);
                return in(n[0], 0, rows.size()) ? risers[n[0]] : -1;
            case "string":
                return in(n[0], 0, now.stair.treads.length - 1) ? accept(string(rows, n[0])) : refuse(4, -1);
            default:
                return size(rows, n[0]);
        }
    }

    private int string(List<int[]> rows, int flight) {
        long rise = 0;
        for (int[] row : rows) {
            rise += row[7] == flight ? row[1] : 0;
        }
        long length = now.stair.lengths[flight];
        long square = 100 * (length * length + rise * rise);
        long root = (long) Math.sqrt(square) + 2;
        while (root * root > square) {
            root--;
        }
        return (int) root;
    }

    private int size(List<int[]> rows, int what) {
        StairOracle stair = now.stair;
        int[] last = rows.get(rows.size() - 1);
        int[] sizes = {stair.height, stair.width, stair.walk, stair.post, stair.treads.length, rows.size(),
            now.laws.size(), stair.beams.size(), stair.cost(now.prices), last[5] + last[3], past.size(), pieces.size()};
        return in(what, 0, sizes.length - 1) ? sizes[what] : -1;
    }

    private int laws(String call, int[] n) {
        if (call.equals("fault")) {
            return fault;
        }
        if (call.equals("may")) {
            return BestOracle.firstBroken(now.stair, now.laws);
        }
        if (!in(n[0], 0, now.laws.size() - 1)) {
            return refuse(4, -1);
        }
        if (!in(n[1], 0, 3)) {
            return refuse(1, -1);
        }
        LawOracle law = now.laws.get(n[0]);
        int[] about = {law.some ? 1 : 0, law.rels, law.parts, law.primed ? 1 : 0};
        return accept(call.equals("about") ? about[n[1]] : law.verdict(now.stair, now.stair.lay())[n[1]]);
    }

    private int best(String call, int[] n) {
        if (call.equals("best")) {
            if (!(2 <= n[0] && n[0] <= n[1] && n[1] <= 67)) {
                return refuse(1, -1);
            }
            best = new BestOracle(now.stair, now.laws, now.prices, n[0], n[1]);
            return accept(best.cost);
        }
        if (best == null) {
            return -1;
        }
        int tried = best.broken.size();
        if (call.equals("tried")) {
            return in(n[0], 0, Math.min(tried, 200) - 1) ? best.broken.get(n[0]) : -1;
        }
        return in(n[0], 1, 4) ? best.told[n[0] - 1] : n[0] == 0 ? tried : n[0] == 5 ? best.kept : -1;
    }

    private int boards(String call, int[] n) {
        int were = pieces.size();
        if (call.equals("sweep")) {
            pieces.clear();
            return were;
        }
        if (!in(n[0], 1, 10000)) {
            return refuse(1, -1);
        }
        if (call.equals("piece")) {
            if (were == 12) {
                return refuse(3, -1);
            }
            pieces.add(n[0]);
            return accept(were + 1);
        }
        boolean longer = pieces.stream().anyMatch(piece -> piece > n[0]);
        return accept(longer ? -2 : BoardOracle.fewest(pieces.stream().mapToInt(p -> p).toArray(), n[0]));
    }

    private List<Integer> tell() {
        List<Integer> numbers = new ArrayList<>();
        for (int[] row : now.stair.lay()) {
            numbers.addAll(List.of(row[0], row[1], row[3], row[4]));
        }
        return numbers;
    }

    private int sheet(String call, int[] n) {
        switch (call) {
            case "tell":
                sheet.clear();
                sheet.addAll(tell());
                return sheet.size();
            case "told":
                return in(n[0], 0, sheet.size() - 1) ? sheet.get(n[0]) : THROWS;
            case "alter":
                if (!in(n[0], 0, sheet.size() - 1)) {
                    return refuse(4, 0);
                }
                sheet.set(n[0], sheet.get(n[0]) ^ n[1]);
                return accept(1);
            case "check":
                return sheet.isEmpty() ? refuse(5, -1) : accept(unlike(tell()));
            default:
                throw new IllegalArgumentException(call);
        }
    }

    private int unlike(List<Integer> numbers) {
        if (numbers.size() != sheet.size()) {
            return -3;
        }
        for (int k = 0; k < numbers.size(); k++) {
            if (!numbers.get(k).equals(sheet.get(k))) {
                return k;
            }
        }
        return -2;
    }
}
