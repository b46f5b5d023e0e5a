import java.util.Arrays;
import java.util.NoSuchElementException;

/** A shop where stairs are set out, judged by laws, priced, cut and checked. */
public final class StairShop {
    public static final int NONE = -1;

    /** No LAW is broken, no way keeps them, no board is long enough, nothing differs: all told as this. */
    private static final int NOTHING = -2;
    private static final int NOT_AS_MANY = -3;
    private static final int NO_TREAD = -10000;

    private static final int BY_NUMBER = 1;
    private static final int BY_FAULT = 2;
    private static final int NO_ROOM = 3;
    private static final int NONE_SUCH = 4;
    private static final int UNTOLD = 5;

    private static final int MOST_FLIGHTS = 3;
    private static final int MOST_IN_FLIGHT = 20;
    private static final int MOST_TREADS = 66;
    private static final int MOST_LENGTH = 6000;
    private static final int MOST_BEAMS = 8;
    private static final int MOST_LAWS = 8;
    private static final int PRICES = 5;

    /** What THE SHEET tells of each TREAD. */
    private static final int SHEET_WIDTH = 4;
    private static final int[] SHEET_ROWS = {Rows.KIND, Rows.RISER, Rows.GOING, Rows.NARROW};

    private final Plan plan = new Plan();
    private final Past past = new Past();
    private final Rows rows = new Rows();
    private final Verdict verdict = new Verdict();
    private final Reader reader = new Reader();
    private final Search search = new Search();
    private final Bench bench = new Bench();
    private final int[] sheet = new int[MOST_TREADS * SHEET_WIDTH];
    private int sheetLength = 0;
    private int trouble = 0;
    /** The rows are laid out when they are first asked for behind an act. */
    private boolean stale = true;

    public StairShop() {
    }

    // ---- the stair

    public boolean measures(int height, int width, int walk, int post) {
        if (!within(height, 500, 6000) || !within(width, 500, 1500)
                || !within(walk, 200, 500) || !within(post, 20, 150)) {
            return deny(BY_NUMBER);
        }
        beginAct();
        plan.height = height;
        plan.width = width;
        plan.walk = walk;
        plan.post = post;
        return true;
    }

    public boolean path(int flights) {
        if (!within(flights, 1, MOST_FLIGHTS)) {
            return deny(BY_NUMBER);
        }
        beginAct();
        plan.flights = flights;
        Arrays.fill(plan.treads, 4);
        Arrays.fill(plan.lengths, 1000);
        Arrays.fill(plan.turns, 0);
        return true;
    }

    public boolean flight(int i, int treads, int length) {
        if (!within(i, 0, plan.flights - 1)) {
            return deny(NONE_SUCH);
        }
        if (!within(treads, 0, MOST_IN_FLIGHT) || !within(length, 0, MOST_LENGTH)
                || plan.flightTreads() - plan.treads[i] + treads == 0) {
            return deny(BY_NUMBER);
        }
        beginAct();
        plan.treads[i] = treads;
        plan.lengths[i] = length;
        return true;
    }

    public boolean turn(int i, int kind) {
        if (!within(i, 0, plan.flights - 2)) {
            return deny(NONE_SUCH);
        }
        if (!within(kind, 0, 1)) {
            return deny(BY_NUMBER);
        }
        beginAct();
        plan.turns[i] = kind;
        return true;
    }

    public boolean first(int kind) {
        if (!within(kind, 0, 1)) {
            return deny(BY_NUMBER);
        }
        beginAct();
        plan.first = kind;
        return true;
    }

    public int size(int what) {
        switch (what) {
            case 0: return plan.height;
            case 1: return plan.width;
            case 2: return plan.walk;
            case 3: return plan.post;
            case 4: return plan.flights;
            case 5: return laidRows().count;
            case 6: return plan.laws;
            case 7: return plan.beams;
            case 8: return laidRows().cost(plan);
            case 9: return laidRows().reach;
            case 10: return past.kept;
            case 11: return bench.count;
            default: return NONE;
        }
    }

    public int tread(int k, int what) {
        Rows laid = laidRows();
        if (!within(k, 0, laid.count - 1) || !within(what, 0, Rows.LAST_ASKED)) {
            return NO_TREAD;
        }
        return laid.row[what][k];
    }

    public int riser(int k) {
        int treads = laidRows().count;
        return within(k, 0, treads) ? share(plan.height, treads + 1, k) : NONE;
    }

    public int beam(int from, int to, int under) {
        if (!within(from, 0, 20000) || to <= from || !within(under, 0, 9000)) {
            return refuse(BY_NUMBER);
        }
        if (plan.beams >= MOST_BEAMS) {
            return refuse(NO_ROOM);
        }
        beginAct();
        plan.from[plan.beams] = from;
        plan.to[plan.beams] = to;
        plan.under[plan.beams] = under;
        plan.beams++;
        return plan.beams;
    }

    public int clear() {
        int were = plan.beams;
        if (were > 0) {
            keepAct();
            plan.beams = 0;
        }
        return were;
    }

    // ---- laws

    public int feed(int a, int b, int c, int d, int e) {
        if (!reader.hasRoom()) {
            return NONE;
        }
        reader.push(a);
        reader.push(b);
        reader.push(c);
        reader.push(d);
        reader.push(e);
        return reader.fed;
    }

    public int law(int n) {
        if (!within(n, 0, reader.fed)) {
            return refuse(BY_NUMBER);
        }
        Law read = reader.read(n);
        if (read == null) {
            return refuse(BY_FAULT);
        }
        if (plan.laws >= MOST_LAWS) {
            return refuse(NO_ROOM);
        }
        beginAct();
        plan.law[plan.laws] = read;
        plan.laws++;
        return plan.laws - 1;
    }

    public int fault() {
        return reader.fault;
    }

    public boolean repeal() {
        if (plan.laws <= 0) {
            return deny(NONE_SUCH);
        }
        beginAct();
        plan.laws--;
        plan.law[plan.laws] = null;
        return true;
    }

    public int may() {
        return verdict.firstBroken(plan, laidRows());
    }

    public int broken(int i, int what) {
        Law asked = askedLaw(i, what);
        if (asked == null) {
            return NONE;
        }
        verdict.judge(asked, laidRows());
        switch (what) {
            case 0: return verdict.broken ? 1 : 0;
            case 1: return verdict.tread;
            case 2: return verdict.rel;
            default: return verdict.by;
        }
    }

    public int about(int i, int what) {
        Law asked = askedLaw(i, what);
        if (asked == null) {
            return NONE;
        }
        switch (what) {
            case 0: return asked.some ? 1 : 0;
            case 1: return asked.ends.length;
            case 2: return asked.weights.length;
            default: return asked.primed ? 1 : 0;
        }
    }

    // ---- prices, the best

    public boolean price(int kind, int v) {
        if (!within(kind, 0, PRICES - 1) || !within(v, 0, 10000)) {
            return deny(BY_NUMBER);
        }
        beginAct();
        plan.prices[kind] = v;
        return true;
    }

    public int best(int least, int greatest) {
        if (least < 2 || greatest < least || greatest > MOST_TREADS + 1) {
            return refuse(BY_NUMBER);
        }
        trouble = 0;
        search.seek(plan, least, greatest);
        return search.kept > 0 ? search.cost : NOTHING;
    }

    public int bestOf(int what) {
        if (!search.done) {
            return NONE;
        }
        switch (what) {
            case 0: return search.tried;
            case 1: return search.kept > 0 ? search.risers : NONE;
            case 2: return search.toldTreads(0);
            case 3: return search.toldTreads(1);
            case 4: return search.toldTreads(2);
            case 5: return search.kept;
            default: return NONE;
        }
    }

    public boolean take() {
        if (search.kept <= 0 || search.flights != plan.flights) {
            return deny(UNTOLD);
        }
        beginAct();
        for (int f = 0; f < plan.flights; f++) {
            plan.treads[f] = search.treads[f];
        }
        return true;
    }

    public int tried(int i) {
        boolean told = within(i, 0, search.tried - 1) && i < search.breaks.length;
        return told ? search.breaks[i] : NONE;
    }

    // ---- strings, boards

    public int string(int i) {
        if (!within(i, 0, plan.flights - 1)) {
            return refuse(NONE_SUCH);
        }
        trouble = 0;
        long length = plan.lengths[i];
        long rise = laidRows().riseOf(i);
        return rootOf(100 * (length * length + rise * rise));
    }

    public int piece(int length) {
        if (!within(length, 1, 10000)) {
            return refuse(BY_NUMBER);
        }
        if (bench.count >= Bench.MOST) {
            return refuse(NO_ROOM);
        }
        trouble = 0;
        bench.pieces[bench.count] = length;
        bench.count++;
        return bench.count;
    }

    public int sweep() {
        int were = bench.count;
        bench.count = 0;
        return were;
    }

    public int boards(int length) {
        if (!within(length, 1, 10000)) {
            return refuse(BY_NUMBER);
        }
        trouble = 0;
        return bench.longest() > length ? NOTHING : bench.fewest(length);
    }

    // ---- what is told

    public int tell() {
        sheetLength = laidRows().count * SHEET_WIDTH;
        for (int k = 0; k < sheetLength; k++) {
            sheet[k] = sheetNumber(k);
        }
        return sheetLength;
    }

    public int told(int k) throws NoSuchElementException {
        if (!within(k, 0, sheetLength - 1)) {
            throw new NoSuchElementException("no such number on the sheet");
        }
        return sheet[k];
    }

    public boolean alter(int k, int mask) {
        if (!within(k, 0, sheetLength - 1)) {
            return deny(NONE_SUCH);
        }
        trouble = 0;
        sheet[k] ^= mask;
        return true;
    }

    public int check() {
        if (sheetLength == 0) {
            return refuse(UNTOLD);
        }
        trouble = 0;
        if (laidRows().count * SHEET_WIDTH != sheetLength) {
            return NOT_AS_MANY;
        }
        for (int k = 0; k < sheetLength; k++) {
            if (sheet[k] != sheetNumber(k)) {
                return k;
            }
        }
        return NOTHING;
    }

    public int undo() {
        if (!past.takeBack(plan)) {
            return 0;
        }
        stale = true;
        return 1;
    }

    public int trouble() {
        return trouble;
    }

    public int where() {
        return trouble == BY_FAULT ? reader.place : NONE;
    }

    // ---- what several calls share

    private int refuse(int why) {
        trouble = why;
        return NONE;
    }

    private boolean deny(int why) {
        trouble = why;
        return false;
    }

    /** LAW i of which one of four things is asked, or null with the trouble. */
    private Law askedLaw(int i, int what) {
        Law asked = plan.lawAt(i);
        if (asked == null) {
            trouble = NONE_SUCH;
            return null;
        }
        trouble = within(what, 0, 3) ? 0 : BY_NUMBER;
        return trouble == 0 ? asked : null;
    }

    /** An act that may be refused is accepted: the stair ahead of it is kept for undo. */
    private void beginAct() {
        trouble = 0;
        keepAct();
    }

    private void keepAct() {
        past.keep(plan);
        stale = true;
    }

    private Rows laidRows() {
        if (stale) {
            rows.lay(plan);
            stale = false;
        }
        return rows;
    }

    /** Only asked of numbers that the stair as it is has. */
    private int sheetNumber(int k) {
        return rows.row[SHEET_ROWS[k % SHEET_WIDTH]][k / SHEET_WIDTH];
    }

    private static boolean within(int v, int least, int greatest) {
        return v >= least && v <= greatest;
    }

    /** What number k gets of a total parted by n. */
    private static int share(int total, int n, int k) {
        if (n <= 0) {
            return 0;
        }
        return total / n + (k < total % n ? 1 : 0);
    }

    /** The root downwards, of squares below 2 to the 34th. */
    private static int rootOf(long square) {
        long root = 0;
        for (long bit = 1 << 16; bit > 0; bit >>= 1) {
            long more = root + bit;
            if (more * more <= square) {
                root = more;
            }
        }
        return (int) root;
    }

    /** All that acts change, so that an act is taken back by copying the Plan that was ahead of it. */
    private static final class Plan {
        static final int LANDING = 0;

        int height = 2600;
        int width = 900;
        int walk = 400;
        int post = 60;
        int flights = 1;
        int first = 0;
        int beams = 0;
        int laws = 0;
        final int[] treads = new int[MOST_FLIGHTS];
        final int[] lengths = new int[MOST_FLIGHTS];
        final int[] turns = new int[MOST_FLIGHTS - 1];
        final int[] from = new int[MOST_BEAMS];
        final int[] to = new int[MOST_BEAMS];
        final int[] under = new int[MOST_BEAMS];
        final int[] prices = {50, 80, 200, 120, 20};
        final Law[] law = new Law[MOST_LAWS];

        Plan() {
            treads[0] = 12;
            lengths[0] = 2640;
        }

        void copy(Plan other) {
            height = other.height;
            width = other.width;
            walk = other.walk;
            post = other.post;
            flights = other.flights;
            first = other.first;
            beams = other.beams;
            laws = other.laws;
            System.arraycopy(other.treads, 0, treads, 0, MOST_FLIGHTS);
            System.arraycopy(other.lengths, 0, lengths, 0, MOST_FLIGHTS);
            System.arraycopy(other.turns, 0, turns, 0, MOST_FLIGHTS - 1);
            System.arraycopy(other.from, 0, from, 0, MOST_BEAMS);
            System.arraycopy(other.to, 0, to, 0, MOST_BEAMS);
            System.arraycopy(other.under, 0, under, 0, MOST_BEAMS);
            System.arraycopy(other.prices, 0, prices, 0, PRICES);
            for (int i = 0; i < MOST_LAWS; i++) {
                law[i] = other.law[i];
            }
        }

        Law lawAt(int i) {
            return within(i, 0, laws - 1) ? law[i] : null;
        }

        int flightTreads() {
            int sum = 0;
            for (int f = 0; f < flights; f++) {
                sum += treads[f];
            }
            return sum;
        }

        int turnTreads() {
            int sum = 0;
            for (int t = 0; t < flights - 1; t++) {
                sum += turns[t] == LANDING ? 1 : Rows.WINDERS;
            }
            return sum;
        }
    }

    /** The Plans ahead of the latest acts, in a ring. */
    private static final class Past {
        static final int MOST = 40;

        final Plan[] ring = new Plan[MOST];
        int next = 0;
        int kept = 0;

        Past() {
            for (int i = 0; i < MOST; i++) {
                ring[i] = new Plan();
            }
        }

        void keep(Plan plan) {
            ring[next].copy(plan);
            next = (next + 1) % MOST;
            kept = Math.min(kept + 1, MOST);
        }

        boolean takeBack(Plan plan) {
            if (kept <= 0) {
                return false;
            }
            next = (next + MOST - 1) % MOST;
            kept--;
            plan.copy(ring[next]);
            return true;
        }
    }

    /** A stair laid out: for each thing that can be asked of a TREAD, or named in a LAW, a row of numbers. */
    private static final class Rows {
        static final int KIND = 0;
        static final int RISER = 1;
        static final int TOP = 2;
        static final int GOING = 3;
        static final int NARROW = 4;
        static final int AT = 5;
        static final int HEAD = 6;
        static final int FLIGHT = 7;
        static final int TURN = 8;
        static final int LAST_ASKED = TURN;
        static final int WIDE = 9;
        static final int COUNT = 10;
        static final int NUMBER = 11;
        /** Of each TREAD 1: so that a plain number in a LAW is a number times a name, too. */
        static final int ONE = 12;
        static final int ALL = 13;

        static final int KIND_TREAD = 0;
        static final int KIND_BULL = 1;
        static final int KIND_LANDING = 2;
        static final int KIND_WINDER = 3;
        static final int WINDERS = 3;
        static final int BULL_MORE = 30;
        static final int FREE_HEAD = 9999;

        final int[][] row = new int[ALL][MOST_TREADS];
        int count = 0;
        int risers = 1;
        int top = 0;
        int reach = 0;

        Rows() {
            Arrays.fill(row[ONE], 1);
            for (int k = 0; k < MOST_TREADS; k++) {
                row[NUMBER][k] = k + 1;
            }
        }

        void lay(Plan plan) {
            count = 0;
            top = 0;
            reach = 0;
            risers = plan.flightTreads() + plan.turnTreads() + 1;
            for (int f = 0; f < plan.flights; f++) {
                layFlight(plan, f);
                if (f < plan.flights - 1) {
                    layTurn(plan, f);
                }
            }
            for (int k = 0; k < count; k++) {
                row[HEAD][k] = head(plan, k);
            }
        }

        private void layFlight(Plan plan, int f) {
            int treads = plan.treads[f];
            for (int j = 0; j < treads; j++) {
                int narrow = share(plan.lengths[f], treads, j);
                boolean bull = f == 0 && j == 0 && plan.first == 1;
                put(FLIGHT, f);
                put(TURN, NONE);
                put(NARROW, narrow);
                put(KIND, bull ? KIND_BULL : KIND_TREAD);
                add(plan, bull ? narrow + BULL_MORE : narrow);
            }
        }

        private void layTurn(Plan plan, int t) {
            boolean landing = plan.turns[t] == Plan.LANDING;
            int treads = landing ? 1 : WINDERS;
            int walk = landing ? plan.width : plan.walk * 11 / 7;
            int post = landing ? plan.width : plan.post * 11 / 7;
            for (int j = 0; j < treads; j++) {
                put(FLIGHT, NONE);
                put(TURN, t);
                put(NARROW, share(post, treads, j));
                put(KIND, landing ? KIND_LANDING : KIND_WINDER);
                add(plan, share(walk, treads, j));
            }
        }

        /** Of the TREAD that is added next. */
        private void put(int what, int v) {
            if (count < MOST_TREADS) {
                row[what][count] = v;
            }
        }

        private void add(Plan plan, int going) {
            if (count >= MOST_TREADS) {
                return;
            }
            int riser = share(plan.height, risers, count);
            top += riser;
            row[RISER][count] = riser;
            row[TOP][count] = top;
            row[GOING][count] = going;
            row[AT][count] = reach;
            row[WIDE][count] = plan.width;
            row[COUNT][count] = risers;
            reach += going;
            count++;
        }

        private int head(Plan plan, int k) {
            int at = row[AT][k];
            int end = at + row[GOING][k];
            int head = FREE_HEAD;
            for (int b = 0; b < plan.beams; b++) {
                if (Math.max(at, plan.from[b]) < Math.min(end, plan.to[b])) {
                    head = Math.min(head, plan.under[b] - row[TOP][k]);
                }
            }
            return head;
        }

        int cost(Plan plan) {
            int sum = risers * plan.prices[PRICES - 1];
            for (int k = 0; k < count; k++) {
                sum += plan.prices[row[KIND][k]];
            }
            return sum;
        }

        int riseOf(int flight) {
            int rise = 0;
            for (int k = 0; k < count; k++) {
                if (row[FLIGHT][k] == flight) {
                    rise += row[RISER][k];
                }
            }
            return rise;
        }
    }

    /** What a LAW can name, and the row that has it. */
    private enum Name {
        RISER("riser", Rows.RISER),
        GOING("going", Rows.GOING),
        NARROW("narrow", Rows.NARROW),
        HEAD("head", Rows.HEAD),
        WIDE("wide", Rows.WIDE),
        COUNT("count", Rows.COUNT),
        NUMBER("number", Rows.NUMBER),
        KIND("kind", Rows.KIND);

        private static final Name[] ALL = values();

        final String word;
        final int row;

        Name(String word, int row) {
            this.word = word;
            this.row = row;
        }
    }

    /**
     * A LAW as it was read. Each PART is a weight times a number of this TREAD or of the next one (shift 1);
     * the weights' signs are such that a REL does not hold when its PARTS add up to more than 0.
     */
    private static final class Law {
        final boolean some;
        final boolean primed;
        /** For each REL, how many PARTS there are up to its end. */
        final int[] ends;
        final int[] weights;
        final int[] rows;
        final int[] shifts;

        Law(Reader reader) {
            some = reader.some;
            primed = reader.primed;
            ends = Arrays.copyOf(reader.ends, reader.rels);
            weights = Arrays.copyOf(reader.weights, reader.parts);
            rows = Arrays.copyOf(reader.rows, reader.parts);
            shifts = Arrays.copyOf(reader.shifts, reader.parts);
        }

        /** How many TREADS the LAW is asked of. */
        int asked(int treads) {
            return primed ? treads - 1 : treads;
        }

        /** The first REL that does not hold for TREAD k, or NONE. */
        int failing(Rows laid, int k) {
            for (int rel = 0; rel < ends.length; rel++) {
                if (excess(laid, k, rel) > 0) {
                    return rel;
                }
            }
            return NONE;
        }

        /** At most 16 PARTS below 10,000 times 10,000 each: an int holds it. */
        int excess(Rows laid, int k, int rel) {
            int sum = 0;
            for (int p = rel == 0 ? 0 : ends[rel - 1]; p < ends[rel]; p++) {
                sum += weights[p] * laid.row[rows[p]][k + shifts[p]];
            }
            return sum;
        }
    }

    /** Whether, where and by how much a stair breaks a LAW. */
    private static final class Verdict {
        boolean broken = false;
        int tread = NONE;
        int rel = NONE;
        int by = 0;

        int firstBroken(Plan plan, Rows laid) {
            for (int i = 0; i < plan.laws; i++) {
                Law law = plan.lawAt(i);
                if (law != null) {
                    judge(law, laid);
                    if (broken) {
                        return i;
                    }
                }
            }
            return NOTHING;
        }

        /** An all stands until a TREAD fails it, a some is broken until a TREAD keeps it. */
        void judge(Law law, Rows laid) {
            int asked = law.asked(laid.count);
            broken = law.some;
            int last = NONE;
            for (int k = 0; k < asked && broken == law.some; k++) {
                broken = law.failing(laid, k) != NONE;
                last = k;
            }
            tread = NONE;
            rel = NONE;
            by = 0;
            if (broken) {
                blame(law, laid, law.some ? 0 : last, asked);
            }
        }

        private void blame(Law law, Rows laid, int k, int asked) {
            tread = k;
            if (k < 0 || k >= asked) {
                rel = 0;
                by = 1;
                return;
            }
            rel = law.failing(laid, k);
            by = rel == NONE ? 0 : law.excess(laid, k, rel);
        }
    }

    /** THE TAPE, and the reading of a LAW from it, from the left up to the first FAULT. */
    private static final class Reader {
        static final int FORM = 1;
        static final int TOO_GREAT = 2;
        static final int LONG = 3;

        static final int MOST_BYTES = 120;
        static final int BYTES_A_FEED = 20;
        static final int MOST_RELS = 4;
        static final int MOST_SUM = 8;
        static final int MOST_PARTS = MOST_RELS * 2 * MOST_SUM;
        static final int MOST_NUMBER = 9999;
        static final int END = -1;

        final byte[] tape = new byte[MOST_BYTES];
        int fed = 0;
        int end = 0;
        int pos = 0;
        int fault = 0;
        int place = NONE;

        boolean some = false;
        boolean primed = false;
        int rels = 0;
        int parts = 0;
        final int[] ends = new int[MOST_RELS];
        final int[] weights = new int[MOST_PARTS];
        final int[] rows = new int[MOST_PARTS];
        final int[] shifts = new int[MOST_PARTS];

        boolean hasRoom() {
            return fed + BYTES_A_FEED <= MOST_BYTES;
        }

        void push(int word) {
            for (int shift = 24; shift >= 0; shift -= 8) {
                if (fed < MOST_BYTES) {
                    tape[fed] = (byte) (word >> shift);
                    fed++;
                }
            }
        }

        /** The LAW that the first n bytes are, or null; THE TAPE is empty then. */
        Law read(int n) {
            end = Math.min(n, fed);
            fed = 0;
            pos = 0;
            fault = 0;
            place = NONE;
            primed = false;
            rels = 0;
            parts = 0;
            readQuant();
            boolean more = fault == 0;
            for (int r = 0; r < MOST_RELS && more; r++) {
                readComparison();
                more = fault == 0 && readAnd();
            }
            return fault == 0 ? new Law(this) : null;
        }

        private void readQuant() {
            skipBlanks();
            int length = letters();
            some = stands("some", length);
            if (!some && !stands("all", length)) {
                fail(FORM, pos);
                return;
            }
            pos += length;
        }

        /** Whether a comparison more comes; the and behind the fourth one is a FAULT. */
        private boolean readAnd() {
            skipBlanks();
            if (peek() == END) {
                return false;
            }
            int length = letters();
            if (!stands("and", length)) {
                fail(FORM, pos);
                return false;
            }
            if (rels >= MOST_RELS) {
                fail(LONG, pos);
                return false;
            }
            pos += length;
            return true;
        }

        private void readComparison() {
            int start = parts;
            readSum(1);
            int rel = fault == 0 ? readRel() : 0;
            if (fault == 0) {
                readSum(-1);
            }
            if (fault != 0 || rels >= MOST_RELS) {
                return;
            }
            for (int p = start; p < parts; p++) {
                weights[p] *= rel;
            }
            ends[rels] = parts;
            rels++;
        }

        /** 1 for what is broken by more on the left, -1 for what is broken by less. */
        private int readRel() {
            int c = peek();
            if (c != '<' && c != '>') {
                fail(FORM, pos);
                return 0;
            }
            pos++;
            if (peek() != '=') {
                fail(FORM, pos);
                return 0;
            }
            pos++;
            return c == '<' ? 1 : -1;
        }

        private void readSum(int side) {
            int sign = side;
            boolean more = true;
            for (int inSum = 0; inSum <= MOST_SUM && more; inSum++) {
                readPart(sign, inSum);
                skipBlanks();
                int c = peek();
                more = fault == 0 && (c == '+' || c == '-');
                if (more) {
                    sign = c == '+' ? side : -side;
                    pos++;
                }
            }
        }

        /** Of one place the least FAULT: that a PART is one too many is looked at last. */
        private void readPart(int sign, int inSum) {
            skipBlanks();
            int start = pos;
            boolean number = isDigit(peek());
            int weight = number ? readNumber() : 1;
            Name name = number ? null : nameHere();
            if (weight > MOST_NUMBER) {
                fail(TOO_GREAT, start);
            } else if (!number && name == null) {
                fail(FORM, start);
            } else if (inSum >= MOST_SUM || parts >= MOST_PARTS) {
                fail(LONG, start);
            } else if (number && readTimes()) {
                name = nameHere();
                if (name == null) {
                    fail(FORM, pos);
                }
            }
            if (fault == 0) {
                keepPart(sign * weight, name);
            }
        }

        private boolean readTimes() {
            skipBlanks();
            if (peek() != '*') {
                return false;
            }
            pos++;
            skipBlanks();
            return true;
        }

        /** The name still stands here, perhaps with a ' behind it; a plain number has none. */
        private void keepPart(int weight, Name name) {
            weights[parts] = weight;
            rows[parts] = Rows.ONE;
            shifts[parts] = 0;
            if (name != null) {
                pos += name.word.length();
                rows[parts] = name.row;
                skipBlanks();
                if (peek() == '\'') {
                    pos++;
                    shifts[parts] = 1;
                    primed = true;
                }
            }
            parts++;
        }

        /** All digits that stand together; one above the greatest for whatever is above it. */
        private int readNumber() {
            int v = 0;
            for (; pos < end && isDigit(peek()); pos++) {
                v = Math.min(v * 10 + peek() - '0', MOST_NUMBER + 1);
            }
            return v;
        }

        private Name nameHere() {
            int length = letters();
            for (int i = 0; i < Name.ALL.length; i++) {
                if (stands(Name.ALL[i].word, length)) {
                    return Name.ALL[i];
                }
            }
            return null;
        }

        /** How many small letters stand together here. */
        private int letters() {
            int length = 0;
            for (int i = pos; i < end && tape[i] >= 'a' && tape[i] <= 'z'; i++) {
                length++;
            }
            return length;
        }

        /** Whether the letters that stand together here, so many, are the word. */
        private boolean stands(String word, int length) {
            if (word.length() != length || length > end - pos) {
                return false;
            }
            for (int i = 0; i < length; i++) {
                if (tape[pos + i] != word.charAt(i)) {
                    return false;
                }
            }
            return true;
        }

        private void skipBlanks() {
            while (pos < end && tape[pos] == ' ') {
                pos++;
            }
        }

        private int peek() {
            return pos < end ? tape[pos] & 255 : END;
        }

        private static boolean isDigit(int c) {
            return c >= '0' && c <= '9';
        }

        private void fail(int what, int at) {
            if (fault == 0) {
                fault = what;
                place = at;
            }
        }
    }

    /** BEST: all ways of parting the TREADS, and what the latest search of them told. */
    private static final class Search {
        static final int MOST_TRIED = 2000;
        static final int MOST_REMEMBERED = 200;

        final Plan trial = new Plan();
        final Rows rows = new Rows();
        final Verdict verdict = new Verdict();
        final int[] breaks = new int[MOST_REMEMBERED];
        final int[] treads = new int[MOST_FLIGHTS];
        boolean done = false;
        int flights = 0;
        int tried = 0;
        int kept = 0;
        int risers = 0;
        int cost = 0;

        void seek(Plan plan, int least, int greatest) {
            trial.copy(plan);
            done = true;
            flights = plan.flights;
            tried = 0;
            kept = 0;
            int turns = plan.turnTreads();
            for (int n = least; n <= greatest && tried < MOST_TRIED; n++) {
                int left = n - 1 - turns;
                for (int a = 1; a <= MOST_IN_FLIGHT; a++) {
                    for (int b = fewestIn(1); b <= mostIn(1); b++) {
                        tryWay(n, a, b, left - a - b);
                    }
                }
            }
        }

        private int fewestIn(int flight) {
            return flight < flights ? 1 : 0;
        }

        private int mostIn(int flight) {
            return flight < flights ? MOST_IN_FLIGHT : 0;
        }

        private void tryWay(int n, int a, int b, int c) {
            if (c < fewestIn(2) || c > mostIn(2) || tried >= MOST_TRIED) {
                return;
            }
            trial.treads[0] = a;
            trial.treads[1] = b;
            trial.treads[2] = c;
            rows.lay(trial);
            int broken = verdict.firstBroken(trial, rows);
            if (tried < MOST_REMEMBERED) {
                breaks[tried] = broken;
            }
            tried++;
            if (broken == NOTHING) {
                keepIfLess(n);
            }
        }

        /** Of ways of one price the one that was tried first is told. */
        private void keepIfLess(int n) {
            int now = rows.cost(trial);
            if (kept == 0 || now < cost) {
                cost = now;
                risers = n;
                System.arraycopy(trial.treads, 0, treads, 0, MOST_FLIGHTS);
            }
            kept++;
        }

        int toldTreads(int flight) {
            return kept > 0 && flight < flights ? treads[flight] : NONE;
        }
    }

    /** PIECES, and the boards that they are cut from. */
    private static final class Bench {
        static final int MOST = 12;

        final int[] pieces = new int[MOST];
        /** For each set of PIECES the least length of boards laid end to end up to its last cut. */
        final int[] used = new int[1 << MOST];
        int count = 0;

        int longest() {
            int longest = 0;
            for (int p = 0; p < count; p++) {
                longest = Math.max(longest, pieces[p]);
            }
            return longest;
        }

        /** Some order of the PIECES fills the fewest boards one by one: so each PIECE of a set is tried as its last. */
        int fewest(int length) {
            if (length <= 0) {
                return NONE;
            }
            int all = (1 << count) - 1;
            for (int set = 1; set <= all; set++) {
                int least = Integer.MAX_VALUE;
                for (int p = 0; p < count; p++) {
                    if ((set >> p & 1) == 1) {
                        least = Math.min(least, cutNext(used[set ^ 1 << p], pieces[p], length));
                    }
                }
                used[set] = least;
            }
            return (used[all] + length - 1) / length;
        }

        private static int cutNext(int used, int piece, int length) {
            if (length <= 0) {
                return used;
            }
            int room = length - used % length;
            return piece <= room ? used + piece : used + room + piece;
        }
    }
}
