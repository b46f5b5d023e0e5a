import java.util.function.IntFunction;

/** The edges that the document names in Terms I and II and in promises 1 to 11, sentence by sentence. */
public final class EdgeStairTest {
    private static final int LEAST = Integer.MIN_VALUE;
    private static final int GREATEST = Integer.MAX_VALUE;
    private static final Expect DUE = new Expect();

    public static void main(String[] args) {
        atFirst();
        measureBounds();
        pathBounds();
        pathSetsAll();
        flightIndex();
        flightTreads();
        flightLength();
        noTreadInAny();
        turnIndex();
        turnKind();
        firstKind();
        bullIfThereIsOne();
        risersParted();
        goingsParted();
        lengthBelowTreads();
        windersAtTheBounds();
        riserIndex();
        treadIndex();
        treadWhat();
        fewestAndMostTreads();
        beamFrom();
        beamTo();
        beamUnder();
        beamsFull();
        headAtEdges();
        headOfNoGoing();
        headOfSeveral();
        clearOfNone();
        clearOfAll();
        sizeWhat();
        DUE.end("EdgeStairTest");
    }

    private static void sizes(String what, StairShop shop, int... due) {
        for (int i = 0; i < due.length; i++) {
            DUE.same(what + ", size(" + i + ")", shop.size(i), due[i]);
        }
    }

    /** Refuses each of these with the number, and grants each of those. */
    private static void bounds(String call, IntFunction<StairShop> made, Take take, int why, int[] refused, int[] granted) {
        for (int v : refused) {
            StairShop shop = made.apply(v);
            DUE.denied(call + " of " + v, shop, take.granted(shop, v), why);
        }
        for (int v : granted) {
            StairShop shop = made.apply(v);
            DUE.granted(call + " of " + v, shop, take.granted(shop, v));
        }
    }

    private interface Take {
        boolean granted(StairShop shop, int v);
    }

    private static StairShop path(int flights) {
        StairShop shop = new StairShop();
        shop.path(flights);
        return shop;
    }

    private static int[] these(int... v) {
        return v;
    }

    private static void atFirst() {
        DUE.says("at first 2,600, 900, 400, 60 .. At first one FLIGHT of 12 TREADS, LENGTH 2,640");
        StairShop shop = new StairShop();
        sizes("new", shop, 2600, 900, 400, 60, 1, 12, 0, 0, 12 * 50 + 13 * 20, 2640, 0, 0);
        for (int k = 0; k < 12; k++) {
            DUE.same("KIND " + k, shop.tread(k, 0), 0);
            DUE.same("GOING " + k, shop.tread(k, 3), 220);
            DUE.same("HEAD " + k, shop.tread(k, 6), 9999);
        }
        DUE.same("undo()", shop.undo(), 0);
        DUE.same("feed()", shop.feed(0, 0, 0, 0, 0), 20);
    }

    private static void measureBounds() {
        DUE.says("HEIGHT (500 .. 6,000), WIDTH (500 .. 1,500), WALK (200 .. 500), POST (20 .. 150)");
        int[][] bounds = {{500, 6000}, {500, 1500}, {200, 500}, {20, 150}};
        for (int which = 0; which < 4; which++) {
            for (int v : these(bounds[which][0] - 1, bounds[which][1] + 1, 0, -1, LEAST, GREATEST)) {
                StairShop shop = new StairShop();
                int[] m = {2700, 950, 410, 65};
                m[which] = v;
                DUE.denied("measure " + which + " of " + v, shop, shop.measures(m[0], m[1], m[2], m[3]), 1);
                sizes("refused", shop, 2600, 900, 400, 60);
                DUE.same("acts", shop.size(10), 0);
            }
            for (int v : bounds[which]) {
                StairShop shop = new StairShop();
                int[] m = {2700, 950, 410, 65};
                m[which] = v;
                DUE.granted("measure " + which + " of " + v, shop, shop.measures(m[0], m[1], m[2], m[3]));
                sizes("granted", shop, m);
                DUE.same("acts", shop.size(10), 1);
            }
        }
    }

    private static void pathBounds() {
        DUE.says("The PATH has so many FLIGHTS (1 .. 3)");
        bounds("path", v -> new StairShop(), StairShop::path, 1, these(0, 4, -1, LEAST, GREATEST), these(1, 2, 3));
        for (int n = 1; n <= 3; n++) {
            DUE.same("FLIGHTS", path(n).size(4), n);
            DUE.same("T", path(n).size(5), 5 * n - 1);
        }
        StairShop shop = path(2);
        shop.path(4);
        sizes("refused", shop, 2600, 900, 400, 60, 2, 9);
        shop.path(0);
        sizes("refused", shop, 2600, 900, 400, 60, 2, 9);
        DUE.same("acts", shop.size(10), 1);
    }

    private static void pathSetsAll() {
        DUE.says("of 4 TREADS and LENGTH 1,000 each, TURNS that are LANDINGS");
        StairShop shop = path(3);
        for (int f = 0; f < 3; f++) {
            shop.flight(f, 7, 2000);
            shop.turn(f, 1);
        }
        shop.first(1);
        shop.beam(0, 10, 1000);
        shop.price(0, 1);
        DUE.granted("path(3)", shop, shop.path(3));
        int[] kinds = {1, 0, 0, 0, 2, 0, 0, 0, 0, 2, 0, 0, 0, 0};
        for (int k = 0; k < kinds.length; k++) {
            DUE.same("KIND " + k, shop.tread(k, 0), kinds[k]);
            DUE.same("NARROW " + k, shop.tread(k, 4), kinds[k] == 2 ? 900 : 250);
        }
        DUE.same("BEAMS stay", shop.size(7), 1);
        DUE.same("prices stay", shop.size(8), 80 + 11 + 2 * 200 + 15 * 20);
        shop.path(2);
        shop.turn(0, 1);
        shop.path(1);
        shop.path(2);
        DUE.same("a TURN that came again", shop.tread(4, 0), 2);
    }

    private static void flightIndex() {
        DUE.says("TREADS and LENGTH of a FLIGHT: true; false: 4");
        for (int n = 1; n <= 3; n++) {
            int flights = n;
            bounds("flight, " + n + " FLIGHTS", v -> path(flights), (s, v) -> s.flight(v, 5, 700), 4,
                    these(-1, n, n + 1, LEAST, GREATEST), java.util.stream.IntStream.range(0, n).toArray());
            StairShop shop = path(n);
            shop.flight(n, 5, 700);
            shop.flight(-1, 5, 700);
            DUE.same("T behind the refused ones", shop.size(5), 5 * n - 1);
            DUE.same("acts", shop.size(10), 1);
            shop.flight(n - 1, 5, 700);
            DUE.same("T", shop.size(5), 5 * n);
            DUE.same("GOINGS", shop.size(9), (n - 1) * 1900 + 700);
        }
        StairShop shop = path(1);
        DUE.denied("4 ahead of 1", shop, shop.flight(1, 21, 6001), 4);
    }

    private static void flightTreads() {
        DUE.says("each of 0 to 20 TREADS");
        bounds("TREADS", v -> path(2), (s, v) -> s.flight(1, v, 700), 1, these(-1, 21, LEAST, GREATEST), these(0, 1, 20));
        StairShop shop = path(2);
        shop.flight(1, 21, 700);
        shop.flight(1, -1, 700);
        DUE.same("T behind the refused ones", shop.size(5), 9);
        DUE.same("GOINGS behind the refused ones", shop.size(9), 2900);
        shop.flight(1, 0, 700);
        DUE.same("T", shop.size(5), 5);
        DUE.same("GOINGS: a LENGTH without TREADS is none", shop.size(9), 1900);
        shop.flight(1, 20, 700);
        DUE.same("T", shop.size(5), 25);
    }

    private static void flightLength() {
        DUE.says("a LENGTH 0 .. 6,000");
        bounds("LENGTH", v -> path(1), (s, v) -> s.flight(0, 5, v), 1, these(-1, 6001, LEAST, GREATEST), these(0, 6000));
        StairShop shop = path(1);
        shop.flight(0, 5, 6001);
        shop.flight(0, 5, -1);
        DUE.same("T behind the refused ones", shop.size(5), 4);
        DUE.same("GOINGS behind the refused ones", shop.size(9), 1000);
        shop.flight(0, 5, 6000);
        DUE.same("GOINGS", shop.size(9), 6000);
        shop.flight(0, 5, 0);
        DUE.same("GOINGS", shop.size(9), 0);
        shop.first(1);
        DUE.same("GOINGS", shop.size(9), 30);
    }

    private static void noTreadInAny() {
        DUE.says("1 (also if there would be no TREAD in any)");
        for (int n = 1; n <= 3; n++) {
            for (int last = 0; last < n; last++) {
                StairShop shop = path(n);
                for (int f = 0; f < n; f++) {
                    if (f != last) {
                        DUE.granted("another FLIGHT is emptied", shop, shop.flight(f, 0, 100));
                    }
                }
                DUE.denied("the last FLIGHT with TREADS", shop, shop.flight(last, 0, 100), 1);
                DUE.same("T", shop.size(5), 4 + n - 1);
                DUE.granted("one TREAD", shop, shop.flight(last, 1, 100));
                DUE.same("T", shop.size(5), 1 + n - 1);
                DUE.denied("of one TREAD", shop, shop.flight(last, 0, 100), 1);
                DUE.same("LENGTH", shop.size(9), 100 + 900 * (n - 1));
            }
        }
        StairShop shop = path(2);
        shop.flight(0, 0, 5);
        DUE.granted("an empty one stays empty", shop, shop.flight(0, 0, 6));
    }

    private static void turnIndex() {
        DUE.says("TURN i (behind FLIGHT i) becomes it: true; false: 4");
        for (int n = 1; n <= 3; n++) {
            int flights = n;
            bounds("turn, " + n + " FLIGHTS", v -> path(flights), (s, v) -> s.turn(v, 1), 4,
                    these(-1, n - 1, n, LEAST, GREATEST), java.util.stream.IntStream.range(0, n - 1).toArray());
        }
        StairShop shop = path(2);
        DUE.denied("4 ahead of 1", shop, shop.turn(1, 2), 4);
        DUE.same("T", shop.size(5), 9);
        DUE.same("acts", shop.size(10), 1);
        shop.path(3);
        shop.turn(1, 1);
        DUE.same("behind FLIGHT 0", shop.tread(4, 0), 2);
        DUE.same("behind FLIGHT 1", shop.tread(9, 0), 3);
        shop.turn(0, 1);
        shop.turn(1, 0);
        DUE.same("behind FLIGHT 0", shop.tread(4, 0), 3);
        DUE.same("behind FLIGHT 1", shop.tread(11, 0), 2);
    }

    private static void turnKind() {
        DUE.says("becomes it (0, 1): true; false: .. 1");
        bounds("turn", v -> path(2), (s, v) -> s.turn(0, v), 1, these(-1, 2, LEAST, GREATEST), these(0, 1));
        StairShop shop = path(2);
        shop.turn(0, 1);
        shop.turn(0, 2);
        shop.turn(0, -1);
        DUE.same("T behind the refused ones", shop.size(5), 11);
        DUE.same("acts", shop.size(10), 2);
    }

    private static void firstKind() {
        DUE.says("The FIRST tread (0, 1): true; false (1)");
        bounds("first", v -> path(2), StairShop::first, 1, these(-1, 2, LEAST, GREATEST), these(0, 1));
        StairShop shop = new StairShop();
        shop.first(1);
        shop.first(2);
        shop.first(-1);
        DUE.same("KIND behind the refused ones", shop.tread(0, 0), 1);
        DUE.same("acts", shop.size(10), 1);
        shop.first(0);
        DUE.same("KIND", shop.tread(0, 0), 0);
        DUE.same("GOING", shop.tread(0, 3), 220);
    }

    private static void bullIfThereIsOne() {
        DUE.says("BULL (the first one of the first FLIGHT, if it is told and there is one)");
        StairShop shop = path(2);
        shop.first(1);
        DUE.same("TREAD 0", shop.tread(0, 0), 1);
        DUE.same("TREAD 1", shop.tread(1, 0), 0);
        DUE.same("TREAD 5, the first one of the second", shop.tread(5, 0), 0);
        shop.flight(0, 1, 100);
        DUE.same("the only one", shop.tread(0, 0), 1);
        DUE.same("the only one's GOING", shop.tread(0, 3), 130);
        DUE.same("the only one's NARROW", shop.tread(0, 4), 100);
        shop.flight(0, 0, 100);
        DUE.same("there is none: TREAD 0", shop.tread(0, 0), 2);
        DUE.same("there is none: TREAD 1", shop.tread(1, 0), 0);
        DUE.same("there is none: GOINGS", shop.size(9), 1900);
        DUE.same("there is none: PRICE", shop.size(8), 4 * 50 + 200 + 6 * 20);
        shop.flight(0, 2, 100);
        DUE.same("it is told still", shop.tread(0, 0), 1);
    }

    private static void risersParted() {
        DUE.says("each gets it divided by n, the first ones one more, as many as are left");
        for (int left : these(0, 1, 6, 12)) {
            StairShop shop = new StairShop();
            shop.measures(2600 + left, 900, 400, 60);
            int top = 0;
            for (int k = 0; k <= 12; k++) {
                int due = k < left ? 201 : 200;
                top += due;
                DUE.same(left + " left, riser(" + k + ")", shop.riser(k), due);
                DUE.same(left + " left, RISER of " + k, shop.tread(k, 1), k < 12 ? due : -10000);
                DUE.same(left + " left, TOP of " + k, shop.tread(k, 2), k < 12 ? top : -10000);
            }
            DUE.same(left + " left, all", top, 2600 + left);
        }
    }

    private static void goingsParted() {
        DUE.says("GOING: a FLIGHT's LENGTH parted by its TREADS");
        for (int left : these(0, 1, 5, 11)) {
            StairShop shop = new StairShop();
            shop.flight(0, 12, 2640 + left);
            int at = 0;
            for (int k = 0; k < 12; k++) {
                DUE.same(left + " left, AT of " + k, shop.tread(k, 5), at);
                DUE.same(left + " left, GOING of " + k, shop.tread(k, 3), k < left ? 221 : 220);
                DUE.same(left + " left, NARROW of " + k, shop.tread(k, 4), k < left ? 221 : 220);
                at += k < left ? 221 : 220;
            }
            DUE.same(left + " left, all", shop.size(9), 2640 + left);
        }
    }

    private static void lengthBelowTreads() {
        DUE.says("a LENGTH below its TREADS: divided it is 0, the first ones get one");
        StairShop shop = new StairShop();
        for (int length : these(0, 1, 11, 12)) {
            shop.flight(0, 12, length);
            for (int k = 0; k < 12; k++) {
                DUE.same("LENGTH " + length + ", GOING of " + k, shop.tread(k, 3), k < length ? 1 : 0);
            }
            DUE.same("AT of the last", shop.tread(11, 5), Math.min(length, 11));
        }
    }

    private static void windersAtTheBounds() {
        DUE.says("WINDERS: WALK * 11 / 7, parted by 3. NARROW: POST * 11 / 7, parted by 3");
        // WALK, POST, then the three GOINGS and the three NARROWS
        int[][] due = {
            {200, 20, 105, 105, 104, 11, 10, 10},
            {500, 150, 262, 262, 261, 79, 78, 78},
            {203, 21, 107, 106, 106, 11, 11, 11},
            {399, 63, 209, 209, 209, 33, 33, 33},
            {400, 64, 210, 209, 209, 34, 33, 33}};
        for (int[] d : due) {
            StairShop shop = path(2);
            shop.turn(0, 1);
            shop.measures(2600, 900, d[0], d[1]);
            for (int j = 0; j < 3; j++) {
                DUE.same("WALK " + d[0] + ", GOING " + j, shop.tread(4 + j, 3), d[2 + j]);
                DUE.same("POST " + d[1] + ", NARROW " + j, shop.tread(4 + j, 4), d[5 + j]);
                DUE.same("FLIGHT", shop.tread(4 + j, 7), -1);
                DUE.same("TURN", shop.tread(4 + j, 8), 0);
            }
            DUE.same("AT behind them", shop.tread(7, 5), 1000 + d[2] + d[3] + d[4]);
        }
    }

    /** A stair of one TREAD, and one of the most. */
    private static StairShop shortest() {
        StairShop shop = new StairShop();
        shop.flight(0, 1, 300);
        return shop;
    }

    private static StairShop longest() {
        StairShop shop = path(3);
        for (int f = 0; f < 3; f++) {
            shop.flight(f, 20, 6000);
            shop.turn(f, 1);
        }
        return shop;
    }

    private static void riserIndex() {
        DUE.says("RISER k (0 .. T); NONE");
        StairShop one = shortest();
        int[] due = {-1, 1300, 1300, -1};
        for (int k = -1; k <= 2; k++) {
            DUE.same("T 1, riser(" + k + ")", one.riser(k), due[k + 1]);
        }
        StairShop most = longest();
        // 2,600 by 67 is 38, 54 are left
        int[][] at = {{-1, -1}, {0, 39}, {53, 39}, {54, 38}, {65, 38}, {66, 38}, {67, -1}, {LEAST, -1}, {GREATEST, -1}};
        for (int[] a : at) {
            DUE.same("T 66, riser(" + a[0] + ")", most.riser(a[0]), a[1]);
        }
        most.measures(500, 900, 400, 60);
        DUE.same("HEIGHT 500, riser(30)", most.riser(30), 8);
        DUE.same("HEIGHT 500, riser(31)", most.riser(31), 7);
    }

    private static void treadIndex() {
        DUE.says("Of TREAD k .. -10000 if there is none such");
        StairShop one = shortest();
        StairShop most = longest();
        for (int what = 0; what < 9; what++) {
            for (int k : these(-1, 1, LEAST, GREATEST)) {
                DUE.same("T 1, tread(" + k + ", " + what + ")", one.tread(k, what), -10000);
            }
            for (int k : these(-1, 66, 67, LEAST, GREATEST)) {
                DUE.same("T 66, tread(" + k + ", " + what + ")", most.tread(k, what), -10000);
            }
        }
        int[] only = {0, 1300, 1300, 300, 300, 0, 9999, 0, -1};
        int[] last = {0, 38, 2562, 300, 300, 18000 + 2 * 628 - 300, 9999, 2, -1};
        for (int what = 0; what < 9; what++) {
            DUE.same("T 1, tread(0, " + what + ")", one.tread(0, what), only[what]);
            DUE.same("T 66, tread(65, " + what + ")", most.tread(65, what), last[what]);
        }
        most.flight(2, 19, 6000);
        DUE.same("the last one went", most.tread(65, 0), -10000);
    }

    private static void treadWhat() {
        DUE.says("what 0 KIND .. 8 its TURN (NONE). -10000 if there is none such");
        StairShop shop = path(3);
        for (int what : these(-1, 9, 10, LEAST, GREATEST)) {
            DUE.same("tread(0, " + what + ")", shop.tread(0, what), -10000);
        }
        // FLIGHT and TURN on both sides of each TURN
        int[][] due = {{3, 0, -1}, {4, -1, 0}, {5, 1, -1}, {8, 1, -1}, {9, -1, 1}, {10, 2, -1}, {13, 2, -1}};
        for (int[] d : due) {
            DUE.same("FLIGHT of " + d[0], shop.tread(d[0], 7), d[1]);
            DUE.same("TURN of " + d[0], shop.tread(d[0], 8), d[2]);
        }
    }

    private static void fewestAndMostTreads() {
        DUE.says("TREADS 66 .. all together 1 at least");
        DUE.same("fewest", shortest().size(5), 1);
        DUE.same("most", longest().size(5), 66);
        DUE.same("most, GOINGS", longest().size(9), 18000 + 2 * 628);
        DUE.same("most, PRICE", longest().size(8), 60 * 50 + 6 * 120 + 67 * 20);
        StairShop shop = path(3);
        shop.flight(0, 0, 0);
        shop.flight(1, 0, 0);
        shop.flight(2, 1, 0);
        DUE.same("one TREAD behind two LANDINGS", shop.size(5), 3);
        DUE.same("its FLIGHT", shop.tread(2, 7), 2);
    }

    private static void beam(String what, int from, int to, int under, boolean granted) {
        StairShop shop = new StairShop();
        if (granted) {
            DUE.given(what, shop, shop.beam(from, to, under), 1);
        } else {
            DUE.refused(what, shop, shop.beam(from, to, under), 1);
        }
        DUE.same(what + ", BEAMS", shop.size(7), granted ? 1 : 0);
        DUE.same(what + ", acts", shop.size(10), granted ? 1 : 0);
    }

    private static void beamFrom() {
        DUE.says("A BEAM more, from 0 .. 20,000");
        for (int from : these(-1, 20001, LEAST, GREATEST - 1)) {
            beam("from " + from, from, from + 1, 100, false);
        }
        for (int from : these(0, 20000)) {
            beam("from " + from, from, from + 1, 100, true);
        }
    }

    private static void beamTo() {
        DUE.says("to more");
        for (int from : these(0, 500, 20000)) {
            beam("to as much", from, from, 100, false);
            beam("to less", from, from - 1, 100, false);
            beam("to the least", from, LEAST, 100, false);
            beam("to one more", from, from + 1, 100, true);
            beam("to the greatest", from, GREATEST, 100, true);
        }
    }

    private static void beamUnder() {
        DUE.says("underside 0 .. 9,000");
        for (int under : these(-1, 9001, LEAST, GREATEST)) {
            beam("under " + under, 5, 6, under, false);
        }
        for (int under : these(0, 9000)) {
            beam("under " + under, 5, 6, under, true);
        }
        StairShop shop = new StairShop();
        shop.beam(0, 1, 9000);
        DUE.same("the greatest HEAD below a BEAM", shop.tread(0, 6), 8800);
        shop.beam(0, 1, 0);
        DUE.same("the least", shop.tread(0, 6), -200);
    }

    private static void beamsFull() {
        DUE.says("BEAMS 8 .. how many; NONE: 1; 3");
        StairShop shop = new StairShop();
        for (int i = 1; i <= 8; i++) {
            DUE.given("BEAM " + i, shop, shop.beam(220 * i - 220, 220 * i, 2500), i);
        }
        DUE.refused("the ninth", shop, shop.beam(2000, 2100, 2500), 3);
        DUE.refused("1 ahead of 3", shop, shop.beam(5, 5, 5), 1);
        DUE.refused("the ninth again", shop, shop.beam(2000, 2100, 2500), 3);
        DUE.same("BEAMS", shop.size(7), 8);
        DUE.same("acts", shop.size(10), 8);
        DUE.same("the eighth is above", shop.tread(7, 6), 2500 - 1600);
        DUE.same("no ninth one is", shop.tread(9, 6), 9999);
        shop.undo();
        DUE.same("the eighth is taken back", shop.tread(7, 6), 9999);
        DUE.given("room for one", shop, shop.beam(2000, 2100, 2500), 8);
        DUE.same("it is above", shop.tread(9, 6), 2500 - 2000);
        shop.clear();
        DUE.given("room for all", shop, shop.beam(0, 1, 2500), 1);
    }

    private static int headBelow(int from, int to) {
        StairShop shop = new StairShop();
        shop.flight(0, 3, 300);
        shop.beam(from, to, 2000);
        return shop.tread(1, 6);
    }

    private static void headAtEdges() {
        DUE.says("above from one AT up to another one (not it) .. above some part of it (from its AT up to AT + GOING)");
        // TREAD 1 is from 100 to 200, its TOP at 1,300
        DUE.same("ends at its AT", headBelow(0, 100), 9999);
        DUE.same("ends one behind its AT", headBelow(0, 101), 700);
        DUE.same("begins one ahead of its end", headBelow(199, 5000), 700);
        DUE.same("begins at its end", headBelow(200, 5000), 9999);
        DUE.same("as long as it", headBelow(100, 200), 700);
        DUE.same("within it", headBelow(150, 151), 700);
        DUE.same("over all", headBelow(0, GREATEST), 700);
        DUE.same("behind the stair", headBelow(20000, GREATEST), 9999);
        StairShop shop = new StairShop();
        shop.first(1);
        shop.beam(249, 250, 2000);
        DUE.same("the 30 of a BULL are a part of it", shop.tread(0, 6), 1800);
        DUE.same("and not of the next one", shop.tread(1, 6), 9999);
    }

    private static void headOfNoGoing() {
        DUE.says("which is none where GOING is 0 .. 9,999 if there is none");
        StairShop shop = new StairShop();
        shop.flight(0, 3, 0);
        shop.beam(0, 1000, 2000);
        for (int k = 0; k < 3; k++) {
            DUE.same("GOING 0, HEAD of " + k, shop.tread(k, 6), 9999);
        }
        shop.first(1);
        DUE.same("a BULL has 30", shop.tread(0, 6), 2000 - 650);
        DUE.same("the next one 0", shop.tread(1, 6), 9999);
        shop.path(2);
        shop.flight(0, 2, 1);
        DUE.same("GOING 1", shop.tread(0, 6), 2000 - 325);
        DUE.same("GOING 0 between", shop.tread(1, 6), 9999);
        DUE.same("the LANDING", shop.tread(2, 6), 2000 - 975);
    }

    private static void headOfSeveral() {
        DUE.says("the least underside of BEAMS that are above some part of it .. less its TOP");
        StairShop shop = new StairShop();
        shop.beam(0, 220, 3000);
        shop.beam(219, 220, 2999);
        shop.beam(0, 1, 3001);
        shop.beam(220, 440, 100);
        DUE.same("TREAD 0", shop.tread(0, 6), 2999 - 200);
        DUE.same("TREAD 1, below its TOP", shop.tread(1, 6), 100 - 400);
        shop.beam(220, 221, 400);
        DUE.same("TREAD 1, the least still", shop.tread(1, 6), 100 - 400);
        shop.beam(440, 441, 600);
        DUE.same("TREAD 2, at its TOP", shop.tread(2, 6), 0);
    }

    private static void clearOfNone() {
        DUE.says("All BEAMS go: how many there were .. Acts: .. clear (of some)");
        StairShop shop = new StairShop();
        DUE.same("none", shop.clear(), 0);
        DUE.same("acts", shop.size(10), 0);
        DUE.same("nothing to take back", shop.undo(), 0);
        shop.first(1);
        DUE.same("none", shop.clear(), 0);
        DUE.same("acts", shop.size(10), 1);
        shop.undo();
        DUE.same("the act ahead of it is taken back", shop.tread(0, 0), 0);
    }

    private static void clearOfAll() {
        DUE.says("All BEAMS go: how many there were");
        for (int n = 1; n <= 8; n += 7) {
            StairShop shop = new StairShop();
            for (int i = 0; i < n; i++) {
                shop.beam(0, 5000, 2500 + i);
            }
            DUE.same("clear()", shop.clear(), n);
            DUE.same("BEAMS", shop.size(7), 0);
            DUE.same("HEAD", shop.tread(0, 6), 9999);
            DUE.same("acts", shop.size(10), n + 1);
            DUE.same("again", shop.clear(), 0);
            shop.undo();
            DUE.same("BEAMS", shop.size(7), n);
            DUE.same("HEAD", shop.tread(0, 6), 2300);
        }
    }

    private static void sizeWhat() {
        DUE.says("0 HEIGHT .. 11 PIECES. NONE for others");
        StairShop shop = path(2);
        shop.measures(2601, 901, 401, 61);
        shop.beam(0, 1, 1);
        shop.beam(0, 1, 1);
        shop.beam(0, 1, 1);
        Laws.law(shop, "all 1<=1");
        shop.piece(1);
        shop.piece(1);
        sizes("all", shop, 2601, 901, 401, 61, 2, 9, 1, 3, 8 * 50 + 200 + 10 * 20, 2901, 6, 2);
        for (int what : these(-1, 12, 13, LEAST, GREATEST)) {
            DUE.same("size(" + what + ")", shop.size(what), -1);
        }
    }
}
