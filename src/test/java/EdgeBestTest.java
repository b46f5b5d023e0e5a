/** The edges that the document names in Terms III and V and in promises 19 to 27, sentence by sentence. */
public final class EdgeBestTest {
    private static final int LEAST = Integer.MIN_VALUE;
    private static final int GREATEST = Integer.MAX_VALUE;
    private static final Expect DUE = new Expect();

    public static void main(String[] args) {
        priceKind();
        priceBounds();
        leastPriceIsNothing();
        bestBounds();
        bestRefusedLeaves();
        bestLeaves();
        eachFlightFromOneToTwenty();
        nothingTried();
        lessFirst();
        fromTheLeastOn();
        upTo2000();
        theLastOfThe2000();
        leastPrice();
        allBreakALaw();
        bestOfWhat();
        bestOfAheadOfAny();
        bestOfFlightsThereArent();
        takeOfNone();
        takeOfOtherFlights();
        takeOfTheLeastAndMost();
        triedIndex();
        triedFirst200();
        stringIndex();
        stringOfNothing();
        stringDownwards();
        pieceBounds();
        piecesFull();
        sweepOfNoneAndAll();
        boardsBounds();
        boardsOfNone();
        boardsOfLonger();
        boardsFewest();
        DUE.end("EdgeBestTest");
    }

    private static int[] these(int... v) {
        return v;
    }

    private static StairShop path(int flights) {
        StairShop shop = new StairShop();
        shop.path(flights);
        return shop;
    }

    private static void bestOf(String what, StairShop shop, int... due) {
        for (int i = 0; i < due.length; i++) {
            DUE.same(what + ", bestOf(" + i + ")", shop.bestOf(i), due[i]);
        }
    }

    private static void priceKind() {
        DUE.says("The price of a KIND (0 .. 3), or of a RISER (4): true; false (1)");
        for (int kind : these(-1, 5, LEAST, GREATEST)) {
            StairShop shop = new StairShop();
            DUE.denied("price(" + kind + ", 7)", shop, shop.price(kind, 7), 1);
            DUE.same("PRICE", shop.size(8), 860);
            DUE.same("acts", shop.size(10), 0);
        }
        // a BULL, 7 TREADS more, a LANDING, three WINDERS, FLIGHT 2 being empty: 13 RISERS
        int[] treads = {7, 1, 1, 3, 13};
        int[] atFirst = {50, 80, 200, 120, 20};
        int all = 7 * 50 + 80 + 200 + 3 * 120 + 13 * 20;
        for (int kind = 0; kind < 5; kind++) {
            StairShop shop = path(3);
            shop.turn(1, 1);
            shop.flight(2, 0, 0);
            shop.first(1);
            DUE.same("PRICE at first", shop.size(8), all);
            DUE.granted("price(" + kind + ", 7)", shop, shop.price(kind, 7));
            DUE.same("PRICE", shop.size(8), all + treads[kind] * (7 - atFirst[kind]));
        }
    }

    private static void priceBounds() {
        DUE.says("a told price .. (0 .. 10,000 ..)");
        for (int kind = 0; kind < 5; kind++) {
            for (int v : these(-1, 10001, LEAST, GREATEST)) {
                StairShop shop = path(3);
                DUE.denied("price(" + kind + ", " + v + ")", shop, shop.price(kind, v), 1);
                DUE.same("PRICE", shop.size(8), 12 * 50 + 2 * 200 + 15 * 20);
                DUE.same("acts", shop.size(10), 1);
            }
            for (int v : these(0, 10000)) {
                StairShop shop = path(3);
                DUE.granted("price(" + kind + ", " + v + ")", shop, shop.price(kind, v));
                DUE.same("acts", shop.size(10), 2);
            }
        }
        StairShop shop = path(3);
        shop.turn(0, 1);
        shop.turn(1, 1);
        for (int f = 0; f < 3; f++) {
            shop.flight(f, 20, 1000);
        }
        for (int kind = 0; kind < 5; kind++) {
            shop.price(kind, 10000);
        }
        DUE.same("the greatest PRICE", shop.size(8), 133 * 10000);
    }

    private static void leastPriceIsNothing() {
        DUE.says("PRICE of all .. BEST: the least price");
        StairShop shop = new StairShop();
        shop.price(0, 0);
        shop.price(4, 0);
        DUE.same("PRICE", shop.size(8), 0);
        DUE.given("best(2, 67)", shop, shop.best(2, 67), 0);
        bestOf("of one price the first", shop, 20, 2, 1, -1, -1, 20);
        DUE.granted("take()", shop, shop.take());
    }

    private static void bestBounds() {
        DUE.says("NONE (1) if not 2 <= least <= greatest <= 67");
        int[][] refused = {{1, 67}, {1, 1}, {0, 5}, {-1, 5}, {2, 68}, {67, 68}, {68, 68}, {3, 2}, {67, 66}, {67, 2},
            {2, 1}, {LEAST, 5}, {2, GREATEST}, {GREATEST, LEAST}, {LEAST, GREATEST}};
        for (int[] r : refused) {
            StairShop shop = new StairShop();
            DUE.refused("best(" + r[0] + ", " + r[1] + ")", shop, shop.best(r[0], r[1]), 1);
            bestOf("ahead of any still", shop, -1, -1, -1, -1, -1, -1);
        }
        int[][] granted = {{2, 2, 90, 1}, {2, 67, 90, 20}, {67, 67, -2, 0}, {21, 21, 1420, 1}, {2, 3, 90, 2},
            {66, 67, -2, 0}};
        for (int[] g : granted) {
            StairShop shop = new StairShop();
            DUE.given("best(" + g[0] + ", " + g[1] + ")", shop, shop.best(g[0], g[1]), g[2]);
            DUE.same("TRIED", shop.bestOf(0), g[3]);
        }
    }

    private static void bestRefusedLeaves() {
        DUE.says("Of the latest best(): one that was refused leaves it as it was");
        StairShop shop = new StairShop();
        shop.best(6, 9);
        DUE.refused("best(1, 9)", shop, shop.best(1, 9), 1);
        DUE.refused("best(9, 6)", shop, shop.best(9, 6), 1);
        bestOf("as it was", shop, 4, 6, 5, -1, -1, 4);
        DUE.same("tried(3)", shop.tried(3), -2);
        DUE.same("tried(4)", shop.tried(4), -1);
        DUE.granted("take()", shop, shop.take());
        DUE.same("T", shop.size(5), 5);
    }

    private static void bestLeaves() {
        DUE.says("all else being as it is");
        StairShop shop = path(2);
        shop.flight(0, 0, 900);
        shop.tell();
        DUE.same("best()", shop.best(5, 9), 3 * 50 + 200 + 5 * 20);
        DUE.same("the stair is as it was", shop.check(), -2);
        DUE.same("acts", shop.size(10), 2);
        shop.price(0, 1);
        DUE.same("best()", shop.best(5, 9), 3 + 200 + 5 * 20);
        bestOf("latest", shop, 2 + 3 + 4 + 5 + 6, 5, 1, 2, -1, 20);
        shop.first(1);
        DUE.same("a BULL", shop.best(5, 9), 80 + 2 + 200 + 5 * 20);
        Laws.law(shop, "all wide<=900 and head>=2000");
        DUE.same("no BEAM", shop.best(5, 9), 382);
        shop.beam(0, 1, 2000);
        DUE.same("a BEAM", shop.best(5, 9), -2);
    }

    private static void ways(int flights, int kind, int risers, int due) {
        StairShop shop = path(flights);
        for (int t = 0; t < flights - 1; t++) {
            shop.turn(t, kind);
        }
        shop.best(risers, risers);
        DUE.same(flights + " FLIGHTS, TURNS " + kind + ", " + risers + " RISERS: TRIED", shop.bestOf(0), due);
        DUE.same("kept", shop.bestOf(5), due);
        DUE.same("RISERS", shop.bestOf(1), due > 0 ? risers : -1);
    }

    private static void eachFlightFromOneToTwenty() {
        DUE.says("what is left for them (T less those of TURNS): each FLIGHT from 1 to 20");
        ways(1, 0, 2, 1);
        ways(1, 0, 21, 1);
        ways(1, 0, 22, 0);
        ways(2, 0, 3, 0);
        ways(2, 0, 4, 1);
        ways(2, 0, 5, 2);
        ways(2, 0, 23, 20);
        ways(2, 0, 22, 19);
        ways(2, 0, 24, 19);
        ways(2, 0, 42, 1);
        ways(2, 0, 43, 0);
        ways(2, 1, 5, 0);
        ways(2, 1, 6, 1);
        ways(2, 1, 44, 1);
        ways(2, 1, 45, 0);
        ways(3, 0, 5, 0);
        ways(3, 0, 6, 1);
        ways(3, 0, 7, 3);
        ways(3, 0, 25, 210);
        // 23 TREADS in 231 ways, three of them with 21 in one FLIGHT
        ways(3, 0, 26, 231 - 3);
        ways(3, 0, 62, 3);
        ways(3, 0, 63, 1);
        ways(3, 0, 64, 0);
        ways(3, 1, 9, 0);
        ways(3, 1, 10, 1);
        ways(3, 1, 66, 3);
        ways(3, 1, 67, 1);
    }

    private static void nothingTried() {
        DUE.says("-2 if all that were TRIED break a LAW");
        StairShop shop = path(3);
        DUE.given("best(2, 5)", shop, shop.best(2, 5), -2);
        bestOf("none", shop, 0, -1, -1, -1, -1, 0);
        DUE.same("tried(0)", shop.tried(0), -1);
        DUE.denied("take()", shop, shop.take(), 5);
    }

    private static void lessFirst() {
        DUE.says("the first FLIGHT's number less first, then the second one's");
        // 8 RISERS, 2 LANDINGS: 5 for the FLIGHTS
        int[][] ways = {{1, 1, 3}, {1, 2, 2}, {1, 3, 1}, {2, 1, 2}, {2, 2, 1}, {3, 1, 1}};
        for (int w = 0; w < ways.length; w++) {
            StairShop shop = path(3);
            // the LAWS that one way alone keeps: the numbers of its LANDINGS
            int one = ways[w][0] + 1;
            int two = one + ways[w][1] + 1;
            Laws.law(shop, "some number>=" + one + " and " + one + ">=number and kind>=2");
            Laws.law(shop, "some number>=" + two + " and " + two + ">=number and kind>=2");
            DUE.same("best(8, 8)", shop.best(8, 8), 5 * 50 + 400 + 160);
            bestOf("way " + w, shop, 6, 8, ways[w][0], ways[w][1], ways[w][2], 1);
            for (int i = 0; i < ways.length; i++) {
                DUE.same("tried(" + i + ") is kept", shop.tried(i) == -2 ? 1 : 0, i == w ? 1 : 0);
            }
        }
    }

    private static void fromTheLeastOn() {
        DUE.says("for each number from the least on");
        StairShop shop = new StairShop();
        Laws.law(shop, "all count>=7");
        Laws.law(shop, "all count<=9");
        DUE.same("best(5, 11)", shop.best(5, 11), 6 * 50 + 7 * 20);
        int[] due = {0, 0, -2, -2, -2, 1, 1, -1};
        for (int i = 0; i < due.length; i++) {
            DUE.same("tried(" + i + ")", shop.tried(i), due[i]);
        }
        bestOf("best(5, 11)", shop, 7, 7, 6, -1, -1, 3);
    }

    /** Three FLIGHTS, a LANDING behind the first one, WINDERS behind the second one. */
    private static StairShop winding() {
        StairShop shop = path(3);
        shop.turn(1, 1);
        return shop;
    }

    private static void upTo2000() {
        DUE.says("TRIED one by one .. up to 2,000 of them");
        // 3 to 23 TREADS can be parted in 1,768 ways, 24 in 244: with the 4 of TURNS, 28 RISERS and 29
        StairShop shop = winding();
        shop.best(2, 28);
        DUE.same("fewer", shop.bestOf(0), 1768);
        shop.best(9, 29);
        DUE.same("just as far as it goes", shop.bestOf(0), 2000);
        shop.best(2, 67);
        DUE.same("all", shop.bestOf(0), 2000);
        shop.best(29, 67);
        DUE.same("from 29 on", shop.bestOf(0), 2000);
        shop.best(29, 29);
        DUE.same("29 alone", shop.bestOf(0), 244);
        shop.best(58, 67);
        DUE.same("the last ones", shop.bestOf(0), 36 + 28 + 21 + 15 + 10 + 6 + 3 + 1);
    }

    private static void theLastOfThe2000() {
        DUE.says("up to 2,000 of them");
        // the 2,000th is 17 6 1; a LANDING's number is one more than the first FLIGHT's TREADS
        StairShop shop = winding();
        Laws.law(shop, "some count>=29 and number>=18 and kind>=2 and kind<=2");
        DUE.same("17 in the first FLIGHT", shop.best(2, 67), 24 * 50 + 200 + 3 * 120 + 29 * 20);
        bestOf("17 in the first FLIGHT", shop, 2000, 29, 17, 1, 6, 6);
        Laws.law(shop, "some number>=25 and kind>=3");
        DUE.same("WINDERS up to number 27", shop.best(2, 67), 24 * 50 + 200 + 3 * 120 + 29 * 20);
        bestOf("WINDERS from number 23 on", shop, 2000, 29, 17, 4, 3, 3);
        Laws.law(shop, "some number>=27 and kind>=3");
        DUE.same("the 2,000th alone", shop.best(2, 67), 24 * 50 + 200 + 3 * 120 + 29 * 20);
        bestOf("the 2,000th alone", shop, 2000, 29, 17, 6, 1, 1);
        Laws.law(shop, "some number>=19 and kind>=2 and kind<=2");
        DUE.same("the 2,001st is not tried", shop.best(2, 67), -2);
        bestOf("the 2,001st is not tried", shop, 2000, -1, -1, -1, -1, 0);
        DUE.same("it is one of 29 RISERS", shop.best(29, 29), 24 * 50 + 200 + 3 * 120 + 29 * 20);
    }

    private static void leastPrice() {
        DUE.says("BEST: the least price");
        StairShop shop = path(2);
        shop.price(0, 0);
        shop.price(4, 0);
        Laws.law(shop, "all going-400*kind<=250");
        DUE.same("best(7, 40)", shop.best(7, 40), 200);
        bestOf("of one price the first", shop, shop.bestOf(0), 10, 4, 4, -1, shop.bestOf(5));
        DUE.same("some broke it", shop.bestOf(5) < shop.bestOf(0) ? 1 : 0, 1);
        shop.price(4, 1);
        DUE.same("each RISER 1", shop.best(7, 40), 210);
        bestOf("the fewest", shop, shop.bestOf(0), 10, 4, 4, -1, shop.bestOf(5));
        DUE.same("from 11 on", shop.best(11, 40), 211);
        bestOf("the first of 11", shop, shop.bestOf(0), 11, 4, 5, -1, shop.bestOf(5));
    }

    private static void allBreakALaw() {
        DUE.says("-2 if all that were TRIED break a LAW");
        StairShop shop = new StairShop();
        Laws.law(shop, "all count<=12");
        DUE.given("one keeps it", shop, shop.best(12, 20), 11 * 50 + 12 * 20);
        bestOf("one keeps it", shop, 9, 12, 11, -1, -1, 1);
        DUE.given("none keeps it", shop, shop.best(13, 20), -2);
        bestOf("NONE behind -2", shop, 8, -1, -1, -1, -1, 0);
        DUE.denied("take()", shop, shop.take(), 5);
        DUE.same("T", shop.size(5), 12);
        shop.repeal();
        DUE.same("the latest best() is as it was", shop.bestOf(5), 0);
        DUE.given("no LAWS", shop, shop.best(13, 20), 12 * 50 + 13 * 20);
    }

    private static void bestOfWhat() {
        DUE.says("NONE for others");
        StairShop shop = path(3);
        shop.best(6, 8);
        bestOf("all", shop, 1 + 3 + 6, 6, 1, 1, 1, 10);
        for (int what : these(-1, 6, 7, LEAST, GREATEST)) {
            DUE.same("bestOf(" + what + ")", shop.bestOf(what), -1);
        }
    }

    private static void bestOfAheadOfAny() {
        DUE.says("NONE .. ahead of any");
        StairShop shop = new StairShop();
        for (int what = -1; what <= 6; what++) {
            DUE.same("bestOf(" + what + ")", shop.bestOf(what), -1);
        }
    }

    private static void bestOfFlightsThereArent() {
        DUE.says("NONE behind -2, and of FLIGHTS there aren't");
        int[][] due = {{1, -1, -1}, {1, 1, -1}, {1, 1, 1}};
        for (int n = 1; n <= 3; n++) {
            StairShop shop = path(n);
            shop.best(2, 9);
            for (int f = 0; f < 3; f++) {
                DUE.same(n + " FLIGHTS, bestOf(" + (2 + f) + ")", shop.bestOf(2 + f), due[n - 1][f]);
            }
        }
        StairShop shop = path(3);
        shop.best(9, 9);
        shop.path(1);
        shop.best(9, 9);
        bestOf("one FLIGHT behind three", shop, 1, 9, 8, -1, -1, 1);
    }

    private static void takeOfNone() {
        DUE.says("false (5) if there is none");
        StairShop shop = new StairShop();
        DUE.denied("ahead of any", shop, shop.take(), 5);
        shop.best(0, 0);
        DUE.denied("behind a refused one", shop, shop.take(), 5);
        shop.best(22, 22);
        DUE.denied("behind -2", shop, shop.take(), 5);
        shop.best(9, 9);
        shop.best(22, 22);
        DUE.denied("behind -2, which is the latest", shop, shop.take(), 5);
        DUE.same("T", shop.size(5), 12);
        DUE.same("acts", shop.size(10), 0);
        shop.best(9, 9);
        DUE.granted("behind one that told some", shop, shop.take());
        DUE.same("T", shop.size(5), 8);
        DUE.granted("twice", shop, shop.take());
        DUE.same("acts", shop.size(10), 2);
    }

    private static void takeOfOtherFlights() {
        DUE.says("false (5) .. or the PATH has another number of FLIGHTS");
        for (int told = 1; told <= 3; told++) {
            for (int now = 1; now <= 3; now++) {
                StairShop shop = path(told);
                shop.best(10, 10);
                shop.path(now);
                if (told == now) {
                    DUE.granted("take()", shop, shop.take());
                } else {
                    DUE.denied("told " + told + ", now " + now, shop, shop.take(), 5);
                }
                DUE.same("T", shop.size(5), told == now ? 9 : 5 * now - 1);
                DUE.same("acts", shop.size(10), told == now ? 3 : 2);
            }
        }
        StairShop shop = path(2);
        shop.best(10, 10);
        shop.path(1);
        shop.take();
        shop.undo();
        DUE.granted("the PATH is taken back", shop, shop.take());
    }

    private static void takeOfTheLeastAndMost() {
        DUE.says("The FLIGHTS have the TREADS that the latest best() told: true");
        StairShop shop = path(3);
        shop.flight(0, 4, 700);
        shop.turn(0, 1);
        shop.best(8, 8);
        DUE.granted("1 1 1", shop, shop.take());
        int[] kinds = {0, 3, 3, 3, 0, 2, 0};
        for (int k = 0; k < kinds.length; k++) {
            DUE.same("KIND of " + k, shop.tread(k, 0), kinds[k]);
        }
        DUE.same("T", shop.size(5), 7);
        DUE.same("LENGTHS stay", shop.tread(0, 3), 700);
        shop.turn(1, 1);
        shop.best(67, 67);
        DUE.granted("20 20 20", shop, shop.take());
        DUE.same("T", shop.size(5), 66);
        shop.undo();
        DUE.same("T", shop.size(5), 9);
    }

    private static void triedIndex() {
        DUE.says("NONE if there is no such try");
        StairShop shop = new StairShop();
        for (int i : these(-1, 0, 199, LEAST, GREATEST)) {
            DUE.same("ahead of any, tried(" + i + ")", shop.tried(i), -1);
        }
        Laws.law(shop, "all 1<=1");
        Laws.law(shop, "all count<=6");
        shop.best(5, 8);
        int[] due = {-1, -2, -2, 1, 1, -1};
        for (int i = -1; i <= 4; i++) {
            DUE.same("tried(" + i + ")", shop.tried(i), due[i + 1]);
        }
        shop.best(5, 5);
        DUE.same("tried(0)", shop.tried(0), -2);
        DUE.same("one ahead of it had a second one", shop.tried(1), -1);
        shop.best(22, 22);
        DUE.same("no tries", shop.tried(0), -1);
    }

    private static void triedFirst200() {
        DUE.says("Of try i of the latest best() (the first 200)");
        // two FLIGHTS, 4 to 23 RISERS: 1 + 2 + .. + 20 are 210 ways; up to 22 they are 190
        StairShop shop = path(2);
        Laws.law(shop, "all count<=22");
        shop.best(4, 23);
        DUE.same("TRIED", shop.bestOf(0), 210);
        int[][] due = {{189, -2}, {190, 0}, {198, 0}, {199, 0}, {200, -1}, {209, -1}, {210, -1}};
        for (int[] d : due) {
            DUE.same("tried(" + d[0] + ")", shop.tried(d[0]), d[1]);
        }
        shop.best(4, 22);
        DUE.same("tried(189)", shop.tried(189), -2);
        DUE.same("tried(190)", shop.tried(190), -1);
    }

    private static void stringIndex() {
        DUE.says("STRING of a FLIGHT, in tenths; NONE (4)");
        for (int n = 1; n <= 3; n++) {
            StairShop shop = path(n);
            for (int i : these(-1, n, LEAST, GREATEST)) {
                DUE.refused(n + " FLIGHTS, string(" + i + ")", shop, shop.string(i), 4);
            }
            shop.flight(0, 4, 0);
            // the RISERS of four TREADS alone: 2,600 by 5, by 10, by 15 (173 and five are left)
            int[] rise = {2080, 1040, 174 * 4};
            DUE.given("the first", shop, shop.string(0), 10 * rise[n - 1]);
            shop.flight(n - 1, 4, 0);
            int[] last = {2080, 1040, 173 * 4};
            DUE.given("the last", shop, shop.string(n - 1), 10 * last[n - 1]);
        }
    }

    private static void stringOfNothing() {
        DUE.says("its LENGTH flat by its RISE (the RISERS of its TREADS, of the first one's too, together)");
        StairShop shop = path(2);
        shop.flight(1, 0, 0);
        DUE.given("no TREADS, LENGTH 0", shop, shop.string(1), 0);
        shop.flight(1, 0, 1);
        DUE.given("no TREADS, LENGTH 1", shop, shop.string(1), 10);
        shop.flight(1, 0, 6000);
        DUE.given("no TREADS, LENGTH 6,000", shop, shop.string(1), 60000);
        shop.flight(1, 1, 0);
        DUE.given("one TREAD, LENGTH 0", shop, shop.string(1), 10 * (2600 / 7));
        shop.path(1);
        shop.first(1);
        shop.flight(0, 1, 0);
        DUE.given("the 30 of a BULL are not its LENGTH", shop, shop.string(0), 13000);
    }

    private static void stringDownwards() {
        DUE.says("the root of (100 times the sum of their squares) downwards: tenths");
        // one TREAD of half the HEIGHT: LENGTH, HEIGHT, root
        int[][] due = {{400, 600, 5000}, {300, 800, 5000}, {399, 600, 4992}, {401, 600, 5008}, {4000, 6000, 50000},
            {3999, 6000, 49992}, {4001, 6000, 50008}, {6000, 6000, 67082}, {1, 500, 2500}, {22, 500, 2509},
            {23, 500, 2510}, {250, 500, 3535}, {1, 6000, 30000}, {0, 501, 2510}};
        for (int[] d : due) {
            StairShop shop = new StairShop();
            shop.measures(d[1], 900, 400, 60);
            shop.flight(0, 1, d[0]);
            DUE.given("LENGTH " + d[0] + ", HEIGHT " + d[1], shop, shop.string(0), d[2]);
        }
        StairShop shop = new StairShop();
        shop.measures(6000, 900, 400, 60);
        shop.flight(0, 20, 6000);
        DUE.given("the greatest", shop, shop.string(0), 82862);
    }

    private static void pieceBounds() {
        DUE.says("A PIECE more (1 .. 10,000): how many; NONE: 1");
        StairShop shop = new StairShop();
        for (int length : these(0, -1, 10001, LEAST, GREATEST)) {
            DUE.refused("piece(" + length + ")", shop, shop.piece(length), 1);
            DUE.same("PIECES", shop.size(11), 0);
        }
        DUE.given("piece(1)", shop, shop.piece(1), 1);
        DUE.given("boards(1)", shop, shop.boards(1), 1);
        DUE.given("piece(10000)", shop, shop.piece(10000), 2);
        DUE.given("boards(10000)", shop, shop.boards(10000), 2);
        DUE.given("boards(9999)", shop, shop.boards(9999), -2);
    }

    private static void piecesFull() {
        DUE.says("PIECES 12 .. NONE: 1; 3");
        StairShop shop = new StairShop();
        for (int i = 1; i <= 12; i++) {
            DUE.given("PIECE " + i, shop, shop.piece(100), i);
        }
        DUE.refused("the 13th", shop, shop.piece(100), 3);
        DUE.refused("1 ahead of 3", shop, shop.piece(0), 1);
        DUE.refused("the 13th, longer", shop, shop.piece(10000), 3);
        DUE.same("PIECES", shop.size(11), 12);
        DUE.given("none is longer", shop, shop.boards(100), 12);
        DUE.same("acts", shop.size(10), 0);
        shop.undo();
        DUE.same("no act", shop.size(11), 12);
        shop.sweep();
        DUE.given("room again", shop, shop.piece(5), 1);
    }

    private static void sweepOfNoneAndAll() {
        DUE.says("All PIECES go: how many there were");
        StairShop shop = new StairShop();
        DUE.same("none", shop.sweep(), 0);
        for (int n = 1; n <= 12; n += 11) {
            for (int i = 0; i < n; i++) {
                shop.piece(50);
            }
            DUE.same("sweep()", shop.sweep(), n);
            DUE.same("PIECES", shop.size(11), 0);
            DUE.same("boards(1)", shop.boards(1), 0);
            DUE.same("again", shop.sweep(), 0);
        }
        DUE.same("acts", shop.size(10), 0);
    }

    private static void boardsBounds() {
        DUE.says("BOARDS of a length (1 .. 10,000) .. NONE (1)");
        StairShop shop = new StairShop();
        shop.piece(1);
        for (int length : these(0, -1, 10001, LEAST, GREATEST)) {
            DUE.refused("boards(" + length + ")", shop, shop.boards(length), 1);
        }
        DUE.given("boards(1)", shop, shop.boards(1), 1);
        DUE.given("boards(10000)", shop, shop.boards(10000), 1);
        shop.piece(10000);
        DUE.refused("1 ahead of -2", shop, shop.boards(0), 1);
        DUE.same("PIECES", shop.size(11), 2);
    }

    private static void boardsOfNone() {
        DUE.says("the fewest boards that all can be cut from: of no PIECES none");
        StairShop shop = new StairShop();
        DUE.given("boards(1)", shop, shop.boards(1), 0);
        DUE.given("boards(10000)", shop, shop.boards(10000), 0);
    }

    private static void boardsOfLonger() {
        DUE.says("-2 if a PIECE is longer");
        for (int place = 0; place < 12; place++) {
            StairShop shop = new StairShop();
            for (int i = 0; i < 12; i++) {
                shop.piece(i == place ? 700 : 20);
            }
            DUE.given("boards(699)", shop, shop.boards(699), -2);
            DUE.given("boards(700)", shop, shop.boards(700), 2);
            DUE.given("boards(1)", shop, shop.boards(1), -2);
        }
    }

    private static void cut(int length, int due, int... pieces) {
        StairShop shop = new StairShop();
        for (int piece : pieces) {
            shop.piece(piece);
        }
        DUE.given("boards(" + length + ") of " + java.util.Arrays.toString(pieces), shop, shop.boards(length), due);
    }

    private static void boardsFewest() {
        DUE.says("the fewest boards that all can be cut from, each whole; each cut takes nothing");
        cut(100, 1, 50, 50);
        cut(100, 2, 50, 51);
        cut(100, 1, 33, 33, 34);
        cut(100, 2, 34, 33, 34);
        cut(12, 1, 1, 1, 1, 1, 1, 1, 1, 1, 1, 1, 1, 1);
        cut(11, 2, 1, 1, 1, 1, 1, 1, 1, 1, 1, 1, 1, 1);
        cut(1, 12, 1, 1, 1, 1, 1, 1, 1, 1, 1, 1, 1, 1);
        cut(10000, 12, 10000, 10000, 10000, 10000, 10000, 10000, 10000, 10000, 10000, 10000, 10000, 10000);
        cut(10000, 6, 4000, 6000, 4000, 6000, 4000, 6000, 4000, 6000, 4000, 6000, 4000, 6000);
        cut(9999, 12, 5000, 5000, 5000, 5000, 5000, 5000, 5000, 5000, 5000, 5000, 5000, 5000);
        // in the order they came, and the longest first, the pieces would take one board more
        cut(10, 2, 3, 3, 3, 3, 4, 4);
        cut(10, 3, 6, 5, 5, 4, 4, 3, 3);
        cut(20, 3, 11, 11, 6, 6, 6, 5, 4, 4, 3, 3, 1);
        // all together they would fill two boards, but each is more than a half
        cut(100, 3, 66, 66, 68);
    }
}
