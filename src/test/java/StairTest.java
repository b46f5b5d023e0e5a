/** Promises 1 to 11: a new object, the stair, its beams. */
public final class StairTest {
    private static final Expect DUE = new Expect();

    public static void main(String[] args) {
        newObject();
        measures();
        path();
        flight();
        turn();
        first();
        size();
        tread();
        riser();
        beam();
        heads();
        clear();
        DUE.end("StairTest");
    }

    private static void sizes(String what, StairShop shop, int... due) {
        for (int i = 0; i < due.length; i++) {
            DUE.same(what + ", size(" + i + ")", shop.size(i), due[i]);
        }
    }

    private static void newObject() {
        StairShop shop = new StairShop();
        sizes("new", shop, 2600, 900, 400, 60, 1, 12, 0, 0, 860, 2640, 0, 0);
        DUE.same("new, trouble()", shop.trouble(), 0);
        DUE.same("new, where()", shop.where(), -1);
        DUE.same("new, fault()", shop.fault(), 0);
        DUE.same("new, kind", shop.tread(0, 0), 0);
        DUE.same("new, may()", shop.may(), -2);
        DUE.same("new, bestOf(0)", shop.bestOf(0), -1);
        DUE.same("new, tried(0)", shop.tried(0), -1);
        DUE.same("NONE", StairShop.NONE, -1);
    }

    private static void measures() {
        StairShop shop = new StairShop();
        DUE.yes("least", shop.measures(500, 500, 200, 20));
        sizes("least", shop, 500, 500, 200, 20);
        DUE.yes("greatest", shop.measures(6000, 1500, 500, 150));
        sizes("greatest", shop, 6000, 1500, 500, 150);
        int[][] wrong = {{499, 500, 200, 20}, {6001, 500, 200, 20}, {500, 499, 200, 20}, {500, 1501, 200, 20},
            {500, 500, 199, 20}, {500, 500, 501, 20}, {500, 500, 200, 19}, {500, 500, 200, 151},
            {Integer.MIN_VALUE, 500, 200, 20}, {500, 500, 200, Integer.MAX_VALUE}};
        for (int[] w : wrong) {
            DUE.denied("measures", shop, shop.measures(w[0], w[1], w[2], w[3]), 1);
        }
        sizes("refused", shop, 6000, 1500, 500, 150);
        DUE.same("acts", shop.size(10), 2);
        DUE.yes("again", shop.measures(6000, 1500, 500, 150));
        DUE.same("trouble() behind an accepted call", shop.trouble(), 0);
        DUE.same("an act that changes nothing", shop.size(10), 3);
    }

    private static void path() {
        StairShop shop = new StairShop();
        shop.first(1);
        DUE.yes("path(3)", shop.path(3));
        shop.turn(1, 1);
        shop.flight(2, 20, 6000);
        DUE.same("T", shop.size(5), 4 + 1 + 4 + 3 + 20);
        DUE.yes("path(3)", shop.path(3));
        sizes("path(3)", shop, 2600, 900, 400, 60, 3, 14, 0, 0, 80 + 11 * 50 + 2 * 200 + 15 * 20, 3000 + 30 + 1800);
        for (int k = 0; k < 14; k++) {
            boolean turn = k == 4 || k == 9;
            DUE.same("kind " + k, shop.tread(k, 0), turn ? 2 : k == 0 ? 1 : 0);
        }
        DUE.yes("path(1)", shop.path(1));
        DUE.same("T", shop.size(5), 4);
        DUE.denied("path(0)", shop, shop.path(0), 1);
        DUE.denied("path(4)", shop, shop.path(4), 1);
        DUE.denied("path(-1)", shop, shop.path(-1), 1);
        DUE.same("FLIGHTS", shop.size(4), 1);
    }

    private static void flight() {
        StairShop shop = new StairShop();
        DUE.denied("flight(1, 4, 4)", shop, shop.flight(1, 4, 4), 4);
        DUE.denied("flight(-1, 4, 4)", shop, shop.flight(-1, 4, 4), 4);
        DUE.denied("4 ahead of 1", shop, shop.flight(1, -1, -1), 4);
        DUE.denied("treads", shop, shop.flight(0, -1, 4), 1);
        DUE.denied("treads", shop, shop.flight(0, 21, 4), 1);
        DUE.denied("length", shop, shop.flight(0, 4, -1), 1);
        DUE.denied("length", shop, shop.flight(0, 4, 6001), 1);
        DUE.denied("no tread in any", shop, shop.flight(0, 0, 4), 1);
        DUE.yes("most", shop.flight(0, 20, 6000));
        DUE.same("going", shop.tread(19, 3), 300);
        DUE.yes("least", shop.flight(0, 1, 0));
        DUE.same("going", shop.tread(0, 3), 0);
        DUE.same("T", shop.size(5), 1);
        shop.path(2);
        DUE.yes("one is empty", shop.flight(1, 0, 700));
        DUE.denied("both would be", shop, shop.flight(0, 0, 700), 1);
        DUE.yes("the other one gets some", shop.flight(1, 1, 700));
        DUE.yes("now it may", shop.flight(0, 0, 700));
        DUE.same("T", shop.size(5), 2);
        DUE.same("goings", shop.size(9), 900 + 700);
    }

    private static void turn() {
        StairShop shop = new StairShop();
        DUE.denied("one flight", shop, shop.turn(0, 0), 4);
        shop.path(3);
        DUE.denied("turn(2, 0)", shop, shop.turn(2, 0), 4);
        DUE.denied("turn(-1, 0)", shop, shop.turn(-1, 0), 4);
        DUE.denied("4 ahead of 1", shop, shop.turn(2, 7), 4);
        DUE.denied("turn(1, 2)", shop, shop.turn(1, 2), 1);
        DUE.denied("turn(1, -1)", shop, shop.turn(1, -1), 1);
        DUE.yes("turn(1, 1)", shop.turn(1, 1));
        DUE.same("T", shop.size(5), 16);
        DUE.same("landing", shop.tread(4, 0), 2);
        DUE.same("winder", shop.tread(9, 0), 3);
        DUE.same("winder", shop.tread(11, 0), 3);
        DUE.same("behind it", shop.tread(12, 0), 0);
        DUE.yes("turn(1, 0)", shop.turn(1, 0));
        DUE.same("T", shop.size(5), 14);
    }

    private static void first() {
        StairShop shop = new StairShop();
        DUE.denied("first(2)", shop, shop.first(2), 1);
        DUE.denied("first(-1)", shop, shop.first(-1), 1);
        DUE.yes("first(1)", shop.first(1));
        DUE.same("kind", shop.tread(0, 0), 1);
        DUE.same("going", shop.tread(0, 3), 250);
        DUE.same("narrow", shop.tread(0, 4), 220);
        DUE.same("price", shop.size(8), 890);
        DUE.same("goings", shop.size(9), 2670);
        shop.path(2);
        shop.flight(0, 0, 1000);
        DUE.same("no first one of the first flight", shop.tread(0, 0), 2);
        DUE.same("the second flight has no bull", shop.tread(1, 0), 0);
        DUE.yes("first(0)", shop.first(0));
        shop.path(1);
        DUE.same("kind", shop.tread(0, 0), 0);
    }

    private static void size() {
        StairShop shop = new StairShop();
        DUE.same("size(-1)", shop.size(-1), -1);
        DUE.same("size(12)", shop.size(12), -1);
        DUE.same("size(MIN)", shop.size(Integer.MIN_VALUE), -1);
        shop.path(2);
        shop.beam(0, 1, 5);
        Laws.law(shop, "all 1<=1");
        shop.piece(7);
        shop.piece(8);
        sizes("some", shop, 2600, 900, 400, 60, 2, 9, 1, 1, 8 * 50 + 200 + 10 * 20, 2900, 3, 2);
    }

    private static void tread() {
        StairShop shop = new StairShop();
        shop.measures(2705, 800, 450, 77);
        shop.path(3);
        shop.first(1);
        shop.flight(0, 3, 800);
        shop.turn(0, 1);
        shop.flight(1, 0, 500);
        shop.flight(2, 2, 501);
        // T is 9; risers are 271 five times, then 270; 450 * 11 / 7 is 707, 77 * 11 / 7 is 121
        int[][] due = {
            {1, 271, 271, 297, 267, 0, 9999, 0, -1},
            {0, 271, 542, 267, 267, 297, 9999, 0, -1},
            {0, 271, 813, 266, 266, 564, 9999, 0, -1},
            {3, 271, 1084, 236, 41, 830, 9999, -1, 0},
            {3, 271, 1355, 236, 40, 1066, 9999, -1, 0},
            {3, 270, 1625, 235, 40, 1302, 9999, -1, 0},
            {2, 270, 1895, 800, 800, 1537, 9999, -1, 1},
            {0, 270, 2165, 251, 251, 2337, 9999, 2, -1},
            {0, 270, 2435, 250, 250, 2588, 9999, 2, -1}};
        DUE.same("T", shop.size(5), due.length);
        for (int k = 0; k < due.length; k++) {
            for (int what = 0; what < 9; what++) {
                DUE.same("tread(" + k + ", " + what + ")", shop.tread(k, what), due[k][what]);
            }
        }
        DUE.same("goings", shop.size(9), 2838);
        int[][] none = {{-1, 0}, {9, 0}, {0, -1}, {0, 9}, {Integer.MIN_VALUE, 0}, {0, Integer.MAX_VALUE}};
        for (int[] n : none) {
            DUE.same("tread(" + n[0] + ", " + n[1] + ")", shop.tread(n[0], n[1]), -10000);
        }
    }

    private static void riser() {
        StairShop shop = new StairShop();
        shop.measures(2605, 900, 400, 60);
        int sum = 0;
        for (int k = 0; k <= 12; k++) {
            DUE.same("riser(" + k + ")", shop.riser(k), k < 5 ? 201 : 200);
            sum += shop.riser(k);
        }
        DUE.same("all", sum, 2605);
        DUE.same("riser(-1)", shop.riser(-1), -1);
        DUE.same("riser(13)", shop.riser(13), -1);
    }

    private static void beam() {
        StairShop shop = new StairShop();
        DUE.refused("from", shop, shop.beam(-1, 5, 5), 1);
        DUE.refused("from", shop, shop.beam(20001, 20002, 5), 1);
        DUE.refused("to", shop, shop.beam(5, 5, 5), 1);
        DUE.refused("to", shop, shop.beam(5, 4, 5), 1);
        DUE.refused("under", shop, shop.beam(5, 6, -1), 1);
        DUE.refused("under", shop, shop.beam(5, 6, 9001), 1);
        DUE.same("beam", shop.beam(20000, Integer.MAX_VALUE, 9000), 1);
        for (int i = 2; i <= 8; i++) {
            DUE.same("beam", shop.beam(0, 1, 0), i);
        }
        DUE.refused("the ninth", shop, shop.beam(0, 1, 0), 3);
        DUE.refused("1 ahead of 3", shop, shop.beam(0, 0, 0), 1);
        DUE.same("BEAMS", shop.size(7), 8);
    }

    private static void heads() {
        StairShop shop = new StairShop();
        shop.flight(0, 3, 300);
        shop.beam(100, 200, 2500);
        // RISERS are 650 each
        DUE.same("ends where it begins", shop.tread(0, 6), 9999);
        DUE.same("above it", shop.tread(1, 6), 2500 - 1300);
        DUE.same("begins where it ends", shop.tread(2, 6), 9999);
        shop.beam(199, 201, 100);
        DUE.same("the least", shop.tread(1, 6), 100 - 1300);
        DUE.same("below 0", shop.tread(2, 6), 100 - 1950);
        shop.beam(0, 1000, 9000);
        DUE.same("high", shop.tread(0, 6), 9000 - 650);
        DUE.same("the least is lower", shop.tread(2, 6), 100 - 1950);
        shop.flight(0, 3, 2);
        DUE.same("going 1", shop.tread(1, 3), 1);
        DUE.same("going 1", shop.tread(1, 6), 9000 - 1300);
        DUE.same("going 0", shop.tread(2, 3), 0);
        DUE.same("none of it is below a beam", shop.tread(2, 6), 9999);
    }

    private static void clear() {
        StairShop shop = new StairShop();
        DUE.same("none", shop.clear(), 0);
        DUE.same("is no act", shop.size(10), 0);
        shop.beam(0, 100, 1000);
        shop.beam(0, 100, 900);
        DUE.same("two", shop.clear(), 2);
        DUE.same("an act", shop.size(10), 3);
        DUE.same("BEAMS", shop.size(7), 0);
        DUE.same("head", shop.tread(0, 6), 9999);
        DUE.same("undo", shop.undo(), 1);
        DUE.same("head", shop.tread(0, 6), 700);
    }
}
