/** Promises 19 to 23: prices, and the best way of parting treads. */
public final class BestTest {
    private static final Expect DUE = new Expect();

    public static void main(String[] args) {
        price();
        oneFlight();
        order();
        laws();
        most();
        nothingTried();
        refused();
        take();
        DUE.end("BestTest");
    }

    private static void price() {
        StairShop shop = new StairShop();
        shop.path(3);
        shop.turn(1, 1);
        shop.first(1);
        DUE.same("at first", shop.size(8), 80 + 11 * 50 + 200 + 3 * 120 + 17 * 20);
        int[] prices = {10000, 3, 0, 7, 11};
        for (int kind = 0; kind < 5; kind++) {
            DUE.yes("price", shop.price(kind, prices[kind]));
        }
        DUE.same("told", shop.size(8), 3 + 110000 + 3 * 7 + 17 * 11);
        DUE.denied("kind", shop, shop.price(-1, 5), 1);
        DUE.denied("kind", shop, shop.price(5, 5), 1);
        DUE.denied("v", shop, shop.price(0, -1), 1);
        DUE.denied("v", shop, shop.price(0, 10001), 1);
        DUE.same("as it was", shop.size(8), 3 + 110000 + 3 * 7 + 17 * 11);
        DUE.same("undo", shop.undo(), 1);
        DUE.same("undone", shop.size(8), 3 + 110000 + 3 * 7 + 17 * 20);
    }

    private static void bestOf(String what, StairShop shop, int... due) {
        for (int i = 0; i < due.length; i++) {
            DUE.same(what + ", bestOf(" + i + ")", shop.bestOf(i), due[i]);
        }
        DUE.same(what + ", bestOf(-1)", shop.bestOf(-1), -1);
        DUE.same(what + ", bestOf(6)", shop.bestOf(6), -1);
    }

    private static void oneFlight() {
        StairShop shop = new StairShop();
        bestOf("ahead of any", shop, -1, -1, -1, -1, -1, -1);
        DUE.same("the fewest", shop.best(2, 67), 50 + 2 * 20);
        bestOf("the fewest", shop, 20, 2, 1, -1, -1, 20);
        DUE.same("the stair is as it was", shop.size(5), 12);
        DUE.same("acts", shop.size(10), 0);
        DUE.same("21 treads are too many", shop.best(22, 67), -2);
        bestOf("too many", shop, 0, -1, -1, -1, -1, 0);
        shop.price(0, 0);
        shop.price(4, 0);
        DUE.same("all alike", shop.best(5, 8), 0);
        bestOf("the first", shop, 4, 5, 4, -1, -1, 4);
    }

    private static void order() {
        StairShop shop = new StairShop();
        shop.path(3);
        // 9 risers are 8 treads, two of them landings: 6 for the flights, 10 ways
        Laws.law(shop, "some number<=4 and number>=4 and kind>=2");
        DUE.same("best", shop.best(9, 9), 6 * 50 + 400 + 180);
        // number 4 is a landing with 3 treads in the first flight, or with 1 in it and 1 in the second
        bestOf("order", shop, 10, 9, 1, 1, 4, 3);
        // 1 1 4, 1 2 3, 1 3 2, 1 4 1, 2 1 3, 2 2 2, 2 3 1, 3 1 2, 3 2 1, 4 1 1
        int[] tries = {-2, 0, 0, 0, 0, 0, 0, -2, -2, 0};
        for (int i = 0; i < tries.length; i++) {
            DUE.same("tried(" + i + ")", shop.tried(i), tries[i]);
        }
        DUE.same("tried(10)", shop.tried(10), -1);
        DUE.same("tried(-1)", shop.tried(-1), -1);
    }

    private static void laws() {
        StairShop shop = new StairShop();
        Laws.law(shop, "all riser<=190");
        Laws.law(shop, "all going>=180");
        // 2,600 by 14 is 185 and some; 2,640 by 14 treads is 188, by 15 it is 176
        DUE.same("best", shop.best(10, 20), 13 * 50 + 14 * 20);
        bestOf("laws", shop, 11, 14, 13, -1, -1, 2);
        for (int i = 0; i < 11; i++) {
            DUE.same("tried(" + i + ")", shop.tried(i), i < 4 ? 0 : i < 6 ? -2 : 1);
        }
        Laws.law(shop, "all 2<=1");
        shop.first(7);
        DUE.same("all break one", shop.best(10, 20), -2);
        DUE.same("that is no refusal", shop.trouble(), 0);
        bestOf("all break one", shop, 11, -1, -1, -1, -1, 0);
        DUE.same("tried(4)", shop.tried(4), 2);
    }

    private static void most() {
        StairShop shop = new StairShop();
        shop.path(3);
        shop.turn(0, 1);
        shop.turn(1, 1);
        shop.price(0, 0);
        shop.price(4, 0);
        DUE.same("up to 2,000", shop.best(2, 67), 720);
        DUE.same("TRIED", shop.bestOf(0), 2000);
        DUE.same("kept", shop.bestOf(5), 2000);
        DUE.same("RISERS", shop.bestOf(1), 10);
        DUE.same("tried(199)", shop.tried(199), -2);
        DUE.same("tried(200)", shop.tried(200), -1);
        DUE.same("66 treads", shop.best(67, 67), 720);
        bestOf("66 treads", shop, 1, 67, 20, 20, 20, 1);
        DUE.same("65 treads", shop.best(66, 67), 720);
        bestOf("65 treads", shop, 4, 66, 19, 20, 20, 4);
    }

    private static void nothingTried() {
        StairShop shop = new StairShop();
        shop.path(2);
        DUE.same("a landing and nothing else", shop.best(2, 3), -2);
        bestOf("none", shop, 0, -1, -1, -1, -1, 0);
        DUE.same("tried(0)", shop.tried(0), -1);
        DUE.denied("take", shop, shop.take(), 5);
    }

    private static void refused() {
        StairShop shop = new StairShop();
        int[][] wrong = {{1, 5}, {5, 4}, {2, 68}, {-7, 3}, {Integer.MIN_VALUE, Integer.MAX_VALUE}};
        for (int[] w : wrong) {
            DUE.refused("best", shop, shop.best(w[0], w[1]), 1);
        }
        DUE.same("ahead of any", shop.bestOf(0), -1);
        shop.best(4, 6);
        DUE.refused("best", shop, shop.best(0, 6), 1);
        bestOf("as it was", shop, 3, 4, 3, -1, -1, 3);
    }

    private static void take() {
        StairShop shop = new StairShop();
        DUE.denied("ahead of any", shop, shop.take(), 5);
        shop.path(2);
        shop.flight(0, 4, 1500);
        shop.flight(1, 0, 1700);
        DUE.same("best", shop.best(9, 12), 350 + 200 + 180);
        bestOf("best", shop, 6 + 7 + 8 + 9, 9, 1, 6, -1, 30);
        DUE.yes("take", shop.take());
        DUE.same("T", shop.size(5), 8);
        DUE.same("the landing", shop.tread(1, 0), 2);
        DUE.same("the length is as it was", shop.tread(0, 3), 1500);
        DUE.same("undo", shop.undo(), 1);
        DUE.same("T", shop.size(5), 5);
        DUE.yes("again", shop.take());
        shop.path(3);
        DUE.denied("other flights", shop, shop.take(), 5);
        DUE.same("told all the same", shop.bestOf(3), 6);
        DUE.same("there was no third one", shop.bestOf(4), -1);
        shop.path(2);
        shop.turn(0, 1);
        DUE.yes("as many flights", shop.take());
        DUE.same("T", shop.size(5), 10);
        Laws.law(shop, "all 2<=1");
        DUE.same("best", shop.best(9, 12), -2);
        DUE.denied("none was told", shop, shop.take(), 5);
    }
}
