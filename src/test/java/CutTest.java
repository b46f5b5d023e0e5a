/** Promises 24 to 27: strings, pieces and boards. */
public final class CutTest {
    private static final Expect DUE = new Expect();

    public static void main(String[] args) {
        string();
        piece();
        sweep();
        boards();
        DUE.end("CutTest");
    }

    private static void string() {
        StairShop shop = new StairShop();
        // 12 RISERS of 200: 2,640 by 2,400
        DUE.same("string(0)", shop.string(0), 35678);
        shop.first(1);
        DUE.same("a BULL's 30 are not of the LENGTH", shop.string(0), 35678);
        shop.path(2);
        shop.measures(2606, 900, 400, 60);
        // 10 RISERS, the first six 261, then 260: the first flight has four of them, the second one 261 and 3 of 260
        DUE.same("string(0)", shop.string(0), 14456);
        DUE.same("string(1)", shop.string(1), 14434);
        DUE.refused("string(2)", shop, shop.string(2), 4);
        DUE.refused("string(-1)", shop, shop.string(-1), 4);
        DUE.same("string(0)", shop.string(0), 14456);
        DUE.same("trouble() behind an accepted call", shop.trouble(), 0);
        shop.flight(0, 0, 0);
        DUE.same("nothing", shop.string(0), 0);
        DUE.same("trouble()", shop.trouble(), 0);
        shop.path(1);
        shop.measures(6000, 900, 400, 60);
        shop.flight(0, 20, 6000);
        // the first 15 of 21 RISERS are 286, then 285: 5,715 of 20
        DUE.same("great", shop.string(0), 82862);
        // one tread of half the height: 3,000 by 4,000, then by 4,001
        shop.flight(0, 1, 4000);
        DUE.same("a whole root", shop.string(0), 50000);
        shop.flight(0, 1, 4001);
        DUE.same("50,008.0 and less than a tenth", shop.string(0), 50008);
        shop.measures(500, 900, 400, 60);
        shop.flight(0, 1, 1);
        DUE.same("2,500.02", shop.string(0), 2500);
        shop.flight(0, 1, 101);
        DUE.same("2,696.31", shop.string(0), 2696);
        shop.flight(0, 1, 102);
        DUE.same("2,700.07", shop.string(0), 2700);
        shop.flight(0, 1, 103);
        DUE.same("2,703.87", shop.string(0), 2703);
    }

    private static void piece() {
        StairShop shop = new StairShop();
        DUE.refused("piece(0)", shop, shop.piece(0), 1);
        DUE.refused("piece(10001)", shop, shop.piece(10001), 1);
        DUE.refused("piece(-5)", shop, shop.piece(-5), 1);
        for (int i = 1; i <= 12; i++) {
            DUE.same("piece", shop.piece(i == 1 ? 10000 : 1), i);
            DUE.same("trouble() behind an accepted call", shop.trouble(), 0);
        }
        DUE.refused("the 13th", shop, shop.piece(1), 3);
        DUE.refused("1 ahead of 3", shop, shop.piece(0), 1);
        DUE.same("PIECES", shop.size(11), 12);
        DUE.same("no act", shop.size(10), 0);
        DUE.same("two boards", shop.boards(10000), 2);
    }

    private static void sweep() {
        StairShop shop = new StairShop();
        DUE.same("none", shop.sweep(), 0);
        shop.piece(4);
        shop.piece(5);
        DUE.same("two", shop.sweep(), 2);
        DUE.same("PIECES", shop.size(11), 0);
        DUE.same("none", shop.sweep(), 0);
        DUE.same("boards", shop.boards(1), 0);
        DUE.same("piece", shop.piece(3), 1);
        DUE.same("boards", shop.boards(3), 1);
    }

    private static void cut(int length, int due, int... pieces) {
        StairShop shop = new StairShop();
        for (int piece : pieces) {
            shop.piece(piece);
        }
        DUE.same("boards(" + length + ")", shop.boards(length), due);
        DUE.same("boards(" + length + "), trouble()", shop.trouble(), 0);
    }

    private static void boards() {
        StairShop shop = new StairShop();
        DUE.refused("boards(0)", shop, shop.boards(0), 1);
        DUE.refused("boards(10001)", shop, shop.boards(10001), 1);
        DUE.refused("boards(-1)", shop, shop.boards(-1), 1);
        cut(1, 0);
        cut(10, 1, 10);
        cut(9, -2, 10);
        cut(10, 12, 10, 10, 10, 10, 10, 10, 10, 10, 10, 10, 10, 10);
        cut(10000, 12, 5001, 5001, 5001, 5001, 5001, 5001, 5001, 5001, 5001, 5001, 5001, 5001);
        cut(10000, 6, 5000, 5000, 5000, 5000, 5000, 5000, 5000, 5000, 5000, 5000, 5000, 5000);
        // the longest one first into the first board with room would take three
        cut(10, 2, 4, 4, 3, 3, 3, 3);
        cut(12, 2, 6, 5, 4, 4, 3, 2);
        cut(100, 4, 70, 60, 50, 50, 40, 30, 35, 35, 30);
    }
}
