import java.util.NoSuchElementException;

/** Promises 28 to 34: the sheet, acts taken back, trouble. */
public final class SheetTest {
    private static final Expect DUE = new Expect();

    public static void main(String[] args) {
        tell();
        told();
        alter();
        check();
        undoEach();
        undoForty();
        trouble();
        where();
        DUE.end("SheetTest");
    }

    private static void tell() {
        StairShop shop = new StairShop();
        shop.path(2);
        shop.turn(0, 1);
        shop.first(1);
        DUE.same("tell()", shop.tell(), 44);
        int[] whats = {0, 1, 3, 4};
        for (int k = 0; k < 44; k++) {
            DUE.same("told(" + k + ")", shop.told(k), shop.tread(k / 4, whats[k % 4]));
        }
        shop.path(1);
        DUE.same("what was told stays", shop.told(43), 250);
        DUE.same("tell()", shop.tell(), 16);
        DUE.same("acts", shop.size(10), 4);
        shop.path(3);
        shop.turn(0, 1);
        shop.turn(1, 1);
        for (int i = 0; i < 3; i++) {
            shop.flight(i, 20, 6000);
        }
        DUE.same("the most", shop.tell(), 264);
        DUE.same("the last", shop.told(263), 300);
        DUE.same("check()", shop.check(), -2);
    }

    private static void throwsAt(String what, StairShop shop, int k) {
        boolean thrown = false;
        try {
            shop.told(k);
        } catch (NoSuchElementException e) {
            thrown = true;
        }
        DUE.yes(what + " throws", thrown);
    }

    private static void told() {
        StairShop shop = new StairShop();
        throwsAt("ahead of any", shop, 0);
        shop.tell();
        DUE.same("told(47)", shop.told(47), 220);
        throwsAt("told(48)", shop, 48);
        throwsAt("told(-1)", shop, -1);
        throwsAt("told(MAX)", shop, Integer.MAX_VALUE);
        shop.flight(0, 1, 5);
        shop.tell();
        throwsAt("told(4)", shop, 4);
    }

    private static void alter() {
        StairShop shop = new StairShop();
        DUE.denied("ahead of any", shop, shop.alter(0, 1), 4);
        shop.tell();
        DUE.denied("alter(48, 1)", shop, shop.alter(48, 1), 4);
        DUE.denied("alter(-1, 1)", shop, shop.alter(-1, 1), 4);
        DUE.yes("alter", shop.alter(1, 200 ^ 77));
        DUE.same("told(1)", shop.told(1), 77);
        DUE.yes("alter", shop.alter(1, -1));
        DUE.same("told(1)", shop.told(1), ~77);
        DUE.yes("alter", shop.alter(1, 0));
        DUE.same("told(1)", shop.told(1), ~77);
        DUE.same("trouble()", shop.trouble(), 0);
        DUE.yes("the first", shop.alter(0, 6));
        DUE.same("told(0)", shop.told(0), 6);
        DUE.yes("the last", shop.alter(47, 1));
        DUE.same("told(47)", shop.told(47), 221);
        DUE.same("the stair is as it was", shop.tread(0, 1), 200);
        DUE.same("no act", shop.size(10), 0);
    }

    private static void check() {
        StairShop shop = new StairShop();
        DUE.refused("nothing is told", shop, shop.check(), 5);
        shop.tell();
        DUE.same("alike", shop.check(), -2);
        DUE.same("trouble()", shop.trouble(), 0);
        shop.alter(47, 1);
        DUE.same("the last", shop.check(), 47);
        shop.alter(5, 4);
        DUE.same("the first of two", shop.check(), 5);
        shop.tell();
        shop.first(1);
        DUE.same("a bull", shop.check(), 0);
        shop.first(0);
        shop.flight(0, 12, 2639);
        DUE.same("the last one's going", shop.check(), 46);
        shop.price(0, 5);
        shop.flight(0, 12, 2640);
        DUE.same("prices are not told", shop.check(), -2);
        shop.flight(0, 13, 2640);
        DUE.same("not as many", shop.check(), -3);
    }

    private static int[] state(StairShop shop) {
        int[] state = new int[10 + shop.size(5) * 9 + shop.size(6) * 4];
        int n = 0;
        for (int i = 0; i < 10; i++) {
            state[n++] = shop.size(i);
        }
        for (int k = 0; k < shop.size(5); k++) {
            for (int what = 0; what < 9; what++) {
                state[n++] = shop.tread(k, what);
            }
        }
        for (int i = 0; i < shop.size(6); i++) {
            for (int what = 0; what < 4; what++) {
                state[n++] = shop.broken(i, what);
            }
        }
        return state;
    }

    private static boolean act(StairShop shop, int i) {
        switch (i) {
            case 0: return shop.measures(2500, 800, 300, 50);
            case 1: return shop.path(2);
            case 2: return shop.flight(0, 2, 900);
            case 3: return shop.turn(0, 1);
            case 4: return shop.first(1);
            case 5: return shop.beam(0, 900, 2200) == 1;
            case 6: return shop.clear() == 1;
            case 7: return Laws.law(shop, "all kind<=2") == 0;
            case 8: return shop.repeal();
            case 9: return shop.price(4, 35);
            default:
                shop.best(8, 12);
                return shop.take();
        }
    }

    private static void undoEach() {
        StairShop shop = new StairShop();
        int[][] ahead = new int[11][];
        for (int i = 0; i < 11; i++) {
            ahead[i] = state(shop);
            DUE.yes("act " + i, act(shop, i));
            DUE.same("acts", shop.size(10), i + 1);
            DUE.yes("act " + i + " changes something", !java.util.Arrays.equals(ahead[i], state(shop)));
            shop.undo();
            DUE.yes("act " + i + " is taken back", java.util.Arrays.equals(ahead[i], state(shop)));
            DUE.same("acts", shop.size(10), i);
            act(shop, i);
        }
        for (int i = 10; i >= 0; i--) {
            DUE.same("undo()", shop.undo(), 1);
            DUE.yes("act " + i + " is taken back", java.util.Arrays.equals(ahead[i], state(shop)));
        }
        DUE.same("none is left", shop.undo(), 0);
        shop.piece(5);
        shop.tell();
        shop.alter(0, 5);
        shop.sweep();
        shop.feed(0, 0, 0, 0, 0);
        shop.law(20);
        shop.clear();
        shop.measures(0, 0, 0, 0);
        shop.best(2, 5);
        DUE.same("no acts", shop.undo(), 0);
    }

    private static void undoForty() {
        StairShop shop = new StairShop();
        for (int i = 1; i <= 45; i++) {
            shop.measures(1000 + i, 900, 400, 60);
            DUE.same("acts", shop.size(10), Math.min(i, 40));
        }
        for (int i = 44; i >= 41; i--) {
            DUE.same("undo()", shop.undo(), 1);
            DUE.same("HEIGHT", shop.size(0), 1000 + i);
        }
        DUE.same("acts", shop.size(10), 36);
        shop.measures(2000, 900, 400, 60);
        DUE.same("undo()", shop.undo(), 1);
        for (int i = 40; i >= 5; i--) {
            DUE.same("HEIGHT", shop.size(0), 1000 + (i + 1));
            DUE.same("undo()", shop.undo(), 1);
        }
        DUE.same("HEIGHT", shop.size(0), 1005);
        DUE.same("undo()", shop.undo(), 0);
        DUE.same("HEIGHT", shop.size(0), 1005);
    }

    private static void trouble() {
        StairShop shop = new StairShop();
        shop.first(9);
        shop.size(99);
        shop.tread(99, 0);
        shop.riser(99);
        shop.clear();
        shop.fault();
        shop.may();
        shop.bestOf(99);
        shop.tried(99);
        shop.sweep();
        shop.tell();
        shop.told(0);
        shop.undo();
        shop.where();
        shop.feed(0, 0, 0, 0, 0);
        DUE.same("these are never refused", shop.trouble(), 1);
        DUE.same("trouble() is asked twice", shop.trouble(), 1);
        shop.check();
        DUE.same("it wasn't", shop.trouble(), 0);
    }

    private static void where() {
        StairShop shop = new StairShop();
        DUE.same("new", shop.where(), -1);
        Laws.law(shop, "all x");
        DUE.same("by 2", shop.where(), 4);
        shop.undo();
        shop.size(0);
        DUE.same("still", shop.where(), 4);
        shop.boards(4);
        DUE.same("a later call", shop.where(), -1);
        Laws.law(shop, "all 1<=");
        DUE.same("the end", shop.where(), 7);
        shop.law(9);
        DUE.same("by 1", shop.where(), -1);
    }
}
