import java.util.NoSuchElementException;

/** The edges that the document names in Term VI, in promises 28 to 34 and in "What it is", sentence by sentence. */
public final class EdgeToldTest {
    private static final int LEAST = Integer.MIN_VALUE;
    private static final int GREATEST = Integer.MAX_VALUE;
    private static final Expect DUE = new Expect();

    public static void main(String[] args) {
        tellFewestAndMost();
        tellAgain();
        toldIndex();
        alterIndex();
        alterMask();
        checkOfNone();
        checkNotAsMany();
        checkFirstAndLast();
        checkAsTheStairIs();
        undoOfNone();
        undoOfForty();
        undoAndGoOn();
        undoOfEachNumber();
        undoIsOfAcceptedActs();
        undoLeavesWhatIsNoAct();
        troubleOfEach();
        troubleLeft();
        whereByTwo();
        calls512();
        DUE.end("EdgeToldTest");
    }

    private static int[] these(int... v) {
        return v;
    }

    private static StairShop shortest() {
        StairShop shop = new StairShop();
        shop.flight(0, 1, 300);
        return shop;
    }

    private static StairShop longest() {
        StairShop shop = new StairShop();
        shop.path(3);
        for (int f = 0; f < 3; f++) {
            shop.flight(f, 20, 6000);
            shop.turn(f, 1);
        }
        return shop;
    }

    private static void tellFewestAndMost() {
        DUE.says("of each TREAD KIND, RISER, GOING, NARROW, one behind the other: how many numbers");
        StairShop one = shortest();
        one.first(1);
        DUE.same("T 1, tell()", one.tell(), 4);
        int[] due = {1, 1300, 330, 300};
        for (int k = 0; k < 4; k++) {
            DUE.same("T 1, told(" + k + ")", one.told(k), due[k]);
        }
        StairShop most = longest();
        DUE.same("T 66, tell()", most.tell(), 264);
        // the last TREAD of a FLIGHT, the first and the last WINDER, the last TREAD of all
        int[][] at = {{76, 0}, {77, 39}, {78, 300}, {79, 300}, {80, 3}, {81, 39}, {82, 210}, {83, 32}, {88, 3}, {89, 39},
            {90, 209}, {91, 31}, {92, 0}, {260, 0}, {261, 38}, {262, 300}, {263, 300}};
        for (int[] a : at) {
            DUE.same("T 66, told(" + a[0] + ")", most.told(a[0]), a[1]);
        }
        DUE.same("T 66, check()", most.check(), -2);
    }

    private static void tellAgain() {
        DUE.says("The stair is TOLD to THE SHEET");
        StairShop shop = new StairShop();
        shop.tell();
        shop.alter(0, 9);
        DUE.same("again", shop.tell(), 48);
        DUE.same("what was altered is told anew", shop.told(0), 0);
        shop.flight(0, 1, 300);
        DUE.same("fewer", shop.tell(), 4);
        throwsAt("what is behind them is gone", shop, 4);
        shop.flight(0, 2, 300);
        DUE.same("more", shop.tell(), 8);
        DUE.same("the last", shop.told(7), 150);
        throwsAt("behind it", shop, 8);
        DUE.same("tell() is no act", shop.size(10), 2);
    }

    private static void throwsAt(String what, StairShop shop, int k) {
        boolean thrown = false;
        try {
            shop.told(k);
        } catch (NoSuchElementException e) {
            thrown = true;
        }
        DUE.yes(what + ", told(" + k + ") throws", thrown);
    }

    private static void toldIndex() {
        DUE.says("Number k of THE SHEET. NoSuchElementException if there is none such");
        StairShop shop = new StairShop();
        for (int k : these(-1, 0, 1, 48, 263, 264, LEAST, GREATEST)) {
            throwsAt("nothing is TOLD", shop, k);
        }
        shop.tell();
        for (int k : these(-1, 48, 49, 263, 264, LEAST, GREATEST)) {
            throwsAt("48 numbers", shop, k);
        }
        DUE.same("told(0)", shop.told(0), 0);
        DUE.same("told(47)", shop.told(47), 220);
        shop.path(1);
        DUE.same("THE SHEET stays, told(47)", shop.told(47), 220);
        throwsAt("48 numbers still", shop, 48);
        StairShop most = longest();
        most.tell();
        DUE.same("told(263)", most.told(263), 300);
        throwsAt("264 numbers", most, 264);
    }

    private static void alterIndex() {
        DUE.says("Number k of THE SHEET becomes it, either (xor) mask: true; false (4)");
        StairShop shop = new StairShop();
        for (int k : these(-1, 0, 1, LEAST, GREATEST)) {
            DUE.denied("nothing is TOLD, alter(" + k + ", 1)", shop, shop.alter(k, 1), 4);
        }
        shop.tell();
        for (int k : these(-1, 48, 263, 264, LEAST, GREATEST)) {
            DUE.denied("48 numbers, alter(" + k + ", 1)", shop, shop.alter(k, 1), 4);
        }
        DUE.same("as it was", shop.check(), -2);
        DUE.granted("alter(0, 1)", shop, shop.alter(0, 1));
        DUE.same("told(0)", shop.told(0), 1);
        DUE.same("told(1)", shop.told(1), 200);
        DUE.granted("alter(47, 1)", shop, shop.alter(47, 1));
        DUE.same("told(47)", shop.told(47), 221);
        DUE.same("told(46)", shop.told(46), 220);
        shop.flight(0, 1, 5);
        DUE.granted("THE SHEET has 48 still", shop, shop.alter(47, 1));
        shop.tell();
        DUE.denied("now it has 4", shop, shop.alter(4, 1), 4);
        DUE.granted("the last of them", shop, shop.alter(3, 1));
        DUE.same("no act", shop.size(10), 1);
    }

    private static void alterMask() {
        DUE.says("either (xor) mask");
        StairShop shop = new StairShop();
        shop.tell();
        for (int mask : these(0, 1, -1, 200, 0xff, LEAST, GREATEST)) {
            DUE.granted("mask " + mask, shop, shop.alter(1, mask));
            DUE.same("told(1)", shop.told(1), 200 ^ mask);
            DUE.same("check()", shop.check(), mask == 0 ? -2 : 1);
            DUE.granted("mask " + mask + " again", shop, shop.alter(1, mask));
            DUE.same("told(1)", shop.told(1), 200);
            DUE.same("check()", shop.check(), -2);
        }
    }

    private static void checkOfNone() {
        DUE.says("NONE (5) if there is none");
        StairShop shop = new StairShop();
        DUE.refused("check()", shop, shop.check(), 5);
        shop.alter(0, 1);
        shop.flight(0, 3, 300);
        DUE.refused("check()", shop, shop.check(), 5);
        shop.tell();
        DUE.given("check()", shop, shop.check(), -2);
    }

    private static void checkNotAsMany() {
        DUE.says("-3 if there are not as many");
        StairShop shop = new StairShop();
        shop.tell();
        int[] due = {-3, -2, -3};
        for (int treads = 11; treads <= 13; treads++) {
            shop.flight(0, treads, 2640);
            DUE.given("T " + treads, shop, shop.check(), due[treads - 11]);
        }
        shop.alter(0, 7);
        DUE.given("-3 ahead of the first that isn't", shop, shop.check(), -3);
        shop.flight(0, 1, 2640);
        DUE.given("T 1", shop, shop.check(), -3);
        shop.flight(0, 12, 2640);
        DUE.given("T 12 again", shop, shop.check(), 0);
    }

    private static void checkFirstAndLast() {
        DUE.says("-2 if all are alike .. else the first that isn't");
        StairShop shop = new StairShop();
        shop.tell();
        for (int k = 47; k >= 0; k--) {
            shop.alter(k, 1);
            DUE.given("from " + k + " on", shop, shop.check(), k);
        }
        for (int k = 0; k < 48; k++) {
            DUE.given("from " + k + " on", shop, shop.check(), k);
            shop.alter(k, 1);
        }
        DUE.given("all are alike", shop, shop.check(), -2);
    }

    private static void checkAsTheStairIs() {
        DUE.says("THE SHEET beside the stair as it is");
        StairShop shop = new StairShop();
        shop.tell();
        shop.measures(2601, 900, 400, 60);
        DUE.given("the first RISER", shop, shop.check(), 1);
        shop.measures(2599, 900, 400, 60);
        DUE.given("the last RISER is of no TREAD", shop, shop.check(), -2);
        shop.measures(2598, 900, 400, 60);
        DUE.given("the last TREAD's RISER", shop, shop.check(), 45);
        shop.undo();
        shop.flight(0, 12, 2641);
        DUE.given("the first GOING", shop, shop.check(), 2);
        shop.flight(0, 12, 2639);
        DUE.given("the last GOING", shop, shop.check(), 46);
        shop.undo();
        shop.undo();
        shop.first(1);
        DUE.given("the first KIND", shop, shop.check(), 0);
        shop.alter(0, 1);
        DUE.given("the first GOING, of a BULL", shop, shop.check(), 2);
        shop.alter(2, 220 ^ 250);
        DUE.given("its NARROW is as it was", shop, shop.check(), -2);
        shop.beam(0, 100, 100);
        shop.price(0, 1);
        Laws.law(shop, "all 2<=1");
        DUE.given("BEAMS, prices and LAWS are not TOLD", shop, shop.check(), -2);
    }

    private static void undoOfNone() {
        DUE.says("0 if there is none");
        StairShop shop = new StairShop();
        DUE.same("new", shop.undo(), 0);
        shop.first(1);
        DUE.same("one", shop.undo(), 1);
        DUE.same("none", shop.undo(), 0);
        DUE.same("KIND", shop.tread(0, 0), 0);
        DUE.same("acts", shop.size(10), 0);
    }

    private static void undoOfForty() {
        DUE.says("the latest 40 acts can be taken back");
        for (int acts : these(39, 40, 41, 79, 80, 81, 120)) {
            StairShop shop = new StairShop();
            for (int i = 1; i <= acts; i++) {
                shop.measures(1000 + i, 900, 400, 60);
            }
            int back = Math.min(acts, 40);
            DUE.same(acts + " acts, size(10)", shop.size(10), back);
            for (int i = 1; i <= back; i++) {
                DUE.same(acts + " acts, undo() " + i, shop.undo(), 1);
                DUE.same("HEIGHT", shop.size(0), acts == i ? 2600 : 1000 + acts - i);
                DUE.same("size(10)", shop.size(10), back - i);
            }
            DUE.same(acts + " acts, no more", shop.undo(), 0);
            DUE.same("HEIGHT", shop.size(0), acts == back ? 2600 : 1000 + acts - 40);
        }
    }

    private static void undoAndGoOn() {
        DUE.says("The latest act that was accepted, and isn't taken back (of forty) is taken back");
        StairShop shop = new StairShop();
        shop.measures(1001, 900, 400, 60);
        shop.measures(1002, 900, 400, 60);
        shop.undo();
        shop.measures(1003, 900, 400, 60);
        DUE.same("undo()", shop.undo(), 1);
        DUE.same("HEIGHT", shop.size(0), 1001);
        DUE.same("undo()", shop.undo(), 1);
        DUE.same("HEIGHT", shop.size(0), 2600);
        DUE.same("undo()", shop.undo(), 0);
        // on and back over the ring's end
        for (int i = 1; i <= 40; i++) {
            shop.measures(2000 + i, 900, 400, 60);
        }
        for (int round = 0; round < 50; round++) {
            shop.undo();
            shop.measures(3000 + round, 900, 400, 60);
            DUE.same("size(10)", shop.size(10), 40);
        }
        shop.undo();
        for (int i = 39; i >= 1; i--) {
            DUE.same("HEIGHT", shop.size(0), 2000 + i);
            DUE.same("undo()", shop.undo(), 1);
        }
        DUE.same("HEIGHT", shop.size(0), 2600);
        DUE.same("undo()", shop.undo(), 0);
    }

    private static void undoOfEachNumber() {
        DUE.says("is taken back: 1");
        StairShop shop = new StairShop();
        shop.measures(2500, 800, 300, 50);
        shop.undo();
        int[] measures = {2600, 900, 400, 60};
        for (int i = 0; i < 4; i++) {
            DUE.same("measures, size(" + i + ")", shop.size(i), measures[i]);
        }
        shop.beam(0, 100, 2000);
        shop.beam(500, 600, 2100);
        shop.clear();
        shop.beam(220, 9000, 1000);
        shop.beam(220, 9000, 1000);
        shop.undo();
        shop.undo();
        shop.undo();
        // TREAD 0, TREAD 2 and TREAD 1 between them
        DUE.same("clear, the first BEAM", shop.tread(0, 6), 1800);
        DUE.same("clear, where there was none", shop.tread(1, 6), 9999);
        DUE.same("clear, the second BEAM", shop.tread(2, 6), 1500);
        DUE.same("clear, where it ended", shop.tread(3, 6), 9999);
        shop.path(3);
        shop.turn(0, 1);
        shop.flight(2, 5, 900);
        shop.path(1);
        shop.undo();
        DUE.same("path, T", shop.size(5), 4 + 3 + 4 + 1 + 5);
        DUE.same("path, GOINGS", shop.size(9), 1000 + 628 + 1000 + 900 + 900);
        Laws.law(shop, "all 2<=1");
        Laws.law(shop, "all 4<=1");
        shop.repeal();
        shop.repeal();
        Laws.law(shop, "all 1<=1");
        shop.undo();
        shop.undo();
        shop.undo();
        DUE.same("repeal, the first LAW", shop.broken(0, 3), 1);
        DUE.same("repeal, the second LAW", shop.broken(1, 3), 3);
        for (int kind = 0; kind < 5; kind++) {
            int price = shop.size(8);
            shop.price(kind, 9999);
            shop.undo();
            DUE.same("price of " + kind, shop.size(8), price);
        }
        shop.repeal();
        shop.repeal();
        shop.best(67, 67);
        DUE.same("take of none", shop.take() ? 1 : 0, 0);
        shop.best(30, 30);
        shop.take();
        DUE.same("take, T", shop.size(5), 29);
        shop.undo();
        DUE.same("take taken back, T", shop.size(5), 17);
        DUE.same("take taken back, FLIGHT of the last", shop.tread(16, 7), 2);
    }

    private static void undoIsOfAcceptedActs() {
        DUE.says("act that was accepted .. Acts: measures, path, flight, turn, first, beam, clear (of some), law, repeal, "
                + "price, take");
        StairShop shop = new StairShop();
        int acts = 0;
        shop.measures(2600, 900, 400, 60);
        DUE.same("measures", shop.size(10), ++acts);
        shop.path(2);
        DUE.same("path", shop.size(10), ++acts);
        shop.flight(0, 4, 1000);
        DUE.same("flight", shop.size(10), ++acts);
        shop.turn(0, 0);
        DUE.same("turn", shop.size(10), ++acts);
        shop.first(0);
        DUE.same("first", shop.size(10), ++acts);
        shop.clear();
        DUE.same("clear of none", shop.size(10), acts);
        shop.beam(0, 1, 1);
        DUE.same("beam", shop.size(10), ++acts);
        shop.clear();
        DUE.same("clear of one", shop.size(10), ++acts);
        Laws.law(shop, "all 1<=1");
        DUE.same("law", shop.size(10), ++acts);
        shop.repeal();
        DUE.same("repeal", shop.size(10), ++acts);
        shop.price(0, 50);
        DUE.same("price", shop.size(10), ++acts);
        shop.best(9, 9);
        DUE.same("best", shop.size(10), acts);
        shop.take();
        DUE.same("take", shop.size(10), ++acts);
        refusedActs(shop);
        DUE.same("refused ones", shop.size(10), acts);
        shop.piece(1);
        shop.boards(1);
        shop.sweep();
        shop.tell();
        shop.alter(0, 1);
        shop.check();
        shop.feed(0, 0, 0, 0, 0);
        shop.string(0);
        shop.may();
        DUE.same("what is no act", shop.size(10), acts);
        for (int i = acts; i > 0; i--) {
            DUE.same("undo()", shop.undo(), 1);
        }
        DUE.same("undo()", shop.undo(), 0);
    }

    private static void refusedActs(StairShop shop) {
        shop.measures(0, 0, 0, 0);
        shop.path(0);
        shop.flight(9, 1, 1);
        shop.flight(0, 99, 1);
        shop.turn(9, 0);
        shop.turn(0, 9);
        shop.first(9);
        shop.beam(1, 1, 1);
        shop.law(1);
        Laws.law(shop, "x");
        shop.repeal();
        shop.price(9, 9);
        shop.best(9, 8);
    }

    private static void undoLeavesWhatIsNoAct() {
        DUE.says("Acts: .. (PIECES, THE TAPE, THE SHEET and what best() told are of none)");
        StairShop shop = new StairShop();
        shop.first(1);
        shop.piece(7);
        shop.tell();
        shop.best(5, 6);
        Laws.feed(shop, "all 1<=1");
        DUE.same("undo()", shop.undo(), 1);
        DUE.same("PIECES", shop.size(11), 1);
        DUE.same("told(0)", shop.told(0), 1);
        DUE.same("check()", shop.check(), 0);
        DUE.same("TRIED", shop.bestOf(0), 2);
        DUE.same("TREADS", shop.bestOf(2), 4);
        DUE.same("THE TAPE", shop.law(8), 0);
        shop.undo();
        DUE.same("the LAW is taken back", shop.size(6), 0);
        DUE.refused("THE TAPE is empty all the same", shop, shop.law(8), 1);
    }

    /** One that may be refused, told so that it is not refused. */
    private static void accepted(StairShop shop, int call) {
        switch (call) {
            case 0: shop.measures(2600, 900, 400, 60); break;
            case 1: shop.path(2); break;
            case 2: shop.flight(0, 4, 1000); break;
            case 3: shop.turn(0, 1); break;
            case 4: shop.first(1); break;
            case 5: shop.beam(0, 1, 1); break;
            case 6: Laws.law(shop, "all 2<=1"); break;
            case 7: shop.broken(0, 0); break;
            case 8: shop.about(0, 0); break;
            case 9: shop.repeal(); break;
            case 10: shop.price(0, 1); break;
            case 11: shop.best(9, 12); break;
            case 12: shop.take(); break;
            case 13: shop.string(0); break;
            case 14: shop.piece(1); break;
            case 15: shop.boards(1); break;
            case 16: shop.alter(0, 1); break;
            default: shop.check(); break;
        }
    }

    /** What refuses by 1 to 5, made so that it does. */
    private static void refuseBy(StairShop shop, int why) {
        switch (why) {
            case 1: shop.first(2); break;
            case 2: Laws.law(shop, "x"); break;
            case 3:
                shop.sweep();
                for (int i = 0; i < 13; i++) {
                    shop.piece(1);
                }
                break;
            case 4: shop.string(3); break;
            default:
                shop.best(67, 67);
                shop.take();
                break;
        }
    }

    private static void troubleOfEach() {
        DUE.says("TROUBLE of the latest call that may be refused: 0 it wasn't; 1 .. 5");
        for (int call = 0; call <= 17; call++) {
            for (int why = 1; why <= 5; why++) {
                StairShop shop = new StairShop();
                shop.path(2);
                Laws.law(shop, "all 1<=1");
                shop.tell();
                refuseBy(shop, why);
                DUE.same("refused by", shop.trouble(), why);
                if (call == 14) {
                    shop.sweep();
                }
                if (call == 12) {
                    shop.best(9, 9);
                    refuseBy(shop, 1);
                }
                accepted(shop, call);
                DUE.same("call " + call + " behind " + why + ", trouble()", shop.trouble(), 0);
                DUE.same("call " + call + " behind " + why + ", where()", shop.where(), -1);
            }
        }
    }

    private static void troubleLeft() {
        DUE.says("the latest call that may be refused (those for which the document tells a number)");
        for (int why = 0; why <= 5; why++) {
            StairShop shop = new StairShop();
            if (why > 0) {
                refuseBy(shop, why);
            }
            int place = why == 2 ? 0 : -1;
            for (int v : these(0, -1, 99)) {
                shop.size(v);
                shop.tread(v, 0);
                shop.tread(0, v);
                shop.riser(v);
                shop.bestOf(v);
                shop.tried(v);
            }
            shop.clear();
            shop.fault();
            shop.may();
            shop.sweep();
            shop.undo();
            for (int i = 0; i < 7; i++) {
                shop.feed(0, 0, 0, 0, 0);
            }
            throwsAt("nothing is TOLD", shop, 0);
            shop.tell();
            shop.told(0);
            DUE.same("behind " + why + ", where()", shop.where(), place);
            DUE.same("behind " + why + ", trouble()", shop.trouble(), why);
            DUE.same("behind " + why + ", trouble() again", shop.trouble(), why);
            DUE.same("behind " + why + ", where() again", shop.where(), place);
        }
    }

    private static void whereByTwo() {
        DUE.says("The place of a FAULT, if the latest call that may be refused was by 2; NONE else");
        StairShop shop = new StairShop();
        DUE.same("new", shop.where(), -1);
        Laws.law(shop, "");
        DUE.same("the first place", shop.where(), 0);
        Laws.law(shop, " ".repeat(120));
        DUE.same("the last place", shop.where(), 120);
        for (int why : these(1, 3, 4, 5)) {
            Laws.law(shop, "all x");
            DUE.same("by 2", shop.where(), 4);
            refuseBy(shop, why);
            DUE.same("by " + why, shop.where(), -1);
            DUE.same("fault() is as it was", shop.fault(), 1);
        }
        Laws.law(shop, "all x");
        shop.law(1);
        DUE.same("law() by 1", shop.where(), -1);
        Laws.law(shop, "all 1<=1");
        DUE.same("not refused", shop.where(), -1);
    }

    private static void calls512() {
        DUE.says("An object is used for at most 512 calls after it has been made");
        StairShop acts = new StairShop();
        for (int i = 1; i <= 511; i++) {
            acts.measures(1000 + i, 900, 400, 60);
        }
        DUE.same("the 512th, behind acts", acts.undo(), 1);
        DUE.same("HEIGHT", acts.size(0), 1510);
        StairShop laws = new StairShop();
        for (int i = 0; i < 170; i++) {
            laws.feed(0x616c6c20, 0x313c3d31, 0x20616e64, 0x20323e3d, 0x31202020);
            DUE.same("law " + i, laws.law(20), 0);
            laws.repeal();
        }
        laws.feed(0x616c6c20, 0x313c3d31, 0x20616e64, 0x20323e3d, 0x31202020);
        DUE.same("the 512th, behind laws", laws.law(20), 0);
        StairShop sought = longest();
        for (int i = 8; i <= 511; i++) {
            sought.best(2, 67);
        }
        DUE.same("the 512th, behind searches", sought.best(67, 67), 60 * 50 + 6 * 120 + 67 * 20);
    }
}
