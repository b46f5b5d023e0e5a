import java.util.ArrayList;
import java.util.List;
import java.util.NoSuchElementException;
import java.util.function.Consumer;
import java.util.function.ToIntFunction;

/**
 * What a refused call leaves as it was: of two shops told the same, one is told the refused call too, and
 * then both answer alike whatever is asked of them. So for each call, each reason, an empty and a full shop.
 */
public final class RefusedTest {
    private static final Expect DUE = new Expect();

    /** A call, refused in a shop that was told what is ahead of it. */
    private static final class Refusal {
        final String name;
        final int why;
        final Consumer<StairShop> ahead;
        final ToIntFunction<StairShop> call;

        Refusal(String name, int why, Consumer<StairShop> ahead, ToIntFunction<StairShop> call) {
            this.name = name;
            this.why = why;
            this.ahead = ahead;
            this.call = call;
        }
    }

    private static final List<Refusal> REFUSALS = new ArrayList<>();

    public static void main(String[] args) {
        full();
        for (boolean full : new boolean[] {false, true}) {
            REFUSALS.clear();
            Consumer<StairShop> ahead = full ? RefusedTest::fill : s -> { };
            ofTheStair(ahead);
            ofTheOthers(ahead);
            if (full) {
                ofTheFull(ahead);
            } else {
                ofTheEmpty(ahead);
            }
            for (Refusal refusal : REFUSALS) {
                compare(refusal, full ? "full, " : "empty, ");
            }
        }
        DUE.end("RefusedTest");
    }

    private static void add(String name, int why, Consumer<StairShop> ahead, ToIntFunction<StairShop> call) {
        REFUSALS.add(new Refusal(name, why, ahead, call));
    }

    private static int number(boolean granted) {
        return granted ? 1 : -1;
    }

    private static void ofTheStair(Consumer<StairShop> ahead) {
        add("measures, HEIGHT", 1, ahead, s -> number(s.measures(499, 800, 300, 50)));
        add("measures, WIDTH", 1, ahead, s -> number(s.measures(2500, 1501, 300, 50)));
        add("measures, WALK", 1, ahead, s -> number(s.measures(2500, 800, 501, 50)));
        add("measures, POST", 1, ahead, s -> number(s.measures(2500, 800, 300, 19)));
        add("path(0)", 1, ahead, s -> number(s.path(0)));
        add("path(4)", 1, ahead, s -> number(s.path(4)));
        add("flight(3, ..)", 4, ahead, s -> number(s.flight(3, 5, 500)));
        add("flight, TREADS", 1, ahead, s -> number(s.flight(0, 21, 500)));
        add("flight, LENGTH", 1, ahead, s -> number(s.flight(0, 5, 6001)));
        add("turn(2, 1)", 4, ahead, s -> number(s.turn(2, 1)));
        add("first(2)", 1, ahead, s -> number(s.first(2)));
        add("beam, from", 1, ahead, s -> s.beam(20001, 20002, 0));
        add("beam, to", 1, ahead, s -> s.beam(100, 100, 0));
        add("beam, under", 1, ahead, s -> s.beam(0, 9999, 9001));
    }

    private static void ofTheOthers(Consumer<StairShop> ahead) {
        add("law(-1)", 1, ahead, s -> s.law(-1));
        add("law(121)", 1, ahead, s -> s.law(121));
        add("broken(8, 0)", 4, ahead, s -> s.broken(8, 0));
        add("about(8, 0)", 4, ahead, s -> s.about(8, 0));
        add("price(5, 1)", 1, ahead, s -> number(s.price(5, 1)));
        add("price(0, 10001)", 1, ahead, s -> number(s.price(0, 10001)));
        add("best(1, 9)", 1, ahead, s -> s.best(1, 9));
        add("best(9, 8)", 1, ahead, s -> s.best(9, 8));
        add("best(9, 68)", 1, ahead, s -> s.best(9, 68));
        add("string(3)", 4, ahead, s -> s.string(3));
        add("piece(0)", 1, ahead, s -> s.piece(0));
        add("piece(10001)", 1, ahead, s -> s.piece(10001));
        add("boards(0)", 1, ahead, s -> s.boards(0));
        add("boards(10001)", 1, ahead, s -> s.boards(10001));
        add("alter(264, 1)", 4, ahead, s -> number(s.alter(264, 1)));
        add("alter(-1, 1)", 4, ahead, s -> number(s.alter(-1, 1)));
    }

    private static void ofTheEmpty(Consumer<StairShop> ahead) {
        add("flight without a TREAD", 1, ahead, s -> number(s.flight(0, 0, 500)));
        add("turn(0, 1)", 4, ahead, s -> number(s.turn(0, 1)));
        add("law(1)", 1, ahead, s -> s.law(1));
        add("repeal()", 4, ahead, s -> number(s.repeal()));
        add("take()", 5, ahead, s -> number(s.take()));
        add("alter(0, 1)", 4, ahead, s -> number(s.alter(0, 1)));
        add("check()", 5, ahead, StairShop::check);
        add("undo() of none", 0, ahead, s -> s.undo() - 1);
        add("clear() of none", 0, ahead, s -> s.clear() - 1);
        add("sweep() of none", 0, ahead, s -> s.sweep() - 1);
    }

    private static void ofTheFull(Consumer<StairShop> ahead) {
        add("turn(0, 2)", 1, ahead, s -> number(s.turn(0, 2)));
        add("beam, the ninth", 3, ahead, s -> s.beam(0, 9999, 0));
        add("broken(0, 4)", 1, ahead, s -> s.broken(0, 4));
        add("about(0, 4)", 1, ahead, s -> s.about(0, 4));
        add("piece, the 13th", 3, ahead, s -> s.piece(1));
        add("feed, the seventh", 0, ahead, s -> s.feed(-1, -1, -1, -1, -1));
        Consumer<StairShop> other = ahead.andThen(s -> s.path(2));
        add("take() of other FLIGHTS", 5, other, s -> number(s.take()));
        Consumer<StairShop> bare = ahead.andThen(s -> {
            s.flight(0, 0, 10);
            s.flight(1, 0, 10);
        });
        add("flight without a TREAD", 1, bare, s -> number(s.flight(2, 0, 10)));
        // THE TAPE is empty behind these: so it is in the shop that is not told them
        Consumer<StairShop> emptied = ahead.andThen(s -> {
            s.repeal();
            s.law(8);
        });
        add("law by 2", 2, emptied, s -> Laws.law(s, "all 1<="));
        add("law by 2, a number", 2, emptied, s -> Laws.law(s, "all 10000<=1"));
        add("law by 3", 3, emptied, s -> Laws.law(s, "all 2<=1"));
    }

    /** Acts to take back, all that has a bound up to it, a sheet and something told by best(). */
    private static void fill(StairShop shop) {
        shop.path(3);
        shop.turn(0, 1);
        shop.first(1);
        shop.flight(1, 2, 700);
        Laws.law(shop, "all riser<=200");
        shop.best(12, 17);
        for (int i = 0; i < 8; i++) {
            shop.beam(300 * i, 300 * i + 200, 2500 + i);
        }
        for (int i = 1; i < 8; i++) {
            Laws.law(shop, "all riser<=" + (200 - 10 * i));
        }
        for (int i = 0; i < 25; i++) {
            shop.price(4, 21 + i);
        }
        for (int i = 0; i < 12; i++) {
            shop.piece(100 + 20 * i);
        }
        shop.tell();
        shop.alter(9, 5);
        Laws.feed(shop, "all 1<=1" + " ".repeat(112));
    }

    private static void full() {
        StairShop shop = new StairShop();
        fill(shop);
        DUE.same("LAWS", shop.size(6), 8);
        DUE.same("BEAMS", shop.size(7), 8);
        DUE.same("acts", shop.size(10), 40);
        DUE.same("PIECES", shop.size(11), 12);
        DUE.same("feed()", shop.feed(0, 0, 0, 0, 0), -1);
        DUE.yes("some ways kept the LAW, some broke it", shop.bestOf(5) > 0 && shop.bestOf(5) < shop.bestOf(0));
    }

    private static void compare(Refusal refusal, String where) {
        for (int part = 0; part < 6; part++) {
            StairShop plain = new StairShop();
            StairShop refused = new StairShop();
            refusal.ahead.accept(plain);
            refusal.ahead.accept(refused);
            int before = refused.trouble();
            String name = where + refusal.name;
            DUE.same(name, refusal.call.applyAsInt(refused), -1);
            DUE.same(name + ", trouble()", refused.trouble(), refusal.why == 0 ? before : refusal.why);
            List<Integer> due = look(plain, part, refusal.name.startsWith("law by"));
            List<Integer> got = look(refused, part, refusal.name.startsWith("law by"));
            DUE.same(name + ", part " + part + ", answers", got.size(), due.size());
            for (int i = 0; i < due.size(); i++) {
                DUE.same(name + ", part " + part + ", answer " + i, got.get(i), due.get(i));
            }
        }
    }

    /** What a shop answers to all that can be asked, in parts of less than 300 calls. */
    private static List<Integer> look(StairShop shop, int part, boolean faultChanged) {
        List<Integer> seen = new ArrayList<>();
        switch (part) {
            case 0: lookAtSizes(shop, seen, faultChanged); break;
            case 1: lookAtTreads(shop, seen); break;
            case 2: lookAtTheBest(shop, seen); break;
            case 3: lookAtTheSheet(shop, seen); break;
            case 4: lookAtTheTape(shop, seen); break;
            default: lookAtThePast(shop, seen); break;
        }
        return seen;
    }

    private static void lookAtSizes(StairShop shop, List<Integer> seen, boolean faultChanged) {
        for (int what = 0; what < 12; what++) {
            seen.add(shop.size(what));
        }
        seen.add(shop.may());
        seen.add(faultChanged ? 0 : shop.fault());
        for (int i = 0; i < 8; i++) {
            for (int what = 0; what < 4; what++) {
                seen.add(shop.broken(i, what));
                seen.add(shop.about(i, what));
            }
        }
        for (int i = 0; i < 3; i++) {
            seen.add(shop.string(i));
        }
        for (int length : new int[] {1, 100, 319, 320, 321, 500, 1000, 10000}) {
            seen.add(shop.boards(length));
        }
    }

    private static void lookAtTreads(StairShop shop, List<Integer> seen) {
        for (int k = 0; k < 17; k++) {
            seen.add(shop.riser(k));
            for (int what = 0; what < 9; what++) {
                seen.add(shop.tread(k, what));
            }
        }
    }

    private static void lookAtTheBest(StairShop shop, List<Integer> seen) {
        for (int what = 0; what < 6; what++) {
            seen.add(shop.bestOf(what));
        }
        for (int i = 0; i < 200; i++) {
            seen.add(shop.tried(i));
        }
        seen.add(shop.take() ? 1 : 0);
        seen.add(shop.size(5));
        seen.add(shop.tread(3, 0));
        seen.add(shop.best(10, 14));
    }

    private static void lookAtTheSheet(StairShop shop, List<Integer> seen) {
        for (int k = 0; k < 80; k++) {
            try {
                seen.add(shop.told(k));
            } catch (NoSuchElementException e) {
                seen.add(-99999);
            }
        }
        seen.add(shop.check());
        seen.add(shop.tell());
        seen.add(shop.check());
    }

    private static void lookAtTheTape(StairShop shop, List<Integer> seen) {
        shop.repeal();
        seen.add(shop.feed(0x20616e64, 0x20313c3d, 0x31202020, 0x20202020, 0x20202020));
        seen.add(shop.law(120));
        seen.add(shop.trouble());
        seen.add(shop.where());
        seen.add(shop.law(20));
        seen.add(shop.fault());
        seen.add(shop.about(7, 1));
    }

    private static void lookAtThePast(StairShop shop, List<Integer> seen) {
        for (int i = 0; i < 42; i++) {
            seen.add(shop.undo());
            seen.add(shop.size(10));
            seen.add(shop.size(5));
            seen.add(shop.size(6));
            seen.add(shop.size(7));
            seen.add(shop.size(8));
        }
    }
}
