import java.util.ArrayList;
import java.util.Arrays;
import java.util.List;
import java.util.Random;

/** Stairs, laws, the best and boards by chance, beside second reckonings. */
public final class ReckonTest {
    private static final Expect DUE = new Expect();
    private final Random random = new Random(4);
    private final StairOracle stair = new StairOracle();
    private final List<LawOracle> laws = new ArrayList<>();
    private final int[] prices = {50, 80, 200, 120, 20};
    private int kept = 0;
    private int broke = 0;
    private int told = 0;

    public static void main(String[] args) {
        ReckonTest all = new ReckonTest();
        for (int i = 0; i < 400; i++) {
            ReckonTest test = new ReckonTest();
            test.random.setSeed(i);
            test.once();
            test.boards();
            all.kept += test.kept;
            all.broke += test.broke;
            all.told += test.told;
        }
        DUE.yes("laws kept " + all.kept, all.kept > 100);
        DUE.yes("laws broken " + all.broke, all.broke > 200);
        DUE.yes("best told " + all.told, all.told > 100);
        DUE.end("ReckonTest");
    }

    private int between(int least, int greatest) {
        return least + random.nextInt(greatest - least + 1);
    }

    private void anyStair() {
        stair.height = between(500, 6000);
        stair.width = between(500, 1500);
        stair.walk = between(200, 500);
        stair.post = between(20, 150);
        stair.bull = random.nextBoolean();
        int flights = between(1, 3);
        stair.treads = new int[flights];
        stair.lengths = new int[flights];
        stair.turns = new int[flights - 1];
        for (int f = 0; f < flights; f++) {
            stair.treads[f] = random.nextInt(4) == 0 ? between(0, 2) : between(0, 20);
            stair.lengths[f] = random.nextInt(4) == 0 ? between(0, 30) : between(0, 6000);
        }
        stair.treads[random.nextInt(flights)] += Arrays.stream(stair.treads).sum() == 0 ? 1 : 0;
        for (int t = 0; t < flights - 1; t++) {
            stair.turns[t] = between(0, 1);
        }
        int beams = between(0, 8);
        for (int b = 0; b < beams; b++) {
            int from = between(0, 9000);
            stair.beams.add(new int[] {from, from + between(1, 1000), between(0, 9000)});
        }
    }

    private StairShop shop() {
        StairShop shop = new StairShop();
        stair.tellTo(shop);
        for (LawOracle law : laws) {
            Laws.law(shop, law.text);
        }
        for (int kind = 0; kind < 5; kind++) {
            shop.price(kind, prices[kind]);
        }
        return shop;
    }

    private void once() {
        anyStair();
        int count = random.nextInt(4);
        for (int i = 0; i < count; i++) {
            laws.add(new LawOracle(random));
        }
        for (int kind = 0; kind < 5 && random.nextBoolean(); kind++) {
            prices[kind] = between(0, 10000);
        }
        StairShop shop = shop();
        List<int[]> rows = stair.lay();
        DUE.same("T", shop.size(5), rows.size());
        DUE.same("PRICE", shop.size(8), stair.cost(prices));
        DUE.same("LAWS", shop.size(6), laws.size());
        int goings = 0;
        for (int k = 0; k < rows.size(); k++) {
            goings += rows.get(k)[3];
            for (int what = 0; what < 9; what++) {
                DUE.same("tread(" + k + ", " + what + ")", shop.tread(k, what), rows.get(k)[what]);
            }
        }
        DUE.same("GOINGS", shop.size(9), goings);
        laws(shop, rows);
        best(shop);
    }

    private void laws(StairShop shop, List<int[]> rows) {
        int first = -2;
        for (int i = laws.size() - 1; i >= 0; i--) {
            LawOracle law = laws.get(i);
            int[] due = law.verdict(stair, rows);
            for (int what = 0; what < 4; what++) {
                DUE.same(law.text + ", broken(" + what + ")", shop.broken(i, what), due[what]);
            }
            first = due[0] == 1 ? i : first;
            kept += 1 - due[0];
            broke += due[0];
            int[] about = {law.some ? 1 : 0, law.rels, law.parts, law.primed ? 1 : 0};
            for (int what = 0; what < 4; what++) {
                DUE.same(law.text + ", about(" + what + ")", shop.about(i, what), about[what]);
            }
        }
        DUE.same("may()", shop.may(), first);
    }

    private void best(StairShop shop) {
        int least = between(2, 40);
        int greatest = Math.min(67, least + between(0, 5));
        BestOracle due = new BestOracle(stair, laws, prices, least, greatest);
        DUE.same("best()", shop.best(least, greatest), due.cost);
        for (int i = 0; i < due.broken.size(); i++) {
            DUE.same("tried(" + i + ")", shop.tried(i), i < 200 ? due.broken.get(i) : -1);
        }
        DUE.same("bestOf(0)", shop.bestOf(0), due.broken.size());
        DUE.same("bestOf(5)", shop.bestOf(5), due.kept);
        for (int what = 1; what < 5; what++) {
            DUE.same("bestOf(" + what + ")", shop.bestOf(what), due.told[what - 1]);
        }
        DUE.same("take()", shop.take() ? 1 : 0, due.kept > 0 ? 1 : 0);
        if (due.kept > 0) {
            told++;
            DUE.same("T", shop.size(5), due.told[0] - 1);
            DUE.same("may()", shop.may(), -2);
            DUE.same("PRICE", shop.size(8), due.cost);
        }
    }

    private void boards() {
        StairShop shop = new StairShop();
        int length = between(1, random.nextBoolean() ? 30 : 10000);
        int[] pieces = new int[between(0, 9)];
        for (int i = 0; i < pieces.length; i++) {
            pieces[i] = between(1, Math.max(1, random.nextBoolean() ? length / 2 : length));
            shop.piece(pieces[i]);
        }
        int fewest = BoardOracle.fewest(pieces, length);
        DUE.same("boards(" + length + ") of " + Arrays.toString(pieces), shop.boards(length), fewest);
    }
}
