import java.util.Random;

/** Promises 13, 14, 34 beside the second reckoning of texts. */
public final class TextTest {
    private static final Expect DUE = new Expect();
    private static final String[] NAMES = {"riser", "going", "narrow", "head", "wide", "count", "number", "kind"};
    private static final String[] BITS = {"all", "some", "and", "riser", "kind", "an", "<=", ">=", "<", "=", "+", "-",
        "*", "'", " ", "1", "9999", "10000", "00000000007", "x", "A", "\u00ff", "\u0000", ",", "99999999999"};
    private final Random random = new Random(77);
    private int accepted = 0;
    private final int[] faults = new int[4];

    public static void main(String[] args) {
        TextTest test = new TextTest();
        for (int i = 0; i < 30000; i++) {
            test.compare(i % 10 == 0 ? test.anyBits() : i % 3 == 0 ? test.someLaw() : test.spoilt(test.someLaw()));
        }
        DUE.yes("accepted " + test.accepted, test.accepted > 1000);
        for (int f = 1; f < 4; f++) {
            DUE.yes("faults " + f + ": " + test.faults[f], test.faults[f] > 300);
        }
        DUE.end("TextTest");
    }

    private void compare(String text) {
        if (text.length() > 120) {
            return;
        }
        TextOracle oracle = new TextOracle(text);
        StairShop shop = new StairShop();
        int number = Laws.law(shop, text);
        DUE.same("law of '" + text + "'", number, oracle.fault == 0 ? 0 : -1);
        DUE.same("fault of '" + text + "'", shop.fault(), oracle.fault);
        DUE.same("where of '" + text + "'", shop.where(), oracle.place);
        accepted += oracle.fault == 0 ? 1 : 0;
        faults[oracle.fault]++;
    }

    private String blanks() {
        return " ".repeat(random.nextInt(4) == 0 ? random.nextInt(3) : 0);
    }

    private String name() {
        String name = NAMES[random.nextInt(8)];
        return random.nextInt(4) == 0 ? name + blanks() + "'" : name;
    }

    private String number() {
        return String.valueOf(random.nextInt(20) == 0 ? 9990 + random.nextInt(20) : random.nextInt(100));
    }

    private String part() {
        switch (random.nextInt(6)) {
            case 0: return name();
            case 1: return number() + blanks() + "*" + blanks() + name();
            default: return number();
        }
    }

    private String sum() {
        StringBuilder sum = new StringBuilder(part());
        int more = random.nextInt(5) == 0 ? 5 + random.nextInt(5) : random.nextInt(3);
        for (int i = 0; i < more; i++) {
            sum.append(blanks()).append(random.nextBoolean() ? '+' : '-').append(blanks()).append(part());
        }
        return sum.toString();
    }

    private String someLaw() {
        StringBuilder law = new StringBuilder(blanks()).append(random.nextBoolean() ? "all " : "some ");
        int rels = 1 + random.nextInt(5);
        for (int i = 0; i < rels; i++) {
            law.append(i == 0 ? "" : blanks() + " and ").append(sum()).append(blanks());
            law.append(random.nextBoolean() ? "<=" : ">=").append(blanks()).append(sum());
        }
        return law.append(blanks()).toString();
    }

    private String spoilt(String law) {
        StringBuilder text = new StringBuilder(law);
        int at = random.nextInt(text.length() + 1);
        switch (random.nextInt(4)) {
            case 0:
                text.setLength(at);
                break;
            case 1:
                if (at < text.length()) {
                    text.deleteCharAt(at);
                }
                break;
            default:
                text.insert(at, BITS[random.nextInt(BITS.length)]);
                break;
        }
        return text.toString();
    }

    private String anyBits() {
        StringBuilder text = new StringBuilder();
        int bits = random.nextInt(12);
        for (int i = 0; i < bits; i++) {
            text.append(BITS[random.nextInt(BITS.length)]).append(blanks());
        }
        return text.toString();
    }
}
