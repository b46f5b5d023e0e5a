import java.lang.reflect.InvocationTargetException;
import java.lang.reflect.Method;
import java.lang.reflect.Modifier;
import java.util.ArrayList;
import java.util.Arrays;
import java.util.Comparator;
import java.util.List;
import java.util.NoSuchElementException;
import java.util.Random;

/** Runs of 512 calls by chance, each answer beside that of a second reckoning of the whole shop. */
public final class RunTest {
    private static final Expect DUE = new Expect();
    private static final int RUNS = 150;
    private static final int CALLS = 512;
    /** What is dear, or leaves little to ask of. */
    private static final List<String> SELDOM = List.of("best", "repeal", "clear", "path", "sweep");
    private static final List<Method> FACE = face();

    private final Random random;
    /** One call in so many is a law: runs with few of them have some that the best keeps. */
    private final int lawEvery;
    private final StairShop shop = new StairShop();
    private final ShopOracle due = new ShopOracle();
    private int calls = 0;

    private RunTest(int seed) {
        random = new Random(seed);
        lawEvery = new int[] {8, 60, 300}[seed % 3];
    }

    public static void main(String[] args) throws ReflectiveOperationException {
        for (int seed = 0; seed < RUNS; seed++) {
            new RunTest(seed).run();
        }
        DUE.end("RunTest");
    }

    private static List<Method> face() {
        List<Method> face = new ArrayList<>();
        for (Method call : StairShop.class.getDeclaredMethods()) {
            if (Modifier.isPublic(call.getModifiers())) {
                face.add(call);
            }
        }
        face.sort(Comparator.comparing(Method::getName));
        return face;
    }

    private void run() throws ReflectiveOperationException {
        while (calls < CALLS) {
            if (random.nextInt(lawEvery) == 0) {
                tellLaw();
            } else if (random.nextInt(300) == 0) {
                undoAll();
            } else {
                anyCall();
            }
        }
    }

    private int between(int least, int greatest) {
        return least + random.nextInt(greatest - least + 1);
    }

    /** Mostly within the bounds, sometimes just outside, seldom anything. */
    private int about(int least, int greatest) {
        switch (random.nextInt(12)) {
            case 0: return random.nextBoolean() ? least - 1 : greatest + 1;
            case 1: return random.nextBoolean() ? least : greatest;
            case 2: return random.nextInt(3) == 0 ? random.nextInt() : least;
            default: return between(least, greatest);
        }
    }

    private void anyCall() throws ReflectiveOperationException {
        Method call = FACE.get(random.nextInt(FACE.size()));
        String name = call.getName();
        boolean seldom = name.equals("feed") || SELDOM.contains(name) && random.nextInt(4) > 0;
        int[] numbers = numbers(name);
        if (!seldom && (!name.equals("law") || due.canRead(numbers[0]))) {
            ask(call, numbers);
        }
    }

    private void undoAll() throws ReflectiveOperationException {
        for (int i = 0; i < 42; i++) {
            ask(method("undo"), new int[0]);
        }
    }

    private int[] numbers(String name) {
        switch (name) {
            case "measures": return new int[] {about(500, 6000), about(500, 1500), about(200, 500), about(20, 150)};
            case "path": return new int[] {about(1, 3)};
            case "flight": return new int[] {about(0, 2), about(0, 20), about(0, 6000)};
            case "turn": return new int[] {about(0, 1), about(0, 1)};
            case "first": return new int[] {about(0, 1)};
            case "price": return new int[] {about(0, 4), about(0, 10000)};
            case "beam": return beam(about(0, random.nextInt(4) == 0 ? 20000 : 4000));
            case "size": return new int[] {about(0, 11)};
            case "tread": return new int[] {about(0, random.nextInt(3) == 0 ? 65 : 15), about(0, 8)};
            case "riser": return new int[] {about(0, 20)};
            case "law": return new int[] {about(0, Math.max(1, due.fed()))};
            case "broken": case "about": return new int[] {about(0, 3), about(0, 3)};
            case "best": return best(about(2, 40));
            case "bestOf": return new int[] {about(0, 5)};
            case "tried": return new int[] {about(0, random.nextBoolean() ? 20 : 199)};
            case "string": return new int[] {about(0, 2)};
            case "piece": return new int[] {about(1, random.nextInt(20) == 0 ? 10000 : 2000)};
            case "boards": return new int[] {about(random.nextInt(5) == 0 ? 1 : 2000, random.nextInt(5) == 0 ? 10000 : 4000)};
            case "told": return new int[] {about(0, 50)};
            case "alter": return new int[] {about(0, 50), random.nextBoolean() ? 0 : about(0, 8)};
            default: return new int[0];
        }
    }

    private int[] beam(int from) {
        return new int[] {from, from + between(0, 1500), about(0, 9000)};
    }

    private int[] best(int least) {
        return new int[] {least, random.nextInt(8) == 0 ? about(2, 67) : least + between(0, 2)};
    }

    /** A law, or one with a byte changed, of which all bytes are fed and mostly all are read. */
    private void tellLaw() throws ReflectiveOperationException {
        LawOracle law = new LawOracle(random);
        if (law.text.length() > 100 && random.nextInt(5) > 0) {
            return;
        }
        due.learn(law);
        char[] text = law.text.toCharArray();
        if (random.nextInt(4) == 0) {
            text[random.nextInt(text.length)] = (char) random.nextInt(random.nextBoolean() ? 128 : 256);
        }
        boolean empty = due.fed() == 0;
        feed(new String(text));
        int all = empty ? Math.min(text.length, due.fed()) : due.fed();
        int n = random.nextInt(5) == 0 ? about(0, due.fed()) : all;
        if (random.nextInt(8) > 0 && due.canRead(n)) {
            ask(method("law"), new int[] {n});
        }
    }

    private void feed(String text) throws ReflectiveOperationException {
        for (int at = 0; at < text.length(); at += 20) {
            int[] words = new int[5];
            for (int i = 0; i < 20; i++) {
                words[i / 4] = words[i / 4] << 8 | (at + i < text.length() ? text.charAt(at + i) : ' ');
            }
            ask(method("feed"), words);
        }
    }

    private static Method method(String name) {
        for (Method call : FACE) {
            if (call.getName().equals(name)) {
                return call;
            }
        }
        throw new IllegalArgumentException(name);
    }

    private void ask(Method call, int[] numbers) throws ReflectiveOperationException {
        if (calls >= CALLS) {
            return;
        }
        calls++;
        int got = answer(call, numbers);
        DUE.same(call.getName() + Arrays.toString(numbers) + ", call " + calls, got,
                due.answer(call.getName(), numbers));
    }

    private int answer(Method call, int[] numbers) throws ReflectiveOperationException {
        Object[] boxed = Arrays.stream(numbers).boxed().toArray();
        try {
            Object got = call.invoke(shop, boxed);
            return got instanceof Boolean ? (Boolean) got ? 1 : 0 : (Integer) got;
        } catch (InvocationTargetException e) {
            DUE.yes(call + " threw " + e.getCause(), e.getCause() instanceof NoSuchElementException);
            return ShopOracle.THROWS;
        }
    }
}
