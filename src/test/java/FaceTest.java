import java.lang.reflect.Constructor;
import java.lang.reflect.Field;
import java.lang.reflect.Method;
import java.lang.reflect.Modifier;
import java.util.ArrayList;
import java.util.Collections;
import java.util.List;
import java.util.NoSuchElementException;
import java.util.Random;

/** The public face, and that no call throws by itself or leaves its bounds for any arguments. */
public final class FaceTest {
    private static final Expect DUE = new Expect();
    private static final String[] FACE = {
        "boolean alter(int,int)", "boolean first(int)", "boolean flight(int,int,int)",
        "boolean measures(int,int,int,int)", "boolean path(int)", "boolean price(int,int)", "boolean repeal()",
        "boolean take()", "boolean turn(int,int)", "int about(int,int)", "int beam(int,int,int)",
        "int best(int,int)", "int bestOf(int)", "int boards(int)", "int broken(int,int)", "int check()",
        "int clear()", "int fault()", "int feed(int,int,int,int,int)", "int law(int)", "int may()",
        "int piece(int)", "int riser(int)", "int size(int)", "int string(int)", "int sweep()", "int tell()",
        "int told(int)", "int tread(int,int)", "int tried(int)", "int trouble()", "int undo()", "int where()"};
    private static final String[] TEXTS = {"all riser<=190", "some kind>=1", "all head>=2000", "all 1<=",
        "all going'-going<=1 and 1-going'+going<=2", "some number'>=5 and 2*riser+going<=640", "all 99999<=1",
        "some narrow'>=30"};

    public static void main(String[] args) throws ReflectiveOperationException {
        face();
        for (int seed = 0; seed < 300; seed++) {
            anyCalls(seed);
        }
        DUE.end("FaceTest");
    }

    private static void face() {
        List<String> found = new ArrayList<>();
        for (Method m : StairShop.class.getDeclaredMethods()) {
            if (Modifier.isPrivate(m.getModifiers()) || m.isSynthetic()) {
                continue;
            }
            DUE.yes(m.getName() + " is public and not static",
                    Modifier.isPublic(m.getModifiers()) && !Modifier.isStatic(m.getModifiers()));
            List<String> types = new ArrayList<>();
            for (Class<?> type : m.getParameterTypes()) {
                types.add(type.getName());
            }
            found.add(m.getReturnType().getName() + " " + m.getName() + "(" + String.join(",", types) + ")");
        }
        Collections.sort(found);
        DUE.yes("the methods are " + found, found.equals(List.of(FACE)));
        for (Field f : StairShop.class.getDeclaredFields()) {
            DUE.yes(f.getName(), Modifier.isPrivate(f.getModifiers()) || f.getName().equals("NONE"));
        }
        Constructor<?>[] made = StairShop.class.getDeclaredConstructors();
        DUE.yes("one public constructor", made.length == 1 && Modifier.isPublic(made[0].getModifiers()));
        DUE.yes("public final", Modifier.isPublic(StairShop.class.getModifiers())
                && Modifier.isFinal(StairShop.class.getModifiers()));
    }

    private static int anyNumber(Random random) {
        switch (random.nextInt(8)) {
            case 0: return random.nextInt();
            case 1: return random.nextBoolean() ? Integer.MIN_VALUE : Integer.MAX_VALUE;
            case 2: return random.nextInt(10000);
            case 3: return random.nextInt(300);
            case 4: return -1 - random.nextInt(3);
            default: return random.nextInt(8);
        }
    }

    private static void anyCalls(int seed) throws ReflectiveOperationException {
        Random random = new Random(seed);
        StairShop shop = new StairShop();
        List<Method> calls = new ArrayList<>();
        for (Method m : StairShop.class.getDeclaredMethods()) {
            if (Modifier.isPublic(m.getModifiers())) {
                calls.add(m);
            }
        }
        calls.sort((a, b) -> a.getName().compareTo(b.getName()));
        for (int i = 0; i < 512; i++) {
            if (random.nextInt(10) == 0) {
                Laws.law(shop, TEXTS[random.nextInt(TEXTS.length)]);
            }
            Method call = calls.get(random.nextInt(calls.size()));
            Object[] numbers = new Object[call.getParameterCount()];
            for (int n = 0; n < numbers.length; n++) {
                numbers[n] = anyNumber(random);
            }
            try {
                call.invoke(shop, numbers);
            } catch (java.lang.reflect.InvocationTargetException e) {
                DUE.yes(call + " threw " + e.getCause(),
                        call.getName().equals("told") && e.getCause() instanceof NoSuchElementException);
            }
        }
        DUE.yes("T", shop.size(5) >= 1 && shop.size(5) <= 66);
        DUE.yes("LAWS", shop.size(6) >= 0 && shop.size(6) <= 8);
        DUE.yes("acts", shop.size(10) >= 0 && shop.size(10) <= 40);
    }
}
