import java.lang.reflect.InvocationTargetException;
import java.lang.reflect.Method;
import java.lang.reflect.Modifier;
import java.util.ArrayList;
import java.util.Comparator;
import java.util.List;
import java.util.NoSuchElementException;
import java.util.Random;

/** Any call with any arguments in any state: nothing but led's NoSuchElementException is thrown; nothing is made by a call. */
public final class SturdyTest {
    private static final int RUNS = 300;
    private static final int CALLS = 512;
    private static final int[] NUMBERS = {0, 1, 2, 3, 4, 5, 6, 7, 8, 9, 11, 12, 17, 18, 20, 40, 99, 199, 200, 900, 901, 9999, 10000,
        65536, 65537, -1, -2, -900, Integer.MAX_VALUE, Integer.MIN_VALUE, Integer.MAX_VALUE - 1, Integer.MIN_VALUE + 1};

    private final Random random;
    private final List<Method> methods;

    private SturdyTest(Random random, List<Method> methods) {
        this.random = random;
        this.methods = methods;
    }

    public static void main(String[] args) throws ReflectiveOperationException {
        List<Method> methods = new ArrayList<>();
        for (Method method : ReelChange.class.getDeclaredMethods()) {
            if (Modifier.isPublic(method.getModifiers())) {
                methods.add(method);
            }
        }
        methods.sort(Comparator.comparing(Method::getName));
        Check.due("public methods", methods.size(), 55);
        for (int i = 0; i < RUNS; i++) {
            new SturdyTest(new Random(i), methods).anyCalls();
        }
        for (int i = 0; i < 20 * RUNS; i++) {
            new SturdyTest(new Random(i), methods).spoiltText();
        }
        nothingIsMade();
        Check.end("SturdyTest");
    }

    private int anyNumber() {
        return random.nextInt(3) > 0 ? random.nextInt(6) : NUMBERS[random.nextInt(NUMBERS.length)];
    }

    private SlowHouse anyHouse() {
        SlowHouse house = SlowHouse.any(random);
        while (house.text().length() > 900) {
            house = SlowHouse.any(random);
        }
        return house;
    }

    private void anyCalls() throws ReflectiveOperationException {
        ReelChange x = new ReelChange();
        if (random.nextInt(10) > 0) {
            Check.house(x, anyHouse().text());
        }
        for (int i = 0; i < CALLS; i++) {
            Method method = methods.get(random.nextInt(methods.size()));
            if (method.getName().equals("house") && random.nextInt(20) > 0) {
                continue;
            }
            Class<?>[] types = method.getParameterTypes();
            Object[] with = new Object[types.length];
            for (int k = 0; k < types.length; k++) {
                with[k] = types[k] == boolean.class ? (Object) random.nextBoolean() : (Object) anyNumber();
            }
            call(x, method, with);
        }
    }

    private static void call(ReelChange x, Method method, Object[] with) throws ReflectiveOperationException {
        String thrown = "";
        try {
            method.invoke(x, with);
        } catch (InvocationTargetException e) {
            boolean meant = method.getName().equals("led") && e.getCause() instanceof NoSuchElementException;
            thrown = meant ? "" : e.getCause().toString();
        }
        Check.due(method.getName() + java.util.Arrays.toString(with) + thrown, thrown.length(), 0);
        Check.due("trouble is one of 0 to 6", x.trouble() >= 0 && x.trouble() <= 6, true);
    }

    /** A good text with some bytes changed: read, or refused at a place within it. */
    private void spoiltText() {
        String good = anyHouse().text();
        StringBuilder text = new StringBuilder(good);
        String signs = "abyz019 ;,.A";
        for (int i = 1 + random.nextInt(3); i > 0; i--) {
            int at = random.nextInt(text.length());
            switch (random.nextInt(4)) {
                case 0:
                    text.setCharAt(at, signs.charAt(random.nextInt(signs.length())));
                    break;
                case 1:
                    text.deleteCharAt(at);
                    break;
                case 2:
                    text.setLength(at + 1);
                    break;
                default:
                    text.setCharAt(at, (char) random.nextInt(256));
                    break;
            }
        }
        ReelChange x = new ReelChange();
        int places = Check.house(x, text.toString());
        if (places >= 0) {
            Check.due("places of " + text, places >= 2 && places <= 8 && x.fault() == 0 && x.where() == -1, true);
            return;
        }
        int same = 0;
        while (same < text.length() && same < good.length() && text.charAt(same) == good.charAt(same)) {
            same++;
        }
        int behind = 0;
        for (int at = same; at > 0 && "; ,".indexOf(good.charAt(at - 1)) < 0; at--) {
            behind++;
        }
        Check.due("fault of " + text, x.fault() >= 1 && x.fault() <= 6, true);
        Check.due("where of " + text, x.where() <= text.length() && x.where() >= same - behind, true);
    }

    /** What a run makes stays in its room, so only the constructor makes anything. */
    private static void nothingIsMade() {
        ReelChange x = Check.open(Houses.THREE);
        com.sun.management.ThreadMXBean counter = (com.sun.management.ThreadMXBean) java.lang.management.ManagementFactory.getThreadMXBean();
        long thread = Thread.currentThread().getId();
        long least = Long.MAX_VALUE;
        for (int i = 0; i < 20; i++) {
            long before = counter.getThreadAllocatedBytes(thread);
            someCalls(x);
            least = Math.min(least, counter.getThreadAllocatedBytes(thread) - before);
        }
        Check.due("bytes made by calls", least, 0);
    }

    private static void someCalls(ReelChange x) {
        x.threads(1, 9);
        x.trim(2, true);
        x.mend(0);
        x.image();
        x.undo();
        x.undo();
        x.undo();
        x.back(0);
        x.fits();
        x.bySlip(1);
        x.never(2);
        x.truly(0, 40, true);
        x.who(1);
        x.holds(0, 4, false);
        x.apart(1, 3);
        x.exchanges();
        x.bestMan(7, 20);
        x.feed(0, 0, 0, 0, 0);
        x.house(3);
        x.house(-1);
    }
}
