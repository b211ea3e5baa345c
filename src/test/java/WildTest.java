import java.lang.reflect.InvocationTargetException;
import java.lang.reflect.Method;
import java.lang.reflect.Modifier;
import java.util.ArrayList;
import java.util.Arrays;
import java.util.Comparator;
import java.util.List;
import java.util.Random;

/** No call ever throws, whatever its numbers are, and the same calls give the same answers. */
public final class WildTest {
    private static final Telling T = new Telling("WildTest");
    private static final int CALLS = 512;
    private static final int[] ODD = {Integer.MIN_VALUE, Integer.MIN_VALUE + 1, -100000, -2, -1, 29, 30, 31, 32, 63, 64, 99, 100,
        127, 128, 600, 601, 999, 1000, Integer.MAX_VALUE - 10, Integer.MAX_VALUE};
    private static final String[] WORDS = {"people ", "word ", "all ", "fee ", "risk ", "slack ", "want ", "owe ", "pay ", "ring ",
        "strike ", "fail ", "month", ";", ";", ";", "\n", "1 ", "2 ", "0 ", "3 ", "8 ", "9 ", "99 ", "100 ", "x", "#", "\u00ff"};

    public static void main(String[] args) throws ReflectiveOperationException {
        List<Method> calls = new ArrayList<>();
        for (Method m : RingVillage.class.getDeclaredMethods()) {
            if (Modifier.isPublic(m.getModifiers())) {
                calls.add(m);
            }
        }
        calls.sort(Comparator.comparing(Method::getName));
        for (int seed = 0; seed < 120; seed++) {
            T.due("the same calls, seed " + seed, play(calls, seed), play(calls, seed));
        }
        T.close();
    }

    private static long play(List<Method> calls, int seed) throws IllegalAccessException {
        Random random = new Random(seed);
        RingVillage x = new RingVillage();
        long sum = 0;
        tellSome(x, random);
        for (int i = 0; i < CALLS; i++) {
            Method call = calls.get(random.nextInt(calls.size()));
            Object[] numbers = new Object[call.getParameterCount()];
            boolean text = call.getName().equals("text") || call.getName().equals("again");
            for (int k = 0; k < numbers.length; k++) {
                boolean isFlag = call.getParameterTypes()[k] == boolean.class;
                numbers[k] = isFlag ? (Object) random.nextBoolean() : (Object) number(random, k);
            }
            if (text && random.nextInt(4) > 0) {
                continue;
            }
            sum = sum * 31 + answer(x, call, numbers);
        }
        return sum;
    }

    private static int number(Random random, int at) {
        if (random.nextInt(12) == 0) {
            return ODD[random.nextInt(ODD.length)];
        }
        if (random.nextInt(40) == 0) {
            return random.nextInt();
        }
        if (at == 0) {
            return random.nextInt(2);
        }
        return at == 1 ? random.nextInt(4) - 1 : random.nextInt(random.nextBoolean() ? 3 : 12);
    }

    private static void tellSome(RingVillage x, Random random) {
        String good = "people 9;all 3;want 0 1 2 3;want 1 2 3 4;want 2 3 1 1;want 0 1 1 7;want 8 7 1 2;want 3 0 3 3;want 4 5 3 1;"
            + "risk 0 30;risk 3 40;fee 2 3;slack 2;word 0 1 9;word 8 2 0;";
        Telling.tell(x, 0, RingVillage.NONE, good);
        Telling.tell(x, 0, RingVillage.NONE, "people 3;all 2;want 0 1 2 3;want 1 2 1 1;risk 1 50;");
        Telling.tell(x, 1, RingVillage.NONE, "ring 1 2 0 1 2;owe 0 1 1;ring 2 9 1 0;month;pay 0 1 1;strike 1;fail 2;owe 0 1 9;");
        StringBuilder wild = new StringBuilder();
        for (int i = 0; i < 60; i++) {
            wild.append(WORDS[random.nextInt(WORDS.length)]);
        }
        Telling.tell(x, random.nextInt(2), RingVillage.NONE, wild.toString());
        for (int i = 0; i < 5; i++) {
            StringBuilder row = new StringBuilder();
            for (int k = 0; k < 20; k++) {
                int a = random.nextInt(9);
                int b = (a + 1 + random.nextInt(8)) % 9;
                row.append(random.nextInt(3) > 0 ? "owe " + a + " " + b + " 1;" : "ring 1 3 " + a + " " + b + ";");
            }
            Telling.tell(x, 1, RingVillage.NONE, row.toString());
        }
    }

    private static long answer(RingVillage x, Method call, Object[] numbers) throws IllegalAccessException {
        try {
            Object got = call.invoke(x, numbers);
            return got instanceof Boolean ? ((Boolean) got ? 1 : 0) : ((Number) got).longValue();
        } catch (InvocationTargetException e) {
            T.due(call.getName() + Arrays.toString(numbers) + " threw " + e.getCause(), 1, 0);
            return 0;
        }
    }
}
