import java.lang.reflect.Array;
import java.lang.reflect.Field;
import java.lang.reflect.InvocationTargetException;
import java.lang.reflect.Method;
import java.lang.reflect.Modifier;
import java.util.ArrayDeque;
import java.util.Arrays;
import java.util.Collections;
import java.util.Deque;
import java.util.IdentityHashMap;
import java.util.Random;
import java.util.Set;

/**
 * LANGUAGE.md of what runs: no call throws, whatever its numbers, in any state (rule 7); the same calls give the same
 * answers, whatever other objects are asked (rules 5, 13); an object keeps no more than it was made with (rule 12).
 */
public final class AnyCallTest {
    private static final int RUNS = 60;
    private static final int CALLS = 3000;
    private static final int[] NUMBERS = {Integer.MIN_VALUE, Integer.MIN_VALUE + 1, -1000000000, -256, -10, -7, -6, -5, -4,
        -3, -2, -1, 0, 1, 2, 3, 4, 5, 6, 7, 8, 9, 10, 11, 12, 13, 15, 16, 17, 19, 20, 21, 30, 31, 48, 59, 96, 99, 100, 101,
        255, 256, 512, 999, 1000, 65536, 1000000000, Integer.MAX_VALUE - 1, Integer.MAX_VALUE};
    private static final String[] TOLD = {"yl200+0;", "yb159-5;", "yo011+5;", "yw205+1;", "yh079-1;", "yt200+0;", "ym104-3;",
        "w0s201;", "w0d129;", "w1j201;", "w1b005;", "w0r001;", "w1g203;", "r5;", "r0;", "k19;", "k91;", "f999;", "f0;", "u;",
        "yl000+0;", "w2s001;", "r9;", "k00;", "f12", "z"};
    // One run may make thousands of objects in a room of 600,000 objects and 7.3 million elements.
    private static final int MOST_OBJECTS = 100;
    private static final int MOST_ELEMENTS = 1000;

    private static int asked = 0;
    private static int wrong = 0;

    private static void say(String what) {
        wrong++;
        if (wrong <= 20) {
            System.out.println(what);
        }
    }

    public static void main(String[] args) {
        Method[] calls = Arrays.stream(LoadedForTheLane.class.getDeclaredMethods())
            .filter(m -> Modifier.isPublic(m.getModifiers())).sorted((a, b) -> a.getName().compareTo(b.getName()))
            .toArray(Method[]::new);
        for (int run = 0; run < RUNS; run++) {
            run(calls, run);
        }
        room();
        System.out.println(asked + " answers looked at, " + wrong + " wrong");
        if (wrong != 0) {
            System.exit(1);
        }
    }

    /** Twins are asked the same, another object something else between. */
    private static void run(Method[] calls, int number) {
        Random lot = new Random(number);
        LoadedForTheLane one = new LoadedForTheLane();
        LoadedForTheLane twin = new LoadedForTheLane();
        LoadedForTheLane other = new LoadedForTheLane();
        int[] kept = kept(one);
        for (int call = 0; call < CALLS; call++) {
            if (lot.nextInt(3) == 0) {
                String told = TOLD[lot.nextInt(TOLD.length)];
                Sentences.tell(one, told);
                Sentences.tell(twin, told);
                // Mostly one statement by one: of several by lot one has mostly a FAULT.
                if (lot.nextInt(5) > 0 && one.load() != twin.load()) {
                    say("run " + number + ": twins take " + told + " otherwise");
                }
            }
            Method m = calls[lot.nextInt(calls.length)];
            Object[] numbers = numbers(m, lot);
            Object answer = ask(m, one, numbers, number);
            Method between = calls[lot.nextInt(calls.length)];
            ask(between, other, numbers(between, lot), number);
            if (!String.valueOf(answer).equals(String.valueOf(ask(m, twin, numbers, number)))) {
                say("run " + number + ": twins answer otherwise: " + m.getName() + Arrays.toString(numbers));
            }
        }
        if (!Arrays.equals(kept, kept(one))) {
            say("run " + number + ": it keeps " + Arrays.toString(kept(one)) + ", at first " + Arrays.toString(kept));
        }
    }

    private static Object[] numbers(Method m, Random lot) {
        Object[] numbers = new Object[m.getParameterCount()];
        for (int i = 0; i < numbers.length; i++) {
            int n = lot.nextInt(8);
            numbers[i] = n < 3 ? lot.nextInt(2) : n == 3 ? lot.nextInt() : n == 4 ? lot.nextInt(12)
                : NUMBERS[lot.nextInt(NUMBERS.length)];
        }
        return numbers;
    }

    private static Object ask(Method m, LoadedForTheLane x, Object[] numbers, int run) {
        asked++;
        try {
            return m.invoke(x, numbers);
        } catch (InvocationTargetException e) {
            say("run " + run + ": " + m.getName() + Arrays.toString(numbers) + " threw " + e.getCause());
            return "threw";
        } catch (IllegalAccessException e) {
            throw new IllegalStateException(e);
        }
    }

    private static void room() {
        int[] kept = kept(new LoadedForTheLane());
        if (kept[0] > MOST_OBJECTS || kept[1] > MOST_ELEMENTS) {
            say("an object is made of " + kept[0] + " objects, " + kept[1] + " fields and elements");
        }
    }

    /** How many objects and arrays an object is made of, how many fields and elements these have. */
    private static int[] kept(LoadedForTheLane x) {
        Set<Object> seen = Collections.newSetFromMap(new IdentityHashMap<>());
        Deque<Object> left = new ArrayDeque<>();
        left.add(x);
        int elements = 0;
        while (!left.isEmpty()) {
            Object next = left.remove();
            if (seen.add(next)) {
                elements += next.getClass().isArray() ? elementsOf(next, left) : fieldsOf(next, left);
            }
        }
        return new int[] {seen.size(), elements};
    }

    private static int elementsOf(Object array, Deque<Object> left) {
        for (int i = 0; i < Array.getLength(array) && !array.getClass().getComponentType().isPrimitive(); i++) {
            if (Array.get(array, i) != null) {
                left.add(Array.get(array, i));
            }
        }
        return Array.getLength(array);
    }

    private static int fieldsOf(Object object, Deque<Object> left) {
        int fields = 0;
        for (Field field : object.getClass().getDeclaredFields()) {
            if (Modifier.isStatic(field.getModifiers())) {
                continue;
            }
            fields++;
            try {
                field.setAccessible(true);
                if (!field.getType().isPrimitive() && field.get(object) != null) {
                    left.add(field.get(object));
                }
            } catch (IllegalAccessException e) {
                throw new IllegalStateException(e);
            }
        }
        return fields;
    }
}
