import java.lang.reflect.Array;
import java.lang.reflect.Field;
import java.lang.reflect.Method;
import java.lang.reflect.Modifier;
import java.nio.file.Files;
import java.nio.file.Path;
import java.util.Arrays;
import java.util.Collections;
import java.util.IdentityHashMap;
import java.util.Set;
import java.util.TreeSet;
import java.util.stream.Collectors;

/** The public face as the document tells it, some rules of LANGUAGE.md, and the room. */
public final class FaceTest {
    private static final String FACE = """
            int feed(int, int, int, int, int) throws IllegalStateException
            int trim(int) throws IllegalArgumentException
            int compile()
            int errorAt()
            int count(int) throws IndexOutOfBoundsException
            int test(int) throws IndexOutOfBoundsException
            long result()
            int value(int, int) throws IndexOutOfBoundsException
            int choices(int) throws IndexOutOfBoundsException
            int choice(int, int, int) throws IndexOutOfBoundsException
            long gain(int, int, int) throws IndexOutOfBoundsException
            int branch(int, int, int, boolean) throws IndexOutOfBoundsException
            int weigh(int, int) throws IndexOutOfBoundsException, IllegalArgumentException
            int solve(int) throws IllegalArgumentException, IllegalStateException
            int takes(int, int, int) throws IndexOutOfBoundsException, IllegalArgumentException
            long worth(int, int, int) throws IndexOutOfBoundsException, IllegalArgumentException
            long brings(int, int) throws IndexOutOfBoundsException
            int chance(int) throws IndexOutOfBoundsException
            boolean isWorthHaving(int) throws IndexOutOfBoundsException
            int sweep(int, int, int, int) throws IndexOutOfBoundsException, IllegalArgumentException, IllegalStateException
            long mix(int, int, int, int) throws IndexOutOfBoundsException, IllegalArgumentException
            int bestMix(int, int, long) throws IndexOutOfBoundsException
            int drop(int) throws IndexOutOfBoundsException
            int reach(int, boolean) throws IllegalArgumentException, IllegalStateException
            long seed(long)
            int play(int) throws IndexOutOfBoundsException
            long played(int) throws IndexOutOfBoundsException
            double average(int, int, int) throws IndexOutOfBoundsException, IllegalArgumentException
            long digest()
            """;

    public static void main(String[] args) throws Exception {
        face();
        inside();
        source();
        room();
        Check.end();
    }

    private static void face() {
        Set<String> has = new TreeSet<>();
        Set<String> names = new TreeSet<>();
        for (Method method : MarkovBench.class.getDeclaredMethods()) {
            if (Modifier.isPublic(method.getModifiers())) {
                has.add(told(method));
                names.add(method.getName());
            } else {
                Check.same(method + " is private", true, Modifier.isPrivate(method.getModifiers()));
            }
        }
        Check.same("the face", new TreeSet<>(FACE.lines().toList()), has);
        Check.same("is final", true, Modifier.isFinal(MarkovBench.class.getModifiers()));
        Check.same("constructors", 1, MarkovBench.class.getConstructors().length);
        for (Field field : MarkovBench.class.getDeclaredFields()) {
            Check.same(field + " is private", true, Modifier.isPrivate(field.getModifiers()));
        }
        checkNames(MarkovBench.class, names);
    }

    private static String told(Method method) {
        String throwing = Arrays.stream(method.getExceptionTypes()).map(Class::getSimpleName)
                .collect(Collectors.joining(", "));
        return method.getReturnType() + " " + method.getName() + "("
                + Arrays.stream(method.getParameterTypes()).map(Class::getName)
                        .collect(Collectors.joining(", ")) + ")"
                + (throwing.isEmpty() ? "" : " throws " + throwing);
    }

    private static void checkNames(Class<?> type, Set<String> names) {
        for (Method method : type.getDeclaredMethods()) {
            boolean isFace = type == MarkovBench.class && Modifier.isPublic(method.getModifiers());
            Check.same(method + " has a name of its own", true,
                    isFace || !names.contains(method.getName()));
            Check.same(method + " takes at most seven", true, method.getParameterCount() <= 7);
        }
        for (Class<?> one : type.getDeclaredClasses()) {
            checkNames(one, names);
        }
    }

    private static void inside() {
        Class<?>[] classes = MarkovBench.class.getDeclaredClasses();
        Check.same("at most twelve classes", true, classes.length < 12);
        for (Class<?> one : classes) {
            Check.same(one + " is static", true, Modifier.isStatic(one.getModifiers()));
            Check.same(one + " is not public", false, Modifier.isPublic(one.getModifiers()));
            long fields = Arrays.stream(one.getDeclaredFields())
                    .filter(f -> !Modifier.isStatic(f.getModifiers())).count();
            Check.same(one + " has at most twenty fields", true, fields <= 20);
        }
    }

    private static void source() throws Exception {
        String text = Files.readString(Path.of("src/main/java/MarkovBench.java"));
        String[] never = {"->", "::", "finally", "synchronized", "assert ", "catch", "instanceof",
            "Exact(", "Random", "nanoTime", "currentTime", "getClass", "hashCode", "package ",
            "Object", "null", "Iterator", "\t"};
        for (String one : never) {
            Check.same("the source has " + one, false, text.contains(one));
        }
        Check.same("one import", "import java.util.Arrays;", text.lines()
                .filter(l -> l.startsWith("import")).collect(Collectors.joining()));
        Check.same("only bytes below 128", true, text.chars().allMatch(c -> c < 128));
        int length = 0;
        for (String line : text.lines().toList()) {
            boolean isEnd = line.equals("    }") || line.equals("        }");
            length = isEnd || line.isEmpty() ? 0 : length + 1;
            Check.same("a method is short: " + line, true, length <= 60);
        }
    }

    private static void room() throws Exception {
        Set<Object> seen = Collections.newSetFromMap(new IdentityHashMap<>());
        long elements = weigh(new MarkovBench(), seen);
        System.out.println("a new object: " + seen.size() + " objects, " + elements + " elements");
        Check.same("few objects", true, seen.size() < 1000);
        Check.same("few elements", true, elements < 200000);
        var bean = (com.sun.management.ThreadMXBean)
                java.lang.management.ManagementFactory.getThreadMXBean();
        MarkovBench bench = Tape.compiled("var x = 0 in 0 to 99; gain g = x; gain h = 1; "
                + "do a when x < 99 go 50 set x = x + 1 also go 50; do b when 1 go 100; goal x = 98;");
        long before = bean.getThreadAllocatedBytes(Thread.currentThread().getId());
        for (int i = 0; i < 60; i++) {
            bench.sweep(0, 1, 9, 30);
            bench.solve(30);
            bench.play(0);
            bench.average(0, 0, 20);
            bench.reach(30, true);
            bench.bestMix(0, 1, i);
            bench.feed(0x78202b20, 0x31202020, 0x20202020, 0x20202020, 0x20202020);
            bench.test(i);
            bench.digest();
            while (bench.count(4) > 0) {
                bench.drop(0);
            }
        }
        long made = bean.getThreadAllocatedBytes(Thread.currentThread().getId()) - before;
        System.out.println("600 calls made " + made + " bytes");
        Check.same("calls make nothing", true, made < 10000);
    }

    private static long weigh(Object one, Set<Object> seen) throws Exception {
        if (one == null || !seen.add(one)) {
            return 0;
        }
        long sum = 0;
        if (one.getClass().isArray()) {
            int length = Array.getLength(one);
            boolean isPlain = one.getClass().getComponentType().isPrimitive();
            for (int i = 0; i < length && !isPlain; i++) {
                sum += weigh(Array.get(one, i), seen);
            }
            return sum + length;
        }
        for (Field field : one.getClass().getDeclaredFields()) {
            if (!Modifier.isStatic(field.getModifiers())) {
                sum++;
                field.setAccessible(true);
                if (!field.getType().isPrimitive()) {
                    sum += weigh(field.get(one), seen);
                }
            }
        }
        return sum;
    }
}
