import java.lang.management.ManagementFactory;
import java.lang.reflect.Constructor;
import java.lang.reflect.Field;
import java.lang.reflect.Method;
import java.lang.reflect.Modifier;
import java.util.Set;
import java.util.TreeSet;

/** What ../shared/LANGUAGE.md asks of the class when it runs: the public face, the room of its calls, that none throws. */
public final class LanguageTest {
    private static final String[] FACE = {
        "int come(int,int)", "int comeAll()", "int leave(int)", "int moveTent(int,int,int)", "int handOver(int,int,int)",
        "int lay(int,int,int)", "int carry(int,int,int)", "int type(char)", "int clearText()", "int undo()", "int keep()",
        "int restore()", "int plot(int,int,int)", "int camper(int,int)", "int plotOf(int,int,int)", "int song(int,int)",
        "int way(int,int,int,int,int)", "int would(int,int,int)", "int loudest()", "float share(int)", "int count(int)"};
    private static final Set<String> CONSTANTS = Set.of("UNKNOWN", "BAD_VALUE", "FULL", "NOT_POSSIBLE", "NONE");
    private static final int[] WILD = {-1, 64, 100, Integer.MAX_VALUE, Integer.MIN_VALUE, 65536 + 5, -64, 4096};
    // 7.3 million fields and elements, of four bytes each.
    private static final long ROOM = 4L * 7_300_000;

    private static final Checks c = new Checks();
    private static final int[] drawn = new int[5];
    private static long seed = 11;

    public static void main(String[] args) {
        face();
        room();
        noCallThrows();
        c.end("LanguageTest");
    }

    private static void face() {
        Class<?> type = TentFields.class;
        c.holds("public and final", Modifier.isPublic(type.getModifiers()) && Modifier.isFinal(type.getModifiers()));
        Set<String> methods = new TreeSet<>();
        Set<String> names = new TreeSet<>();
        for (Method method : type.getDeclaredMethods()) {
            if (!Modifier.isPrivate(method.getModifiers()) && !method.isSynthetic()) {
                c.due(method + " is public", method.getModifiers(), Modifier.PUBLIC);
                methods.add(signature(method));
                names.add(method.getName());
            }
        }
        c.holds("the face has " + methods, methods.equals(new TreeSet<>(Set.of(FACE))));
        for (Field field : type.getDeclaredFields()) {
            int want = CONSTANTS.contains(field.getName())
                    ? Modifier.PUBLIC | Modifier.STATIC | Modifier.FINAL : field.getModifiers() & ~7 | Modifier.PRIVATE;
            c.due(field + "", field.getModifiers(), want);
            c.holds(field + " is final if static", !Modifier.isStatic(field.getModifiers())
                    || Modifier.isFinal(field.getModifiers()));
        }
        Constructor<?>[] constructors = type.getDeclaredConstructors();
        c.due("constructors", constructors.length, 1);
        c.due("the constructor is public", constructors[0].getModifiers(), Modifier.PUBLIC);
        c.due("its parameters", constructors[0].getParameterCount(), 0);
        inside(type, names);
    }

    private static void inside(Class<?> type, Set<String> publicNames) {
        for (Class<?> inner : type.getDeclaredClasses()) {
            int marks = inner.getModifiers();
            c.holds(inner + " is private or package-visible", !Modifier.isPublic(marks) && !Modifier.isProtected(marks));
            c.holds(inner + " is static", Modifier.isStatic(marks));
        }
        for (Method method : type.getDeclaredMethods()) {
            c.holds(method + " has a name of its own",
                    Modifier.isPublic(method.getModifiers()) || !publicNames.contains(method.getName()));
        }
    }

    private static String signature(Method method) {
        StringBuilder text = new StringBuilder(method.getReturnType() + " " + method.getName() + "(");
        for (Class<?> parameter : method.getParameterTypes()) {
            text.append(text.charAt(text.length() - 1) == '(' ? "" : ",").append(parameter);
        }
        return text.append(")").toString();
    }

    /** All calls of a run share one room: the dearest call, made 512 times on a new object, has to fit. */
    private static void room() {
        com.sun.management.ThreadMXBean bean = (com.sun.management.ThreadMXBean) ManagementFactory.getThreadMXBean();
        long id = Thread.currentThread().getId();
        long constructor = 0;
        long dearest = 0;
        int sum = 0;
        for (int run = 0; run < 30; run++) {
            long before = bean.getThreadAllocatedBytes(id);
            TentFields f = new TentFields();
            long after = bean.getThreadAllocatedBytes(id);
            constructor = run == 0 ? 0 : Math.max(constructor, after - before);
            for (int call = 0; call < 512; call++) {
                draw();
                before = bean.getThreadAllocatedBytes(id);
                sum += callOf(f, call * 7 % 23 + run, drawn);
                after = bean.getThreadAllocatedBytes(id);
                dearest = run == 0 ? 0 : Math.max(dearest, after - before);
            }
        }
        c.holds("an object and 512 calls make " + constructor + " and 512 times " + dearest + " bytes",
                constructor + 512 * dearest <= ROOM);
        c.holds("they were called", sum != 1);
    }

    private static void draw() {
        for (int index = 0; index < drawn.length; index++) {
            seed = seed * 6364136223846793005L + 1442695040888963407L;
            int next = (int) (seed >>> 33);
            drawn[index] = next % 12 == 0 ? WILD[next / 12 % WILD.length] : next % 40 == 1 ? (int) seed : next / 40 % 64;
        }
    }

    /** Rule 7: any arguments in any state, and behind the 512th call too, where only the answers are free. */
    private static void noCallThrows() {
        for (int run = 0; run < 20; run++) {
            TentFields f = new TentFields();
            int sum = 0;
            for (int call = 0; call < 4000; call++) {
                draw();
                sum += callOf(f, call * 7 % 23 + run, drawn);
            }
            c.holds("no call of run " + run + " throws", sum != 1);
        }
    }

    private static int callOf(TentFields f, int method, int[] v) {
        return switch (method % 23) {
            case 0, 21 -> f.come(v[0], v[1]);
            case 1 -> f.comeAll();
            case 2 -> v[3] % 3 == 0 ? f.leave(v[0] % 17) : f.undo();
            case 3 -> f.moveTent(v[0] % 17, v[1], v[2]);
            case 4 -> f.handOver(v[0], v[1], v[2] % 17);
            case 5 -> f.lay(v[0], v[1], v[2]);
            case 6 -> f.carry(v[0] % 21, v[1], v[2]);
            case 7, 22 -> f.type("0123456,;,;,;,;x".charAt(v[0] & 15));
            case 8 -> v[0] % 5 == 0 ? f.clearText() : f.type((char) v[1]);
            case 9 -> f.undo();
            case 10 -> f.keep();
            case 11 -> f.restore();
            case 12 -> f.plot(v[0], v[1], v[2] % 8);
            case 13 -> f.camper(v[0] % 17, v[1] % 8);
            case 14 -> f.plotOf(v[0] % 17, v[1], v[2] % 4);
            case 15 -> f.song(v[0], v[1] % 5);
            case 16 -> f.way(v[0] % 17, v[1], v[2], v[3], v[4] % 4);
            case 17 -> f.would(v[0], v[1], v[2] % 4);
            case 18 -> f.loudest();
            case 19 -> (int) f.share(v[0]);
            default -> f.count(v[0] % 13);
        };
    }
}
