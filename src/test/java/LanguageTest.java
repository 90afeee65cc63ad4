import java.io.IOException;
import java.lang.management.ManagementFactory;
import java.lang.reflect.Constructor;
import java.lang.reflect.Field;
import java.lang.reflect.Method;
import java.lang.reflect.Modifier;
import java.nio.file.Files;
import java.nio.file.Path;
import java.util.Set;
import java.util.TreeSet;
import java.util.regex.Matcher;
import java.util.regex.Pattern;

/** What of ../shared/LANGUAGE.md and of the public face can be seen without calling: members, words, lengths, room. */
public final class LanguageTest {
    private static final String[] FACE = {
        "int come(int,int)", "int comeAll()", "int leave(int)", "int moveTent(int,int,int)", "int handOver(int,int,int)",
        "int lay(int,int,int)", "int carry(int,int,int)", "int type(char)", "int clearText()", "int undo()", "int keep()",
        "int restore()", "int plot(int,int,int)", "int camper(int,int)", "int plotOf(int,int,int)", "int song(int,int)",
        "int way(int,int,int,int,int)", "int would(int,int,int)", "int loudest()", "float share(int)", "int count(int)"};
    private static final Set<String> CONSTANTS = Set.of("UNKNOWN", "BAD_VALUE", "FULL", "NOT_POSSIBLE", "NONE");
    private static final String[] UNWANTED = {"import ", "package ", "throw", "catch", "try", "finally", "synchronized",
        "assert", "->", "::", "instanceof", "Float.", "Double.", "System.", "Exact", "String", "@", "Thread", "static {",
        "protected", " / n", "%"};

    private static final Checks c = new Checks();

    public static void main(String[] args) throws IOException {
        face();
        words();
        lengths();
        room();
        noCallThrows();
        c.end("LanguageTest");
    }

    private static void face() {
        Class<?> type = TentFields.class;
        c.holds("public and final", Modifier.isPublic(type.getModifiers()) && Modifier.isFinal(type.getModifiers()));
        Set<String> methods = new TreeSet<>();
        Set<String> names = new TreeSet<>();
        for (Method method : type.getDeclaredMethods()) {
            if (!Modifier.isPrivate(method.getModifiers())) {
                c.due(method + " is public", method.getModifiers(), Modifier.PUBLIC);
                methods.add(signature(method));
                names.add(method.getName());
            }
        }
        c.holds("the face has " + methods, methods.equals(new TreeSet<>(Set.of(FACE))));
        for (Field field : type.getDeclaredFields()) {
            int want = CONSTANTS.contains(field.getName())
                    ? Modifier.PUBLIC | Modifier.STATIC | Modifier.FINAL : field.getModifiers() & ~7 | Modifier.PRIVATE;
            c.due(field + "", field.getModifiers(), want);
            c.holds(field + " is final if static", !Modifier.isStatic(field.getModifiers())
                    || Modifier.isFinal(field.getModifiers()));
        }
        Constructor<?>[] constructors = type.getDeclaredConstructors();
        c.due("constructors", constructors.length, 1);
        c.due("the constructor is public", constructors[0].getModifiers(), Modifier.PUBLIC);
        c.due("its parameters", constructors[0].getParameterCount(), 0);
        c.holds("twelve classes", type.getDeclaredClasses().length < 12);
        inside(type, names);
    }

    private static void inside(Class<?> type, Set<String> publicNames) {
        for (Class<?> inner : type.getDeclaredClasses()) {
            c.holds(inner + " is private and static",
                    Modifier.isPrivate(inner.getModifiers()) && Modifier.isStatic(inner.getModifiers()));
            c.holds(inner + " has twenty fields", inner.getDeclaredFields().length <= 20);
            hasOwnNames(inner, publicNames);
        }
        hasOwnNames(type, publicNames);
    }

    private static void hasOwnNames(Class<?> type, Set<String> publicNames) {
        for (Method method : type.getDeclaredMethods()) {
            c.holds(method + " has seven parameters", method.getParameterCount() <= 7);
            c.holds(method + " has a name of its own",
                    Modifier.isPublic(method.getModifiers()) || !publicNames.contains(method.getName()));
        }
    }

    private static String signature(Method method) {
        StringBuilder text = new StringBuilder(method.getReturnType() + " " + method.getName() + "(");
        for (Class<?> parameter : method.getParameterTypes()) {
            text.append(text.charAt(text.length() - 1) == '(' ? "" : ",").append(parameter);
        }
        return text.append(")").toString();
    }

    private static String code() throws IOException {
        String source = Files.readString(Path.of("src/main/java/TentFields.java"));
        return source.replaceAll("(?s)/\\*.*?\\*/", "").replaceAll("//[^\n]*", "");
    }

    private static void words() throws IOException {
        String code = code();
        for (String word : UNWANTED) {
            c.holds("no '" + word + "'", !code.contains(word));
        }
        Matcher library = Pattern.compile("\\b(Math|Integer|Long|Arrays|List|ArrayList)\\b\\.?\\w*").matcher(code);
        while (library.find()) {
            c.holds(library.group(), Set.of("Math.min", "Math.max", "Integer.bitCount").contains(library.group()));
        }
    }

    private static void lengths() throws IOException {
        String name = "";
        int length = 0;
        for (String line : code().split("\n")) {
            Matcher head = Pattern.compile("^ {4,8}[\\w\\[\\] ]*\\b(\\w+)\\([^;]*\\{$").matcher(line);
            if (head.find()) {
                name = head.group(1);
                length = 0;
            }
            length++;
            if (line.matches(" {4,8}\\}") && !name.isEmpty()) {
                c.holds(name + " has " + length + " lines", length <= 60);
            }
        }
    }

    /** All calls of a run share one room: what a call makes stays there, so calls make nothing. */
    private static void room() {
        com.sun.management.ThreadMXBean bean = (com.sun.management.ThreadMXBean) ManagementFactory.getThreadMXBean();
        long id = Thread.currentThread().getId();
        useAll(new TentFields());
        long before = bean.getThreadAllocatedBytes(id);
        TentFields field = new TentFields();
        long made = bean.getThreadAllocatedBytes(id);
        int answers = useAll(field);
        long after = bean.getThreadAllocatedBytes(id);
        c.holds("the constructor makes " + (made - before) + " bytes", made - before < 60_000);
        c.holds("the calls make " + (after - made) + " bytes", after - made < 2_000);
        c.holds("they were called", answers != 0);
    }

    private static int useAll(TentFields f) {
        int sum = 0;
        for (int turn = 0; turn < 16; turn++) {
            sum += f.come(turn * 29 & 63, turn * 17 & 63) + f.lay(turn * 5 & 63, turn, 10) + f.type((char) ('1' + turn % 7));
            sum += f.moveTent(turn, turn * 3, 63 - turn) + f.handOver(turn * 11 & 63, turn * 7 & 63, turn / 2) + f.undo();
            sum += f.carry(0, turn, 2) + f.keep() + f.plot(turn, 9, 6) + f.camper(turn, 5) + f.camper(turn, 6);
            sum += f.plotOf(0, turn, 2) + f.song(turn, 2) + f.way(turn, 63, 63, 2, 1) + f.would(turn, turn, 1);
            sum += f.loudest() + f.count(turn) + f.comeAll() + (int) (f.share(turn) * 100.0f);
        }
        for (int turn = 0; turn < 16; turn++) {
            sum += f.leave(turn) + f.count(2) + f.restore();
        }
        f.clearText();
        for (int character = 0; character < 3; character++) {
            sum += f.type("1,1".charAt(character));
        }
        return sum + f.comeAll() + f.clearText();
    }

    /** Rule 7: any arguments in any state, and behind the 512th call too, where only the answers are free. */
    private static void noCallThrows() {
        int[] wild = {-1, 64, 100, Integer.MAX_VALUE, Integer.MIN_VALUE, 65536 + 5, -64, 4096};
        long seed = 11;
        for (int run = 0; run < 20; run++) {
            TentFields f = new TentFields();
            int[] v = new int[5];
            int sum = 0;
            for (int call = 0; call < 4000; call++) {
                for (int index = 0; index < v.length; index++) {
                    seed = seed * 6364136223846793005L + 1442695040888963407L;
                    int drawn = (int) (seed >>> 33);
                    v[index] = drawn % 12 == 0 ? wild[drawn / 12 % wild.length] : drawn % 40 == 1 ? (int) seed : drawn / 40 % 64;
                }
                sum += callOf(f, call * 7 % 23 + run, v);
            }
            c.holds("no call of run " + run + " throws", sum != 1);
        }
    }

    private static int callOf(TentFields f, int method, int[] v) {
        return switch (method % 23) {
            case 0, 21 -> f.come(v[0], v[1]);
            case 1 -> f.comeAll();
            case 2 -> v[3] % 3 == 0 ? f.leave(v[0] % 17) : f.undo();
            case 3 -> f.moveTent(v[0] % 17, v[1], v[2]);
            case 4 -> f.handOver(v[0], v[1], v[2] % 17);
            case 5 -> f.lay(v[0], v[1], v[2]);
            case 6 -> f.carry(v[0] % 21, v[1], v[2]);
            case 7, 22 -> f.type("0123456,;,;,;,;x".charAt(v[0] & 15));
            case 8 -> v[0] % 5 == 0 ? f.clearText() : f.type((char) v[1]);
            case 9 -> f.undo();
            case 10 -> f.keep();
            case 11 -> f.restore();
            case 12 -> f.plot(v[0], v[1], v[2] % 8);
            case 13 -> f.camper(v[0] % 17, v[1] % 8);
            case 14 -> f.plotOf(v[0] % 17, v[1], v[2] % 4);
            case 15 -> f.song(v[0], v[1] % 5);
            case 16 -> f.way(v[0] % 17, v[1], v[2], v[3], v[4] % 4);
            case 17 -> f.would(v[0], v[1], v[2] % 4);
            case 18 -> f.loudest();
            case 19 -> (int) f.share(v[0]);
            default -> f.count(v[0] % 13);
        };
    }
}
