import java.util.ArrayList;
import java.util.List;

/**
 * ERRORS: "the order of the @return line is the order of the checks" and "A call that returns an error or NONE
 * changes nothing". Every call is made on a new object, and that object is asked the same as one without the call.
 */
public final class RefusalTest extends Scenes {
    private static final int[] POINTS = {SMALL, -1, 0, 1, 16, 31, 32, 63, 64, BIG};
    private static final int[] NUMBERS = {SMALL, -1, 0, 1, 2, 3, 15, 16, 19, 20, BIG};
    private static final int[] TENTHS = {SMALL, -1, 0, 1, 999, 1000, BIG};
    private static final int[] WHATS = {SMALL, -1, 0, 1, 2, 3, 4, 5, 6, 7, 11, 12, BIG};
    private static final int SCENES = 9;
    private static final int LOOKS = 15;

    private static int refused = 0;
    private static final int[] seen = new int[6];

    public static void main(String[] args) {
        for (int scene = 0; scene < SCENES; scene++) {
            for (Call call : calls()) {
                check(scene, call);
            }
        }
        c.holds("calls were refused: " + refused, refused > 5000);
        for (int error = 1; error <= 5; error++) {
            c.holds("the error " + -error + " was answered", seen[error] > 0);
        }
        c.end("RefusalTest");
    }

    /** A method by its name and the arguments of a call. */
    private record Call(String name, int... values) {
        int make(TentFields f) {
            int[] v = values;
            return switch (name) {
                case "come" -> f.come(v[0], v[1]);
                case "comeAll" -> f.comeAll();
                case "leave" -> f.leave(v[0]);
                case "moveTent" -> f.moveTent(v[0], v[1], v[2]);
                case "handOver" -> f.handOver(v[0], v[1], v[2]);
                case "lay" -> f.lay(v[0], v[1], v[2]);
                case "carry" -> f.carry(v[0], v[1], v[2]);
                case "type" -> f.type((char) v[0]);
                case "undo" -> f.undo();
                case "restore" -> f.restore();
                case "plot" -> f.plot(v[0], v[1], v[2]);
                case "camper" -> f.camper(v[0], v[1]);
                case "plotOf" -> f.plotOf(v[0], v[1], v[2]);
                case "song" -> f.song(v[0], v[1]);
                case "way" -> f.way(v[0], v[1], v[2], v[3], v[4]);
                case "would" -> f.would(v[0], v[1], v[2]);
                case "loudest" -> f.loudest();
                case "share" -> f.share(v[0]) < 0.0f ? UNKNOWN : 0;
                default -> f.count(v[0]);
            };
        }

        boolean asksOnly() {
            return switch (name) {
                case "plot", "camper", "plotOf", "song", "way", "would", "loudest", "share", "count" -> true;
                default -> false;
            };
        }

        @Override
        public String toString() {
            return name + java.util.Arrays.toString(values);
        }
    }

    private static List<Call> calls() {
        List<Call> all = new ArrayList<>();
        for (String name : new String[] {"comeAll", "undo", "restore", "loudest"}) {
            all.add(new Call(name));
        }
        for (int x : POINTS) {
            for (int y : POINTS) {
                all.add(new Call("come", x, y));
                for (int number : NUMBERS) {
                    all.add(new Call("moveTent", number, x, y));
                    all.add(new Call("handOver", x, y, number));
                    all.add(new Call("carry", number, x, y));
                }
                for (int tenths : TENTHS) {
                    all.add(new Call("lay", x, y, tenths));
                }
                for (int what : WHATS) {
                    all.add(new Call("plot", x, y, what));
                    all.add(new Call("would", x, y, what));
                }
                all.add(new Call("way", 1, x, y, -1, 0));
                all.add(new Call("way", 0, x, y, 0, 3));
                all.add(new Call("way", 2, x, y, 9, 1));
                all.add(new Call("way", 16, x, y, 1, 1));
            }
        }
        for (int number : NUMBERS) {
            all.add(new Call("leave", number));
            all.add(new Call("share", number));
            for (int what : WHATS) {
                all.add(new Call("camper", number, what));
                all.add(new Call("song", number, what));
                all.add(new Call("plotOf", number, what, 0));
                all.add(new Call("plotOf", number, 0, what));
                all.add(new Call("way", number, 31, 32, what, 2));
                all.add(new Call("way", number, 31, 32, 1, what));
            }
        }
        for (int what : WHATS) {
            all.add(new Call("count", what));
        }
        for (int character : TEXT_CHARACTERS) {
            all.add(new Call("type", character));
        }
        return all;
    }

    // ---- what the call is made on

    private static TentFields scene(int number) {
        TentFields f;
        switch (number) {
            case 0:
                return new TentFields();
            case 1:
                f = new TentFields();
                f.lay(31, 32, 7);
                f.keep();
                f.type('1');
                return f;
            case 2:
                f = with(0, 0);
                f.keep();
                write(f, "0,0");
                return f;
            case 3:
                f = cut();
                f.lay(16, 31, 9);
                f.keep();
                f.moveTent(0, 16, 63);
                write(f, "5,5;16,63;6,6");
                return f;
            case 4:
                f = quarters();
                f.leave(1);
                f.undo();
                f.lay(32, 16, 9);
                f.lay(1, 1, 8);
                write(f, "1,1;2,2;64,1");
                return f;
            default:
                return deeperScene(number);
        }
    }

    private static TentFields deeperScene(int number) {
        TentFields f;
        switch (number) {
            case 5:
                f = smallest();
                f.moveTent(0, 63, 63);
                f.lay(0, 1, 3);
                f.handOver(0, 0, 1);
                f.come(16, 0);
                f.keep();
                f.undo();
                return f;
            case 6:
                f = full();
                f.keep();
                f.leave(3);
                write(f, "0,0;1,1;2,2;3,3;4,4;5,5;6,6;7,7;8,8;9,9;0,9;9,0;3,7;7,3;10,5");
                return f;
            case 7:
                f = deserted();
                f.keep();
                f.lay(0, 0, 5);
                return f;
            default:
                f = with(8, 40, 56, 32, 32, 48, 1, 1, 31, 33);
                f.lay(63, 63, 5);
                f.leave(0);
                f.leave(1);
                f.type('6');
                return f;
        }
    }

    // ---- what is asked then

    private static void check(int scene, Call call) {
        TentFields f = scene(scene);
        int answer = call.make(f);
        boolean isRefused = answer < 0;
        if (answer < -5 && !call.name().equals("comeAll")) {
            c.due(call + " on scene " + scene + " answers no error that there is", answer, 0);
        }
        if (isRefused) {
            refused++;
            seen[answer >= -5 ? -answer : 0]++;
        }
        if (isRefused || call.asksOnly()) {
            for (int look = 0; look < LOOKS; look++) {
                isAsBefore(scene, call, look);
            }
        }
    }

    private static final String[][] before = new String[SCENES][LOOKS];

    private static void isAsBefore(int scene, Call call, int look) {
        if (before[scene][look] == null) {
            before[scene][look] = looked(scene(scene), look);
        }
        TentFields f = scene(scene);
        call.make(f);
        c.dueText(call + " on scene " + scene + ", look " + look, looked(f, look), before[scene][look]);
    }

    /** Looks 0 to 9 undo 0 to 4 times first, 10 and 11 restore first, 12 makes the text come, 13 empties it. */
    private static String looked(TentFields f, int look) {
        StringBuilder told = new StringBuilder();
        if (look < 10) {
            for (int turn = 0; turn < look / 2; turn++) {
                told.append(f.undo()).append(' ');
            }
        } else if (look < 12) {
            told.append(f.restore()).append(' ');
        } else if (look == 12) {
            told.append(f.comeAll()).append(' ').append(f.type('0')).append(' ').append(f.comeAll()).append(' ');
        } else if (look == 13) {
            told.append(f.clearText()).append(' ').append(f.come(63, 62)).append(' ').append(f.lay(63, 62, 1)).append(' ');
        } else {
            told.append(f.come(1, 2)).append(' ').append(f.leave(1)).append(' ').append(f.undo()).append(' ');
        }
        if (look % 2 == 0) {
            numbers(f, told);
        } else {
            told.append(plots(f));
        }
        return told.toString();
    }

    private static void numbers(TentFields f, StringBuilder told) {
        for (int what = 0; what < 12; what++) {
            told.append(f.count(what)).append(' ');
        }
        for (int camper = 0; camper < 16; camper++) {
            for (int what = 0; what < 7 && (what == 0 || f.camper(camper, 0) >= 0); what++) {
                told.append(f.camper(camper, what)).append(' ');
            }
        }
        for (int song = 0; song < 20; song++) {
            for (int what = 0; what < 4 && (what == 0 || f.song(song, 0) >= 0); what++) {
                told.append(f.song(song, what)).append(' ');
            }
        }
        told.append(f.loudest());
    }
}
