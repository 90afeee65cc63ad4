import java.util.TreeMap;

/** What the edge tests share: the values of the constants, fields to begin with, and a field written down. */
abstract class Scenes {
    static final int UNKNOWN = -1;
    static final int BAD_VALUE = -2;
    static final int FULL = -3;
    static final int NOT_POSSIBLE = -4;
    static final int NONE = -5;
    static final int BIG = Integer.MAX_VALUE;
    static final int SMALL = Integer.MIN_VALUE;
    static final int[][] NO_POINTS = {{-1, 0}, {64, 0}, {0, -1}, {0, 64}, {-1, 63}, {64, 63}, {63, -1}, {63, 64}, {-1, -1},
        {64, 64}, {BIG, 0}, {0, BIG}, {SMALL, 63}, {63, SMALL}, {64 * 64, 0}, {0, -64}};
    static final int[] NO_CAMPERS = {-1, 16, 100, BIG, SMALL};
    static final int[] TEXT_CHARACTERS = {'0', '1', '5', '6', '3', '9', ',', ';', ' ', 0, 255, 0x661, 0xFF11, 65535};

    static final Checks c = new Checks();

    // ---- fields to begin with

    /** Campers 0 to 3 in the four quarters: left top, right top, left bottom, right bottom. */
    static TentFields quarters() {
        return with(0, 0, 63, 0, 0, 63, 63, 63);
    }

    /** Camper 1 has x 16 to 31 and y 0 to 31 (depth 3), camper 0 the plots (0,0) of 3, (0,32) of 2, (32,0) of 1. */
    static TentFields cut() {
        return with(0, 0, 20, 0);
    }

    /** Campers 0 and 1 at (0, 0) and (0, 1): two plots of the depth 12, and camper 0 has one of each depth 1 to 11. */
    static TentFields smallest() {
        return with(0, 0, 0, 1);
    }

    /** As many plots as there can be: camper 0 has 121, campers 1 to 15 one point each. Thirty calls. */
    static TentFields crowded() {
        int[] corners = {0, 0, 32, 0, 0, 32, 32, 32, 16, 0, 48, 0, 16, 32, 48, 32,
            0, 16, 32, 16, 0, 48, 32, 48, 16, 16, 48, 16, 16, 48};
        TentFields f = with(0, 0);
        for (int index = 0; index < corners.length; index += 2) {
            int x = corners[index];
            int y = corners[index + 1];
            if (index > 0) {
                c.holds("crowded: moveTent(0," + x + "," + y + ")", f.moveTent(0, x, y) > 0);
            }
            c.due("crowded: come(" + x + "," + (y + 1) + ")", f.come(x, y + 1), index / 2 + 1);
        }
        return f;
    }

    /** Sixteen have come, in a row at y 0; camper 0 is at (0, 0). */
    static TentFields sixteen() {
        TentFields f = new TentFields();
        for (int camper = 0; camper < 16; camper++) {
            c.due("sixteen: come(" + camper * 4 + ",0)", f.come(camper * 4, 0), camper);
        }
        return f;
    }

    /** Sixteen have come and twenty songs lie, one at each point of y 0 with x 0 to 19. */
    static TentFields full() {
        TentFields f = sixteen();
        for (int song = 0; song < 20; song++) {
            c.due("full: lay(" + song + ",0," + (song + 1) + ")", f.lay(song, 0, song + 1), song);
        }
        return f;
    }

    /** Sixteen have come and have left again: the field is of nobody. */
    static TentFields deserted() {
        TentFields f = sixteen();
        for (int camper = 0; camper < 16; camper++) {
            c.due("deserted: leave(" + camper + ")", f.leave(camper), 15 - camper);
        }
        return f;
    }

    /** A field where campers came to these points, x and y in turn. */
    static TentFields with(int... points) {
        TentFields f = new TentFields();
        for (int index = 0; index < points.length; index += 2) {
            c.due("with: come(" + points[index] + "," + points[index + 1] + ")",
                    f.come(points[index], points[index + 1]), index / 2);
        }
        return f;
    }

    static TentFields typed(String text) {
        TentFields f = new TentFields();
        write(f, text);
        return f;
    }

    static void write(TentFields f, String text) {
        f.clearText();
        for (int index = 0; index < text.length(); index++) {
            c.due("type of '" + text + "' at " + index, f.type(text.charAt(index)), index + 1);
        }
    }

    // ---- what a field is like

    /** Every plot as "camper:(x0,y0)depth", campers by rising numbers and plots by rank. */
    static String plots(TentFields f) {
        if (f.count(0) == 0) {
            return "nobody:(" + f.plot(0, 0, 2) + "," + f.plot(0, 0, 3) + ")" + f.plot(0, 0, 1);
        }
        StringBuilder text = new StringBuilder();
        for (int camper = 0; camper < 16; camper++) {
            for (int rank = 0; rank < 200 && f.plotOf(camper, rank, 0) >= 0; rank++) {
                text.append(text.length() == 0 ? "" : " ").append(camper).append(":(").append(f.plotOf(camper, rank, 0))
                        .append(",").append(f.plotOf(camper, rank, 1)).append(")").append(f.plotOf(camper, rank, 2));
            }
        }
        return text.toString();
    }

    /** The same text as plots() from a list of plots, each camper, x0, y0 and depth. */
    static String plots(Iterable<int[]> all) {
        TreeMap<Integer, String> sorted = new TreeMap<>();
        for (int[] one : all) {
            sorted.put(one[0] * 4096 + one[1] * 64 + one[2], one[0] + ":(" + one[1] + "," + one[2] + ")" + one[3]);
        }
        return String.join(" ", sorted.values());
    }

    static void isLike(String sentence, TentFields f, String plots) {
        c.dueText(sentence + ": plots", plots(f), plots);
    }

    static void hasPutTogether(String sentence, TentFields f, int joined, int taken) {
        c.due(sentence + ": put together", f.count(8), joined);
        c.due(sentence + ": taken over", f.count(9), taken);
    }

    static int bits(float value) {
        return Float.floatToIntBits(value);
    }
}
