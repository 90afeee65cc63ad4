import java.util.ArrayList;
import java.util.List;

/** Long runs of mixed calls, each answer compared with the one of SlowField. The runs are the same every time. */
public final class ModelTest {
    // What calls behind the 512th answer is free, so none is compared.
    private static final int CALLS = 512;
    private static final int MOST_CALLS_OF_A_TEXT = 92;
    private static final int MOST_CALLS_OF_A_QUESTION = 2;
    private static final int[] WILD = {-1, 64, -64, 100, 4096, Integer.MAX_VALUE, Integer.MIN_VALUE, 16, 20, -2};

    private final Checks checks;
    private final StringBuilder told = new StringBuilder();
    private long seed;
    private TentFields field;
    private SlowField slow;
    private int calls;
    private int style;
    private static int mostPlots = 0;
    private static int mostCalls = 0;
    private static final int[] seen = new int[32];

    private ModelTest(Checks checks, long seed) {
        this.checks = checks;
        this.seed = seed * 7919 + 17;
    }

    private int below(int bound) {
        seed = seed * 6364136223846793005L + 1442695040888963407L;
        return (int) ((seed >>> 33) % bound);
    }

    public static void main(String[] args) {
        int runs = args.length > 0 ? Integer.parseInt(args[0]) : 600;
        Checks checks = new Checks();
        for (int run = 0; run < runs && checks.wrong() == 0; run++) {
            new ModelTest(checks, run).run(run);
        }
        System.out.println("most plots: " + mostPlots + ", most calls: " + mostCalls);
        checks.holds("no run has more than 512 calls", mostCalls <= CALLS);
        for (int act = 0; act < 8; act++) {
            checks.holds("act " + act + " went well at some time", seen[act] > 0);
        }
        checks.end("ModelTest");
    }

    private void run(int run) {
        field = new TentFields();
        slow = new SlowField();
        style = run % 5;
        calls = 0;
        if (style == 4) {
            crowd();
        }
        while (calls + MOST_CALLS_OF_A_QUESTION <= CALLS && checks.wrong() == 0) {
            if (below(10) < 5) {
                act();
            } else {
                ask();
            }
        }
        mostPlots = Math.max(mostPlots, slow.plots().size());
        mostCalls = Math.max(mostCalls, calls);
        if (checks.wrong() != 0) {
            System.out.println("run " + run + ":" + told);
        }
    }

    /** As many plots as there can be, sometimes without the last campers, so that others may come. */
    private void crowd() {
        int[] corners = {0, 0, 32, 0, 0, 32, 32, 32, 16, 0, 48, 0, 16, 32, 48, 32,
            0, 16, 32, 16, 0, 48, 32, 48, 16, 16, 48, 16, 16, 48};
        due("come(0,0)", field.come(0, 0), slow.come(0, 0));
        int newcomers = 15 - below(2) * below(8);
        for (int index = 0; index < newcomers; index++) {
            int x = corners[2 * index];
            int y = corners[2 * index + 1];
            due("moveTent(0," + x + "," + y + ")", field.moveTent(0, x, y), slow.moveTent(0, x, y));
            due("come(" + x + "," + (y + 1) + ")", field.come(x, y + 1), slow.come(x, y + 1));
        }
    }

    private void due(String call, long got, long want) {
        calls++;
        told.append("\n  ").append(call).append(" = ").append(want);
        checks.due(call, got, want);
    }

    // ---- what is called

    private void act() {
        int kind = below(40);
        int[] point = point();
        int x = point[0];
        int y = point[1];
        int camper = camper();
        if (kind < (style == 1 ? 3 : 9)) {
            due("come(" + x + "," + y + ")", field.come(x, y), noted(0, slow.come(x, y)));
        } else if (kind < 16) {
            int[] own = below(4) > 0 ? pointOf(camper) : point;
            int answer = slow.moveTent(camper, own[0], own[1]);
            due("moveTent(" + camper + "," + own[0] + "," + own[1] + ")",
                    field.moveTent(camper, own[0], own[1]), noted(1, answer));
        } else if (kind < 23) {
            int answer = slow.handOver(x, y, camper);
            due("handOver(" + x + "," + y + "," + camper + ")", field.handOver(x, y, camper), noted(2, answer));
        } else if (kind < (style == 2 ? 29 : 25)) {
            due("leave(" + camper + ")", field.leave(camper), noted(3, slow.leave(camper)));
        } else if (kind < 31) {
            int tenths = below(8) == 0 ? below(1100) - 50 : 1 + below(999);
            int answer = slow.lay(x, y, tenths);
            due("lay(" + x + "," + y + "," + tenths + ")", field.lay(x, y, tenths), noted(4, answer));
        } else if (kind < 33) {
            int song = below(slow.now.songs.size() + 2) - (below(9) == 0 ? 2 : 0);
            int answer = slow.carry(song, x, y);
            due("carry(" + song + "," + x + "," + y + ")", field.carry(song, x, y), noted(5, answer));
        } else if (kind < 36 && calls + MOST_CALLS_OF_A_TEXT <= CALLS) {
            writeText();
            due("comeAll()", field.comeAll(), noted(6, slow.comeAll()));
        } else if (kind < 38) {
            due("undo()", field.undo(), slow.undo());
        } else if (kind < 39) {
            due("restore()", field.restore(), noted(7, slow.restore()));
        } else {
            due("keep()", field.keep(), slow.keep());
        }
    }

    private static int noted(int act, int answer) {
        if (answer >= 0) {
            seen[act]++;
        }
        return answer;
    }

    private void writeText() {
        if (below(3) > 0) {
            due("clearText()", field.clearText(), slow.clearText());
        }
        StringBuilder text = new StringBuilder();
        int campers = 1 + below(below(4) == 0 ? 15 : 3);
        for (int camper = 0; camper < campers; camper++) {
            int[] point = point();
            text.append(camper == 0 ? "" : ";").append(point[0] & 63).append(",").append(point[1] & 63);
        }
        if (below(3) == 0) {
            text.insert(below(text.length() + 1), "0123456789,;, ;x".charAt(below(16)));
        }
        if (below(6) == 0) {
            text.deleteCharAt(below(text.length()));
        }
        for (int index = 0; index < text.length(); index++) {
            char character = text.charAt(index);
            due("type(" + (int) character + ")", field.type(character), slow.type(character));
        }
    }

    private void ask() {
        int[] point = point();
        int x = point[0];
        int y = point[1];
        int camper = camper();
        int what = below(25) == 0 ? wild() : below(8);
        switch (below(10)) {
            case 0 -> due("plot(" + x + "," + y + "," + what + ")", field.plot(x, y, what), slow.plot(x, y, what));
            case 1, 2 -> due("camper(" + camper + "," + what + ")",
                    field.camper(camper, what), slow.camper(camper, what));
            case 3 -> {
                int rank = below(9) == 0 ? wild() : below(below(2) == 0 ? 4 : 60);
                int which = what & 3;
                due("plotOf(" + camper + "," + rank + "," + which + ")",
                        field.plotOf(camper, rank, which), slow.plotOf(camper, rank, which));
            }
            case 4 -> {
                int song = below(12) == 0 ? wild() : below(slow.now.songs.size() + 1);
                due("song(" + song + "," + what + ")", field.song(song, what), slow.song(song, what));
            }
            case 5, 6 -> {
                int step = below(9) == 0 ? wild() : below(style == 4 ? 20 : 6);
                int which = what & 3;
                due("way(" + camper + "," + x + "," + y + "," + step + "," + which + ")",
                        field.way(camper, x, y, step, which), slow.way(camper, x, y, step, which));
            }
            case 7 -> {
                int which = what & 3;
                due("would(" + x + "," + y + "," + which + ")",
                        field.would(x, y, which), slow.would(x, y, which));
            }
            case 8 -> {
                due("loudest()", field.loudest(), slow.loudest());
                due("share bits(" + camper + ")", Float.floatToIntBits(field.share(camper)),
                        Float.floatToIntBits(slow.share(camper)));
            }
            default -> {
                int which = below(12) == 0 ? wild() : below(13);
                due("count(" + which + ")", field.count(which), slow.count(which));
            }
        }
    }

    // ---- with what

    private int wild() {
        return WILD[below(WILD.length)];
    }

    private int camper() {
        if (below(40) == 0) {
            return wild();
        }
        int so = slow.now.campers.size();
        for (int turn = 0; turn < 20 && so > 0; turn++) {
            int camper = below(so);
            if (slow.isHere(camper)) {
                return camper;
            }
        }
        return below(so + 1);
    }

    private int[] pointOf(int camper) {
        List<SlowField.Node> own = slow.isHere(camper) ? slow.plotsOf(camper) : new ArrayList<>();
        if (own.isEmpty()) {
            return new int[] {below(64), below(64)};
        }
        SlowField.Node plot = own.get(below(own.size()));
        return new int[] {plot.x0 + below(plot.x1 - plot.x0 + 1), plot.y0 + below(plot.y1 - plot.y0 + 1)};
    }

    private int[] point() {
        int kind = below(20);
        if (kind == 0) {
            return below(2) == 0 ? new int[] {wild(), below(64)} : new int[] {below(64), wild()};
        }
        if (kind < 8) {
            return new int[] {below(64), below(64)};
        }
        if (kind < 13) {
            return pointOf(camper());
        }
        int camper = camper();
        if (!slow.isHere(camper)) {
            return new int[] {below(3) * 31, below(3) * 31};
        }
        int[] tent = {slow.now.campers.get(camper).x, slow.now.campers.get(camper).y};
        int reach = style == 3 ? 1 : 1 << below(6);
        tent[below(2)] ^= reach;
        return kind == 13 ? new int[] {slow.now.campers.get(camper).x, slow.now.campers.get(camper).y} : tent;
    }
}
