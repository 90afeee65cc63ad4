/** "Where several errors can apply, the order of the @return line is the order of the checks": a method for each one. */
public final class ErrorOrderTest extends Scenes {
    private static final int[] NO_WHATS = {-1, 13, 100, BIG, SMALL};

    public static void main(String[] args) {
        theConstants();
        come();
        comeAll();
        moveTent();
        handOver();
        lay();
        carry();
        typeUndoRestore();
        plot();
        camper();
        plotOf();
        song();
        way();
        would();
        count();
        whoHasLeft();
        c.end("ErrorOrderTest");
    }

    private static void theConstants() {
        c.due("UNKNOWN", TentFields.UNKNOWN, -1);
        c.due("BAD_VALUE", TentFields.BAD_VALUE, -2);
        c.due("FULL", TentFields.FULL, -3);
        c.due("NOT_POSSIBLE", TentFields.NOT_POSSIBLE, -4);
        c.due("NONE", TentFields.NONE, -5);
    }

    // ---- "UNKNOWN (point); FULL if 16 have come; NOT_POSSIBLE as told under COMING"

    private static void come() {
        TentFields f = sixteen();
        for (int[] point : NO_POINTS) {
            c.due("come: UNKNOWN before FULL", f.come(point[0], point[1]), UNKNOWN);
            c.due("come: UNKNOWN of a new field", new TentFields().come(point[0], point[1]), UNKNOWN);
        }
        for (int camper = 0; camper < 16; camper++) {
            c.due("come: FULL before NOT_POSSIBLE", f.come(camper * 4, 0), FULL);
        }
        f.undo();
        c.due("come: NOT_POSSIBLE", f.come(0, 0), NOT_POSSIBLE);
        c.due("come: no error", f.come(60, 1), 15);
    }

    // ---- "-100 minus the fault ...; otherwise the error that come() returns"

    private static void comeAll() {
        TentFields f = sixteen();
        for (String text : new String[] {"", "0,0;", "64,1", "0,0;00", "x"}) {
            write(f, text);
            c.due("comeAll: fault of '" + text + "' before FULL", f.comeAll(), -100 - SlowField.fault(text));
        }
        write(f, "0,0");
        c.due("comeAll: FULL before NOT_POSSIBLE", f.comeAll(), FULL);
        f.undo();
        c.due("comeAll: NOT_POSSIBLE", f.comeAll(), NOT_POSSIBLE);
        write(f, "0,0;x");
        c.due("comeAll: fault before NOT_POSSIBLE", f.comeAll(), -104);
    }

    // ---- "UNKNOWN (camper or point); NOT_POSSIBLE if the point is not in a plot of this camper; NONE ..."

    private static void moveTent() {
        TentFields f = quarters();
        for (int camper : NO_CAMPERS) {
            c.due("moveTent: no camper", f.moveTent(camper, 0, 0), UNKNOWN);
            c.due("moveTent: neither", f.moveTent(camper, -1, 64), UNKNOWN);
        }
        c.due("moveTent: the next number", f.moveTent(4, 0, 0), UNKNOWN);
        for (int[] point : NO_POINTS) {
            c.due("moveTent: no point", f.moveTent(0, point[0], point[1]), UNKNOWN);
        }
        c.due("moveTent: the tent of another one", f.moveTent(0, 63, 0), NOT_POSSIBLE);
        c.due("moveTent: NONE", f.moveTent(0, 0, 0), NONE);
    }

    // ---- "UNKNOWN (point or camper); NOT_POSSIBLE ... (all this also if that camper has it already); NONE ..."

    private static void handOver() {
        TentFields f = cut();
        for (int[] point : NO_POINTS) {
            c.due("handOver: no point", f.handOver(point[0], point[1], 0), UNKNOWN);
            c.due("handOver: neither", f.handOver(point[0], point[1], 2), UNKNOWN);
        }
        for (int camper : NO_CAMPERS) {
            c.due("handOver: UNKNOWN before NOT_POSSIBLE", f.handOver(0, 0, camper), UNKNOWN);
            c.due("handOver: no camper", f.handOver(63, 63, camper), UNKNOWN);
        }
        c.due("handOver: NOT_POSSIBLE before NONE, the tent", f.handOver(0, 0, 0), NOT_POSSIBLE);
        c.due("handOver: NOT_POSSIBLE before NONE, the tent", f.handOver(16, 0, 1), NOT_POSSIBLE);
        c.due("handOver: NONE", f.handOver(63, 63, 0), NONE);
        c.due("handOver: no error", f.handOver(0, 63, 1), 0);
        c.due("handOver: NOT_POSSIBLE before NONE, not touching", f.handOver(63, 63, 0), NOT_POSSIBLE);
    }

    // ---- "UNKNOWN (point); BAD_VALUE; FULL if 20 were laid"

    private static void lay() {
        TentFields full = full();
        TentFields f = new TentFields();
        for (int tenths : new int[] {0, 1000, -1, BIG, SMALL}) {
            for (int[] point : NO_POINTS) {
                c.due("lay: UNKNOWN before BAD_VALUE", f.lay(point[0], point[1], tenths), UNKNOWN);
                c.due("lay: UNKNOWN before all", full.lay(point[0], point[1], tenths), UNKNOWN);
            }
            c.due("lay: BAD_VALUE", f.lay(5, 5, tenths), BAD_VALUE);
            c.due("lay: BAD_VALUE before FULL", full.lay(5, 5, tenths), BAD_VALUE);
        }
        for (int[] point : NO_POINTS) {
            c.due("lay: UNKNOWN before FULL", full.lay(point[0], point[1], 5), UNKNOWN);
        }
        c.due("lay: FULL", full.lay(5, 5, 1), FULL);
        c.due("lay: FULL", full.lay(5, 5, 999), FULL);
    }

    // ---- "UNKNOWN (song or point); NONE if it is there already"

    private static void carry() {
        TentFields f = new TentFields();
        f.lay(5, 5, 5);
        for (int song : new int[] {-1, 1, 20, BIG, SMALL}) {
            c.due("carry: no song", f.carry(song, 5, 5), UNKNOWN);
            c.due("carry: neither", f.carry(song, 64, 5), UNKNOWN);
        }
        for (int[] point : NO_POINTS) {
            c.due("carry: no point", f.carry(0, point[0], point[1]), UNKNOWN);
        }
        c.due("carry: NONE", f.carry(0, 5, 5), NONE);
    }

    private static void typeUndoRestore() {
        TentFields f = new TentFields();
        c.due("undo: NONE", f.undo(), NONE);
        c.due("restore: NONE", f.restore(), NONE);
        c.due("loudest: NONE", f.loudest(), NONE);
        write(f, "0123456789".repeat(6));
        c.due("type: FULL", f.type('0'), FULL);
        c.due("type: FULL again", f.type('x'), FULL);
        for (int camper : NO_CAMPERS) {
            c.due("leave: no camper", f.leave(camper), UNKNOWN);
            c.dueFloat("share: no camper", f.share(camper), -1.0f);
        }
    }

    // ---- "UNKNOWN; BAD_VALUE", and "NONE is no error; it is returned only if no error applies"

    private static void plot() {
        TentFields f = new TentFields();
        for (int[] point : NO_POINTS) {
            c.due("plot: UNKNOWN", f.plot(point[0], point[1], 0), UNKNOWN);
            for (int what : NO_WHATS) {
                c.due("plot: UNKNOWN before BAD_VALUE", f.plot(point[0], point[1], what), UNKNOWN);
            }
        }
        for (int what : NO_WHATS) {
            c.due("plot: BAD_VALUE", f.plot(5, 5, what), BAD_VALUE);
        }
        c.due("plot: the first one that is bad", f.plot(5, 5, 7), BAD_VALUE);
        c.due("plot: the last one that is not", f.plot(5, 5, 6), 0);
        c.due("plot: NONE", f.plot(5, 5, 0), NONE);
    }

    private static void camper() {
        TentFields f = with(0, 0);
        for (int what : NO_WHATS) {
            c.due("camper: BAD_VALUE", f.camper(0, what), BAD_VALUE);
            for (int camper : NO_CAMPERS) {
                c.due("camper: UNKNOWN before BAD_VALUE", f.camper(camper, what), UNKNOWN);
            }
            c.due("camper: the next number", f.camper(1, what), UNKNOWN);
        }
        c.due("camper: the first one that is bad", f.camper(0, 7), BAD_VALUE);
        c.due("camper: the last one that is not", f.camper(0, 6), 0);
    }

    // ---- "UNKNOWN; BAD_VALUE (rank is negative, or what); NONE if there are not so many"

    private static void plotOf() {
        TentFields f = with(0, 0);
        for (int rank : new int[] {-1, SMALL, 0, 1, BIG}) {
            for (int what : new int[] {-1, 3, BIG, SMALL}) {
                c.due("plotOf: BAD_VALUE before NONE", f.plotOf(0, rank, what), BAD_VALUE);
                c.due("plotOf: UNKNOWN before BAD_VALUE", f.plotOf(1, rank, what), UNKNOWN);
                c.due("plotOf: UNKNOWN before BAD_VALUE", f.plotOf(-1, rank, what), UNKNOWN);
            }
        }
        for (int what = 0; what < 3; what++) {
            c.due("plotOf: rank is negative", f.plotOf(0, -1, what), BAD_VALUE);
            c.due("plotOf: rank is negative", f.plotOf(0, SMALL, what), BAD_VALUE);
            c.due("plotOf: no error", f.plotOf(0, 0, what), 0);
            c.due("plotOf: NONE", f.plotOf(0, 1, what), NONE);
            c.due("plotOf: NONE", f.plotOf(0, BIG, what), NONE);
            c.due("plotOf: UNKNOWN before NONE", f.plotOf(1, BIG, what), UNKNOWN);
        }
    }

    private static void song() {
        TentFields f = new TentFields();
        f.lay(0, 0, 5);
        for (int what : NO_WHATS) {
            c.due("song: BAD_VALUE", f.song(0, what), BAD_VALUE);
            for (int song : new int[] {-1, 1, 20, BIG, SMALL}) {
                c.due("song: UNKNOWN before BAD_VALUE", f.song(song, what), UNKNOWN);
            }
        }
        c.due("song: the first one that is bad", f.song(0, 4), BAD_VALUE);
        c.due("song: the last one that is not", f.song(0, 3), 100);
    }

    // ---- "UNKNOWN (camper or point); BAD_VALUE (step is negative, or what); NONE ..."

    private static void way() {
        TentFields f = with(0, 0);
        for (int step : new int[] {-1, SMALL, 0, 1, BIG}) {
            for (int what : new int[] {-1, 3, BIG, SMALL}) {
                c.due("way: BAD_VALUE before NONE", f.way(0, 5, 5, step, what), BAD_VALUE);
                c.due("way: UNKNOWN (camper) before BAD_VALUE", f.way(1, 5, 5, step, what), UNKNOWN);
                c.due("way: UNKNOWN (point) before BAD_VALUE", f.way(0, 64, 5, step, what), UNKNOWN);
                c.due("way: UNKNOWN (both) before BAD_VALUE", f.way(-1, 5, -1, step, what), UNKNOWN);
            }
        }
        for (int what = 0; what < 3; what++) {
            c.due("way: step is negative", f.way(0, 5, 5, -1, what), BAD_VALUE);
            c.due("way: step is negative", f.way(0, 5, 5, SMALL, what), BAD_VALUE);
            c.due("way: no error", f.way(0, 5, 5, 0, what), 0);
            c.due("way: NONE", f.way(0, 5, 5, 1, what), NONE);
            c.due("way: NONE", f.way(0, 5, 5, BIG, what), NONE);
            c.due("way: UNKNOWN before NONE", f.way(1, 5, 5, 9, what), UNKNOWN);
        }
        for (int[] point : NO_POINTS) {
            c.due("way: no point", f.way(0, point[0], point[1], 0, 0), UNKNOWN);
        }
    }

    // ---- "UNKNOWN; BAD_VALUE; FULL, NOT_POSSIBLE as for come()"

    private static void would() {
        TentFields f = sixteen();
        for (int what : new int[] {-1, 3, BIG, SMALL}) {
            for (int[] point : NO_POINTS) {
                c.due("would: UNKNOWN before all", f.would(point[0], point[1], what), UNKNOWN);
            }
            c.due("would: BAD_VALUE before FULL", f.would(5, 5, what), BAD_VALUE);
            c.due("would: BAD_VALUE before NOT_POSSIBLE", with(5, 5).would(5, 5, what), BAD_VALUE);
        }
        for (int what = 0; what < 3; what++) {
            for (int[] point : NO_POINTS) {
                c.due("would: UNKNOWN before FULL", f.would(point[0], point[1], what), UNKNOWN);
            }
            c.due("would: FULL", f.would(5, 5, what), FULL);
            c.due("would: FULL before NOT_POSSIBLE", f.would(0, 0, what), FULL);
            c.due("would: NOT_POSSIBLE", with(5, 5).would(5, 5, what), NOT_POSSIBLE);
            c.due("would: FULL before NONE", deserted().would(5, 5, what), FULL);
        }
        c.due("would: NONE", new TentFields().would(5, 5, 2), NONE);
    }

    private static void count() {
        TentFields f = new TentFields();
        for (int what : new int[] {-1, 12, 13, 100, BIG, SMALL}) {
            c.due("count: BAD_VALUE", f.count(what), BAD_VALUE);
        }
        c.due("count: the last one that is not", f.count(11), 0);
    }

    // ---- "UNKNOWN: There is no such camper (on the field)"

    private static void whoHasLeft() {
        for (int gone = 0; gone < 4; gone++) {
            TentFields f = quarters();
            f.leave(gone);
            c.due("has left: leave", f.leave(gone), UNKNOWN);
            c.due("has left: moveTent", f.moveTent(gone, 63 * (gone & 1), 63 * (gone >> 1)), UNKNOWN);
            c.due("has left: handOver", f.handOver(5, 5, gone), UNKNOWN);
            c.due("has left: plotOf", f.plotOf(gone, 0, 0), UNKNOWN);
            c.due("has left: way", f.way(gone, 5, 5, 0, 0), UNKNOWN);
            c.dueFloat("has left: share", f.share(gone), -1.0f);
            for (int what = -1; what < 8; what++) {
                c.due("has left: camper", f.camper(gone, what), UNKNOWN);
            }
            c.due("has left: nothing more is recorded", f.count(10), 4);
        }
    }
}
