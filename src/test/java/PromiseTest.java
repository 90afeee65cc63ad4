/** Each promise of the document with answers worked out by hand: ordinary calls, edges and wrong arguments. */
public final class PromiseTest {
    private static final int UNKNOWN = -1;
    private static final int BAD_VALUE = -2;
    private static final int FULL = -3;
    private static final int NOT_POSSIBLE = -4;
    private static final int NONE = -5;
    private static final int BIG = Integer.MAX_VALUE;
    private static final int SMALL = Integer.MIN_VALUE;
    private static final int[][] NO_POINTS = {{-1, 0}, {64, 0}, {0, -1}, {0, 64}, {BIG, 0}, {0, BIG}, {SMALL, 5}, {5, SMALL}};

    private static final Checks c = new Checks();

    public static void main(String[] args) {
        constants();
        promise1();
        promise2();
        promise2Edges();
        promise3();
        promise3Faults();
        promise4();
        promise4Takers();
        promise4Joining();
        promise4LastOne();
        promise4Orders();
        promise5();
        promise6();
        promise7();
        promise8();
        promise9And10();
        promise11();
        promise11StateIsAll();
        promise12And13();
        promise14();
        promise15();
        promise15Loudness();
        promise16();
        promise17();
        promise18();
        promise19();
        promise20();
        promise21();
        promise22();
        c.end("PromiseTest");
    }

    // ---- fields that several promises begin with

    /** Campers 0 to 3 in the four quarters: left top, right top, left bottom, right bottom. */
    private static TentFields quarters() {
        TentFields f = new TentFields();
        c.due("quarters: come(0,0)", f.come(0, 0), 0);
        c.due("quarters: come(63,0)", f.come(63, 0), 1);
        c.due("quarters: come(0,63)", f.come(0, 63), 2);
        c.due("quarters: come(63,63)", f.come(63, 63), 3);
        return f;
    }

    /** Camper 1 has x 16 to 31 and y 0 to 31 (depth 3), camper 0 the plots (0,0) of 3, (0,32) of 2, (32,0) of 1. */
    private static TentFields cut() {
        TentFields f = new TentFields();
        c.due("cut: come(0,0)", f.come(0, 0), 0);
        c.due("cut: come(20,0)", f.come(20, 0), 1);
        return f;
    }

    private static void write(TentFields f, String text) {
        f.clearText();
        for (int index = 0; index < text.length(); index++) {
            c.due("type " + text.charAt(index), f.type(text.charAt(index)), index + 1);
        }
    }

    private static void isPlot(TentFields f, int x, int y, int... want) {
        for (int what = 0; what < want.length; what++) {
            c.due("plot(" + x + "," + y + "," + what + ")", f.plot(x, y, what), want[what]);
        }
    }

    private static int bits(float value) {
        return Float.floatToIntBits(value);
    }

    // ---- the promises

    private static void constants() {
        c.due("UNKNOWN", TentFields.UNKNOWN, UNKNOWN);
        c.due("BAD_VALUE", TentFields.BAD_VALUE, BAD_VALUE);
        c.due("FULL", TentFields.FULL, FULL);
        c.due("NOT_POSSIBLE", TentFields.NOT_POSSIBLE, NOT_POSSIBLE);
        c.due("NONE", TentFields.NONE, NONE);
    }

    private static void promise1() {
        TentFields f = new TentFields();
        for (int what = 0; what <= 11; what++) {
            c.due("1: count(" + what + ") of a new field", f.count(what), what == 2 ? 1 : 0);
        }
        isPlot(f, 0, 0, NONE, 0, 0, 0, 63, 63, 0);
        isPlot(f, 63, 63, NONE, 0, 0, 0, 63, 63, 0);
        c.due("1: loudest", f.loudest(), NONE);
        c.due("1: undo", f.undo(), NONE);
        c.due("1: restore", f.restore(), NONE);
        c.due("1: clearText", f.clearText(), 0);
        TentFields other = new TentFields();
        f.come(1, 1);
        c.due("1: another object has its own field", other.count(0), 0);
    }

    private static void promise2() {
        TentFields f = quarters();
        isPlot(f, 5, 5, 0, 2, 0, 0, 31, 31, 2);
        isPlot(f, 32, 31, 1, 2, 32, 0, 63, 31, 2);
        isPlot(f, 31, 32, 2, 2, 0, 32, 31, 63, 2);
        isPlot(f, 32, 32, 3, 2, 32, 32, 63, 63, 2);
        c.due("2: halvings", f.count(7), 3);
        c.due("2: four states", f.count(10), 4);

        f = cut();
        isPlot(f, 20, 31, 1, 3, 16, 0, 31, 31, 3);
        isPlot(f, 15, 31, 0, 3, 0, 0, 15, 31, 2);
        isPlot(f, 31, 32, 0, 2, 0, 32, 31, 63, 3);
        isPlot(f, 32, 0, 0, 1, 32, 0, 63, 63, 2);
        c.due("2: halved three times", f.count(7), 3);
        c.due("2: a plot without its camper's tent is halved once", f.come(40, 40), 2);
        isPlot(f, 40, 40, 2, 2, 32, 32, 63, 63, 2);
        isPlot(f, 40, 31, 0, 2, 32, 0, 63, 31);
        c.due("2: halvings", f.count(7), 4);
    }

    private static void promise2Edges() {
        TentFields f = new TentFields();
        for (int[] point : NO_POINTS) {
            c.due("2: no point", f.come(point[0], point[1]), UNKNOWN);
        }
        c.due("2: the first one", f.come(0, 0), 0);
        c.due("2: at the same tent", f.come(0, 0), NOT_POSSIBLE);
        c.due("2: down to a point", f.come(0, 1), 1);
        isPlot(f, 0, 1, 1, 12, 0, 1, 0, 1);
        isPlot(f, 0, 0, 0, 12, 0, 0, 0, 0);
        isPlot(f, 1, 0, 0, 11, 1, 0, 1, 1);
        c.due("2: halvings", f.count(7), 12);
        c.due("2: plots", f.count(2), 13);
        c.due("2: the tent goes away", f.moveTent(0, 63, 63), 1);
        c.due("2: a plot of one point cannot be halved", f.come(0, 0), NOT_POSSIBLE);
        c.due("2: errors record nothing", f.count(10), 3);
        c.due("2: errors count no camper", f.count(1), 2);
        c.due("2: errors halve nothing", f.count(7), 12);

        f = new TentFields();
        for (int camper = 0; camper < 16; camper++) {
            c.due("2: sixteen come", f.come(camper * 4, 0), camper);
        }
        c.due("2: the seventeenth", f.come(1, 63), FULL);
        c.due("2: full before not possible", f.come(0, 0), FULL);
        c.due("2: unknown before full", f.come(0, 64), UNKNOWN);
        c.due("2: leaving makes no room", f.leave(3), 15);
        c.due("2: numbers are not given again", f.come(1, 63), FULL);
        f.undo();
        f.undo();
        c.due("2: undone, there is room again", f.come(1, 63), 15);
    }

    private static void promise3() {
        TentFields f = new TentFields();
        write(f, "0,0;63,0;0,63;63,63");
        c.due("3: all come", f.comeAll(), 4);
        c.due("3: they are on the field", f.count(0), 4);
        c.due("3: one act", f.count(10), 1);
        c.due("3: the text stays", f.count(11), 19);
        isPlot(f, 63, 63, 3, 2, 32, 32, 63, 63);
        isPlot(f, 0, 63, 2, 2, 0, 32, 31, 63);
        c.due("3: tent", f.camper(3, 0), 63);
        c.due("3: again at the same tents", f.comeAll(), NOT_POSSIBLE);
        c.due("3: nothing changed", f.count(10), 1);
        c.due("3: undo", f.undo(), 0);
        c.due("3: all are gone", f.count(1), 0);
        c.due("3: plots", f.count(2), 1);

        f = new TentFields();
        write(f, "7,9;10,9;7,9;20,20");
        c.due("3: the third one can't", f.comeAll(), NOT_POSSIBLE);
        c.due("3: none of them came", f.count(1), 0);
        c.due("3: no halving was counted", f.count(7), 0);
        c.due("3: plots", f.count(2), 1);
        c.due("3: recorded nothing", f.count(10), 0);

        f = new TentFields();
        write(f, "0,0;4,0;8,0;12,0;16,0;20,0;24,0;28,0;32,0;36,0;40,0;44,0");
        c.due("3: twelve", f.comeAll(), 12);
        write(f, "1,60;5,60;9,60;13,60;17,60");
        c.due("3: the last one has no room", f.comeAll(), FULL);
        c.due("3: none of them came", f.count(1), 12);
        write(f, "0,0;1,60;5,60;9,60;13,60;17,60");
        c.due("3: the error of the first one that has one", f.comeAll(), NOT_POSSIBLE);
        write(f, "1,60;5,60;9,60;13,60");
        c.due("3: sixteen have room", f.comeAll(), 4);
        c.due("3: sixteen", f.count(1), 16);
        write(f, "1,60,");
        c.due("3: a fault before the room", f.comeAll(), -104);
    }

    private static void promise3Faults() {
        String sixty = "10,10;20,20;30,30;40,40;50,50;60,60;11,11;22,22;33,33;44,44;";
        String[] texts = {"", "1", "12", "1,", "1,2", "1,2;", "1,2;3", ",", ";", "1;", "1,2,", "1,2;;", "1,2;,", "1,,", "64,1",
            "63,64", "63,63", "65", "69", "7,70", "60,9", "100,1", "63,630", "00", "01", "0,0", "0,00", "0,01", "0,0;0,0x",
            " 1,2", "1 ,2", "1,2 ", "-1,2", "1.2", "1,2;64,3", "1,2;6,3", "1:2", "1/2", sixty};
        int[] faults = {0, 1, 2, 2, -1, 4, 5, 0, 0, 1, 3, 4, 4, 2, 1,
            4, -1, 1, 1, 3, -1, 2, 5, 1, 1, -1, 3, 3, 7,
            0, 1, 3, 0, 1, 5, -1, 1, 1, 60};
        c.due("3: as many texts as faults", texts.length, faults.length);
        for (int index = 0; index < texts.length; index++) {
            TentFields f = new TentFields();
            write(f, texts[index]);
            int answer = f.comeAll();
            if (faults[index] >= 0) {
                c.due("3: fault of '" + texts[index] + "'", answer, -100 - faults[index]);
                c.due("3: a fault changes nothing", f.count(1) + f.count(10), 0);
            } else {
                c.holds("3: no fault in '" + texts[index] + "'", answer > 0);
            }
        }
        TentFields f = new TentFields();
        f.type((char) 0x661);
        c.due("3: a digit of another script", f.comeAll(), -100);
        f.clearText();
        f.type((char) 0xFF31);
        c.due("3: the low byte alone is no digit", f.comeAll(), -100);
    }

    private static void promise4() {
        TentFields f = quarters();
        for (int camper : new int[] {-1, 4, 16, 100, BIG, SMALL}) {
            c.due("4: nobody has this number", f.leave(camper), UNKNOWN);
        }
        c.due("4: leave(3)", f.leave(3), 3);
        isPlot(f, 63, 63, 1, 1, 32, 0, 63, 63);
        c.due("4: put together", f.count(8), 1);
        c.due("4: taken over", f.count(9), 0);
        c.due("4: has left already", f.leave(3), UNKNOWN);
        c.due("4: and may not be asked for", f.camper(3, 0), UNKNOWN);
        c.due("4: campers so far", f.count(1), 4);
        c.due("4: a new number for the next one", f.come(63, 63), 4);
        c.due("4: history", f.count(10), 4);
        c.due("4: undo", f.undo(), 3);
        c.due("4: undo", f.undo(), 2);
        isPlot(f, 63, 63, 3, 2, 32, 32, 63, 63);

        f = cut();
        c.due("4: deepest first", f.leave(0), 1);
        c.due("4: so that all are put together", f.count(8), 3);
        c.due("4: and nothing is taken over", f.count(9), 0);
        c.dueFloat("4: one is left", f.share(1), 1.0f);
        isPlot(f, 0, 0, 1, 0, 0, 0, 63, 63, 0);
    }

    private static void promise4Takers() {
        TentFields f = quarters();
        c.due("4: come(40,40)", f.come(40, 40), 4);
        isPlot(f, 40, 40, 4, 3, 32, 32, 47, 63);
        c.due("4: leave(1)", f.leave(1), 4);
        isPlot(f, 40, 0, 3, 2, 32, 0, 63, 31);
        c.due("4: taken over by the lowest number of the least", f.count(9), 1);
        c.due("4: nothing is put together", f.count(8), 0);
        c.due("4: plots of the taker", f.camper(3, 2), 2);
        c.due("4: points of the taker", f.camper(3, 3), 1536);

        f = quarters();
        c.due("4: come(63,40)", f.come(63, 40), 4);
        isPlot(f, 63, 40, 4, 4, 48, 32, 63, 47);
        c.due("4: leave(1)", f.leave(1), 4);
        isPlot(f, 40, 0, 4, 2, 32, 0, 63, 31);

        f = quarters();
        c.due("4: come(33,62) does not touch the plot of 1", f.come(33, 62), 4);
        isPlot(f, 33, 62, 4, 3, 32, 32, 47, 63);
        c.due("4: come(33,33)", f.come(33, 33), 5);
        isPlot(f, 33, 62, 4, 4, 32, 48, 47, 63);
        c.due("4: leave(1)", f.leave(1), 5);
        c.due("4: the least one does not touch", f.plot(40, 0, 0), 5);
    }

    private static void promise4Joining() {
        TentFields f = cut();
        c.due("4: handOver(0,40,1)", f.handOver(0, 40, 1), 0);
        c.due("4: moveTent(0,40,0)", f.moveTent(0, 40, 0), 1);
        c.due("4: handOver(0,0,1)", f.handOver(0, 0, 1), 0);
        c.due("4: two plots that are other halves", f.camper(1, 2), 2);
        c.due("4: put together", f.count(8), 1);
        c.due("4: leave(1)", f.leave(1), 1);
        c.due("4: first with the own one, then with the other's", f.count(8), 3);
        c.due("4: taken over", f.count(9), 0);
        isPlot(f, 0, 0, 0, 0, 0, 0, 63, 63, 0);
    }

    private static void promise4LastOne() {
        TentFields f = cut();
        c.due("4: lay", f.lay(3, 3, 10), 0);
        c.due("4: handOver(0,40,1)", f.handOver(0, 40, 1), 0);
        c.due("4: leave(0)", f.leave(0), 1);
        int joined = f.count(8);
        int taken = f.count(9);
        c.due("4: leave(1)", f.leave(1), 0);
        c.due("4: the last one puts nothing together", f.count(8), joined);
        c.due("4: and nothing is taken over", f.count(9), taken);
        isPlot(f, 9, 9, NONE, 0, 0, 0, 63, 63, 0);
        c.due("4: the song stays", f.song(0, 3), 100);
        c.due("4: so do the halvings", f.count(7), 3);
        c.due("4: the next one has all", f.come(63, 1), 2);
        isPlot(f, 0, 63, 2, 0, 0, 0, 63, 63, 0);
        c.due("4: without a halving", f.count(7), 3);
        c.due("4: and the song", f.song(0, 3), 2);
    }

    private static void promise4Orders() {
        TentFields f = new TentFields();
        c.due("4: come(48,32)", f.come(48, 32), 0);
        c.due("4: come(48,24)", f.come(48, 24), 1);
        c.due("4: come(32,16)", f.come(32, 16), 2);
        c.due("4: come(24,48)", f.come(24, 48), 3);
        c.due("4: come(16,40)", f.come(16, 40), 4);
        isPlot(f, 0, 0, 0, 2, 0, 0, 31, 31);
        isPlot(f, 32, 32, 0, 2, 32, 32, 63, 63);
        c.due("4: leave(0)", f.leave(0), 4);
        isPlot(f, 0, 0, 4, 2, 0, 0, 31, 31);
        isPlot(f, 32, 32, 1, 2, 32, 32, 63, 63);
        c.due("4: the lower x0 first, so that 4 is no more the least one", f.count(9), 2);
        c.due("4: nothing put together", f.count(8), 0);

        f = new TentFields();
        c.due("4: come(32,48)", f.come(32, 48), 0);
        c.due("4: come(32,32)", f.come(32, 32), 1);
        c.due("4: come(40,24)", f.come(40, 24), 2);
        c.due("4: handOver(8,56,2)", f.handOver(8, 56, 2), 0);
        c.due("4: come(32,16)", f.come(32, 16), 3);
        isPlot(f, 48, 0, 0, 3, 48, 0, 63, 31);
        isPlot(f, 48, 32, 0, 3, 48, 32, 63, 63);
        c.due("4: leave(0)", f.leave(0), 3);
        isPlot(f, 48, 0, 2, 3, 48, 0, 63, 31);
        isPlot(f, 48, 32, 1, 2, 32, 32, 63, 63);
        c.due("4: the lower y0 first, before 1 comes beside it", f.count(9), 1);
        c.due("4: put together", f.count(8), 2);
    }

    private static void promise5() {
        TentFields f = cut();
        c.due("5: to another plot", f.moveTent(0, 40, 63), 1);
        c.due("5: x", f.camper(0, 0), 40);
        c.due("5: y", f.camper(0, 1), 63);
        c.due("5: in the same plot", f.moveTent(0, 40, 62), 1);
        c.due("5: y", f.camper(0, 1), 62);
        c.due("5: x alone", f.moveTent(0, 41, 62), 1);
        c.due("5: recorded", f.count(10), 4);
        c.due("5: it is there", f.moveTent(0, 41, 62), NONE);
        c.due("5: the plot of another one", f.moveTent(0, 20, 0), NOT_POSSIBLE);
        c.due("5: nobody has this number", f.moveTent(2, 0, 0), UNKNOWN);
        c.due("5: nobody has this number", f.moveTent(-1, 0, 0), UNKNOWN);
        for (int[] point : NO_POINTS) {
            c.due("5: no point", f.moveTent(0, point[0], point[1]), UNKNOWN);
        }
        c.due("5: undo", f.undo(), 3);
        c.due("5: x", f.camper(0, 0), 40);
        c.due("5: undo", f.undo(), 2);
        c.due("5: y", f.camper(0, 1), 63);
        c.due("5: the deepest plot", f.moveTent(0, 15, 31), 3);
        f.leave(1);
        c.due("5: has left", f.moveTent(1, 20, 0), UNKNOWN);
    }

    private static void promise6() {
        TentFields f = cut();
        c.due("6: it has the tent", f.handOver(0, 5, 1), NOT_POSSIBLE);
        c.due("6: it has the tent, to the one who has it", f.handOver(0, 5, 0), NOT_POSSIBLE);
        c.due("6: the camper has it and touches it", f.handOver(40, 5, 0), NONE);
        c.due("6: nothing recorded", f.count(10), 2);
        c.due("6: handed over", f.handOver(0, 40, 1), 0);
        c.due("6: recorded", f.count(10), 3);
        isPlot(f, 0, 40, 1, 2, 0, 32, 31, 63);
        c.due("6: nothing put together", f.count(8), 0);
        c.due("6: the camper has it but no other one beside it", f.handOver(40, 5, 0), NOT_POSSIBLE);
        c.due("6: now a tent is in the way", f.handOver(0, 0, 1), NOT_POSSIBLE);
        c.due("6: moveTent", f.moveTent(0, 40, 0), 1);
        c.due("6: handed over", f.handOver(0, 0, 1), 0);
        isPlot(f, 0, 0, 1, 2, 0, 0, 31, 31);
        c.due("6: put together once", f.count(8), 1);
        c.due("6: put together once", f.camper(1, 2), 2);
        c.due("6: undo", f.undo(), 3);
        isPlot(f, 0, 0, 0, 3, 0, 0, 15, 31);
        c.due("6: undo takes back the count", f.count(8), 0);

        f = cut();
        c.due("6: come(63,63)", f.come(63, 63), 2);
        c.due("6: come(5,63)", f.come(5, 63), 3);
        isPlot(f, 5, 63, 3, 3, 0, 32, 15, 63);
        c.due("6: too far away", f.handOver(40, 0, 3), NOT_POSSIBLE);
        c.due("6: it has it, but others beside it by corners alone", f.handOver(20, 40, 0), NOT_POSSIBLE);
        c.due("6: no camper", f.handOver(40, 0, 4), UNKNOWN);
        c.due("6: no camper", f.handOver(40, 0, -1), UNKNOWN);
        for (int[] point : NO_POINTS) {
            c.due("6: no point", f.handOver(point[0], point[1], 1), UNKNOWN);
        }
        c.due("6: the other half of the receiver", f.handOver(20, 40, 3), 0);
        isPlot(f, 20, 40, 3, 2, 0, 32, 31, 63);
        c.due("6: put together", f.count(8), 1);
        c.due("6: to one who had left", f.leave(3), 3);
        c.due("6: to one who had left", f.handOver(40, 0, 3), UNKNOWN);

        f = new TentFields();
        c.due("6: nobody is here", f.handOver(0, 0, 0), UNKNOWN);
        f = quarters();
        c.due("6: a tent in each", f.handOver(0, 0, 1), NOT_POSSIBLE);
        c.due("6: come(20,5)", f.come(20, 5), 4);
        c.due("6: come(5,20)", f.come(5, 20), 5);
        isPlot(f, 5, 20, 5, 4, 0, 16, 15, 31);
        c.due("6: leave(5)", f.leave(5), 5);
        c.due("6: come(63,40)", f.come(63, 40), 6);
        isPlot(f, 40, 40, 3, 3, 32, 32, 47, 63);
        isPlot(f, 63, 40, 6, 4, 48, 32, 63, 47);
        c.due("6: by a corner alone", f.handOver(40, 40, 4), NOT_POSSIBLE);
        c.due("6: a side of the other half", f.handOver(40, 40, 6), 3);
        c.due("6: the other half is no plot", f.count(8), 1);
        c.due("6: two plots", f.camper(6, 2), 2);
    }

    private static void promise7() {
        TentFields f = new TentFields();
        for (int[] point : NO_POINTS) {
            c.due("7: no point", f.lay(point[0], point[1], 5), UNKNOWN);
        }
        c.due("7: unknown before bad", f.lay(-1, 0, 0), UNKNOWN);
        for (int tenths : new int[] {0, 1000, -1, BIG, SMALL}) {
            c.due("7: bad", f.lay(0, 0, tenths), BAD_VALUE);
        }
        c.due("7: nothing recorded", f.count(10), 0);
        c.due("7: the least", f.lay(0, 63, 1), 0);
        c.due("7: the greatest", f.lay(63, 0, 999), 1);
        c.due("7: recorded", f.count(10), 2);
        for (int song = 2; song < 20; song++) {
            c.due("7: up to twenty", f.lay(song, song, 10), song);
        }
        c.due("7: one more", f.lay(0, 0, 10), FULL);
        c.due("7: bad before full", f.lay(0, 0, 1000), BAD_VALUE);
        c.due("7: unknown before full", f.lay(0, 64, 10), UNKNOWN);
        c.due("7: songs", f.count(3), 20);
        c.due("7: undo", f.undo(), 3);
        c.due("7: songs", f.count(3), 19);
        c.due("7: the number again", f.lay(9, 8, 7), 19);
        c.due("7: x", f.song(19, 0), 9);
        c.due("7: y", f.song(19, 1), 8);
        c.due("7: loudness", f.song(19, 2), bits(0.7f));
    }

    private static void promise8() {
        TentFields f = new TentFields();
        c.due("8: lay", f.lay(5, 5, 10), 0);
        c.due("8: to nobody", f.carry(0, 6, 5), 100);
        c.due("8: it is there", f.carry(0, 6, 5), NONE);
        c.due("8: x alone is another point", f.carry(0, 6, 6), 100);
        c.due("8: recorded", f.count(10), 3);
        f.come(0, 0);
        f.come(63, 0);
        c.due("8: to the second", f.carry(0, 32, 0), 1);
        c.due("8: to the first", f.carry(0, 31, 0), 0);
        c.due("8: x", f.song(0, 0), 31);
        c.due("8: y", f.song(0, 1), 0);
        c.due("8: no song", f.carry(1, 0, 0), UNKNOWN);
        c.due("8: no song", f.carry(-1, 0, 0), UNKNOWN);
        c.due("8: no song", f.carry(BIG, 0, 0), UNKNOWN);
        for (int[] point : NO_POINTS) {
            c.due("8: no point", f.carry(0, point[0], point[1]), UNKNOWN);
        }
        c.due("8: undo", f.undo(), 3);
        c.due("8: x", f.song(0, 0), 32);
    }

    private static void promise9And10() {
        TentFields f = new TentFields();
        for (int length = 1; length <= 60; length++) {
            c.due("9: length", f.type((char) (length * 1000)), length);
        }
        c.due("9: full", f.type('1'), FULL);
        c.due("9: full", f.count(11), 60);
        c.due("9: no act", f.count(10), 0);
        c.due("10: had sixty", f.clearText(), 60);
        c.due("10: empty", f.clearText(), 0);
        c.due("10: length", f.count(11), 0);
        c.due("9: from the front again", f.type('7'), 1);
        c.due("9: ", f.type(','), 2);
        c.due("9: ", f.type('8'), 3);
        c.due("9: the old characters are gone", f.comeAll(), 1);
        c.due("9: y", f.camper(0, 1), 8);
        c.due("10: undo", f.undo(), 0);
        c.due("10: the text is no part of the state", f.count(11), 3);
        f.clearText();
        c.due("10: no act", f.count(10), 0);
        c.due("9: any character", f.type((char) 0), 1);
        c.due("9: any character", f.type((char) 65535), 2);
    }

    private static void promise11() {
        TentFields f = new TentFields();
        for (int song = 0; song < 6; song++) {
            c.due("11: lay", f.lay(song, 0, 10), song);
            c.due("11: states", f.count(10), Math.min(song + 1, 4));
        }
        for (int left = 3; left >= 0; left--) {
            c.due("11: undo", f.undo(), left);
            c.due("11: songs", f.count(3), left + 2);
            c.due("11: states", f.count(10), left);
        }
        c.due("11: empty", f.undo(), NONE);
        c.due("11: the oldest ones were dropped", f.count(3), 2);
        c.due("11: after the undos", f.lay(0, 0, 10), 2);
        c.due("11: undo", f.undo(), 0);
        c.due("11: songs", f.count(3), 2);
        for (int turn = 0; turn < 20; turn++) {
            c.due("11: around the ring", f.carry(0, 10 + turn, 0), 100);
            if (turn % 3 == 2) {
                f.undo();
                c.due("11: x", f.song(0, 0), 9 + turn);
            }
        }
    }

    private static void promise11StateIsAll() {
        TentFields f = cut();
        f.lay(1, 1, 10);
        f.leave(0);
        c.due("11: joined", f.count(8), 3);
        c.due("11: undo", f.undo(), 3);
        c.due("11: not joined", f.count(8), 0);
        c.due("11: plots", f.count(2), 4);
        c.due("11: on the field again", f.count(0), 2);
        c.due("11: tent", f.camper(0, 0), 0);
        c.due("11: undo", f.undo(), 2);
        c.due("11: songs", f.count(3), 0);
        c.due("11: undo", f.undo(), 1);
        c.due("11: halvings", f.count(7), 0);
        c.due("11: campers so far", f.count(1), 1);
        f = quarters();
        f.come(40, 40);
        f.leave(1);
        c.due("11: taken over", f.count(9), 1);
        f.undo();
        c.due("11: not taken over", f.count(9), 0);
        c.due("11: its plot", f.plot(40, 0, 0), 1);
    }

    private static void promise12And13() {
        TentFields f = new TentFields();
        c.due("13: no snapshot", f.restore(), NONE);
        c.due("13: nothing recorded", f.count(10), 0);
        c.due("12: an empty field", f.keep(), 0);
        c.due("12: no act", f.count(10), 0);
        f = quarters();
        f.lay(1, 1, 10);
        c.due("12: four are here", f.keep(), 4);
        c.due("12: no act", f.count(10), 4);
        f.leave(3);
        f.type('1');
        f.carry(0, 2, 2);
        c.due("13: restored", f.restore(), 4);
        c.due("13: song", f.song(0, 0), 1);
        c.due("13: joinings", f.count(8), 0);
        isPlot(f, 63, 63, 3, 2, 32, 32, 63, 63);
        c.due("13: the text is no part of it", f.count(11), 1);
        c.due("13: an act", f.undo(), 3);
        c.due("13: undone", f.count(0), 3);
        c.due("13: song", f.song(0, 0), 2);
        f.leave(2);
        f.leave(1);
        c.due("13: the snapshot stays", f.restore(), 4);
        f.carry(0, 9, 9);
        c.due("13: what is done later does not change it", f.restore(), 4);
        c.due("13: song", f.song(0, 0), 1);
        f.leave(0);
        c.due("12: in place of the old one", f.keep(), 3);
        f.leave(1);
        c.due("12: undo leaves the snapshot", f.undo(), 3);
        f.leave(1);
        c.due("13: restored", f.restore(), 3);
        c.due("13: who had left then", f.camper(0, 0), UNKNOWN);
    }

    private static void promise14() {
        TentFields f = cut();
        for (int[] point : NO_POINTS) {
            c.due("14: no point", f.plot(point[0], point[1], 0), UNKNOWN);
        }
        c.due("14: unknown before bad", f.plot(64, 0, 9), UNKNOWN);
        for (int what : new int[] {-1, 7, BIG, SMALL}) {
            c.due("14: bad", f.plot(0, 0, what), BAD_VALUE);
        }
        isPlot(f, 16, 0, 1, 3, 16, 0, 31, 31, 3);
        isPlot(f, 63, 63, 0, 1, 32, 0, 63, 63, 2);
        f = quarters();
        c.due("14: a corner is no side", f.plot(0, 0, 6), 2);
        f = new TentFields();
        f.come(1, 1);
        f.come(0, 1);
        isPlot(f, 0, 1, 1, 11, 0, 0, 0, 1, 2);
        isPlot(f, 1, 1, 0, 11, 1, 0, 1, 1, 3);
    }

    private static void promise15() {
        TentFields f = cut();
        int[] first = {0, 0, 3, 3584, 0, 1, 0};
        int[] second = {20, 0, 1, 512, 0, 1, 0};
        for (int what = 0; what < 7; what++) {
            c.due("15: camper(0," + what + ")", f.camper(0, what), first[what]);
            c.due("15: camper(1," + what + ")", f.camper(1, what), second[what]);
        }
        for (int camper : new int[] {-1, 2, 16, BIG, SMALL}) {
            c.due("15: nobody has this number", f.camper(camper, 0), UNKNOWN);
            c.due("15: unknown before bad", f.camper(camper, 7), UNKNOWN);
        }
        for (int what : new int[] {-1, 7, BIG, SMALL}) {
            c.due("15: bad", f.camper(0, what), BAD_VALUE);
        }
        f = quarters();
        c.due("15: neighbours by side alone", f.camper(0, 5), 2);
        f.leave(3);
        c.due("15: one on the long side", f.camper(1, 5), 2);
        c.due("15: has left", f.camper(3, 0), UNKNOWN);
    }

    private static void promise15Loudness() {
        TentFields f = cut();
        f.lay(0, 0, 1);
        f.lay(20, 0, 999);
        f.lay(40, 40, 2);
        f.lay(40, 41, 7);
        c.due("15: songs", f.camper(0, 4), 3);
        c.due("15: songs", f.camper(1, 4), 1);
        c.due("15: loudness", f.camper(0, 6), bits(0.1f + 0.2f + 0.7f));
        c.due("15: loudness", f.camper(1, 6), bits(99.9f));
        float sum = 0.0f;
        f = new TentFields();
        f.come(0, 0);
        for (int song = 0; song < 20; song++) {
            int tenths = song * 37 % 999 + (song % 2 == 0 ? 1 : 900);
            tenths = Math.min(tenths, 999);
            f.lay(song, song, tenths);
            sum = sum + (float) tenths / 10.0f;
            c.due("15: sum by rising numbers", f.camper(0, 6), bits(sum));
        }
    }

    private static void promise16() {
        TentFields f = cut();
        int[][] own = {{0, 0, 3}, {0, 32, 2}, {32, 0, 1}};
        for (int rank = 0; rank < 3; rank++) {
            for (int what = 0; what < 3; what++) {
                c.due("16: plotOf(0," + rank + "," + what + ")", f.plotOf(0, rank, what), own[rank][what]);
            }
        }
        c.due("16: not so many", f.plotOf(0, 3, 0), NONE);
        c.due("16: not so many", f.plotOf(1, 1, 0), NONE);
        c.due("16: not so many", f.plotOf(1, BIG, 2), NONE);
        c.due("16: bad rank", f.plotOf(0, -1, 0), BAD_VALUE);
        c.due("16: bad rank", f.plotOf(0, SMALL, 0), BAD_VALUE);
        c.due("16: bad what", f.plotOf(0, 0, 3), BAD_VALUE);
        c.due("16: bad what", f.plotOf(0, 0, -1), BAD_VALUE);
        c.due("16: bad before none", f.plotOf(0, 9, 3), BAD_VALUE);
        c.due("16: unknown", f.plotOf(2, 0, 0), UNKNOWN);
        c.due("16: unknown before bad", f.plotOf(-1, -1, 3), UNKNOWN);
        f = new TentFields();
        f.come(63, 63);
        f.come(62, 63);
        int x = -1;
        int y = -1;
        for (int rank = 0; rank < 11; rank++) {
            int nextX = f.plotOf(0, rank, 0);
            int nextY = f.plotOf(0, rank, 1);
            c.holds("16: rising", nextX > x || nextX == x && nextY > y);
            x = nextX;
            y = nextY;
        }
        c.due("16: eleven plots", f.plotOf(0, 11, 0), NONE);
    }

    private static void promise17() {
        TentFields f = cut();
        f.lay(20, 3, 123);
        f.lay(0, 63, 1);
        int[][] songs = {{20, 3, bits(12.3f), 1}, {0, 63, bits(0.1f), 0}};
        for (int song = 0; song < 2; song++) {
            for (int what = 0; what < 4; what++) {
                c.due("17: song(" + song + "," + what + ")", f.song(song, what), songs[song][what]);
            }
        }
        for (int song : new int[] {-1, 2, 20, BIG, SMALL}) {
            c.due("17: no song", f.song(song, 0), UNKNOWN);
            c.due("17: unknown before bad", f.song(song, 4), UNKNOWN);
        }
        for (int what : new int[] {-1, 4, BIG, SMALL}) {
            c.due("17: bad", f.song(0, what), BAD_VALUE);
        }
        for (int tenths = 1; tenths <= 999; tenths += 7) {
            TentFields g = new TentFields();
            g.lay(0, 0, tenths);
            c.due("17: bits of " + tenths, g.song(0, 2), bits((float) tenths / 10.0f));
            c.due("17: nobody's", g.song(0, 3), 100);
        }
    }

    private static void isWay(TentFields f, int camper, int x, int y, int[]... plots) {
        for (int step = 0; step < plots.length; step++) {
            for (int what = 0; what < 3; what++) {
                c.due("18: way(" + camper + "," + x + "," + y + "," + step + "," + what + ")",
                        f.way(camper, x, y, step, what), plots[step][what]);
            }
        }
        c.due("18: the end of the way", f.way(camper, x, y, plots.length, 0), NONE);
        c.due("18: far behind the end", f.way(camper, x, y, BIG, 2), NONE);
    }

    private static void promise18() {
        TentFields f = quarters();
        isWay(f, 0, 63, 63, new int[] {0, 0, 0}, new int[] {2, 0, 32}, new int[] {3, 32, 32});
        isWay(f, 3, 0, 0, new int[] {3, 32, 32}, new int[] {2, 0, 32}, new int[] {0, 0, 0});
        isWay(f, 1, 0, 63, new int[] {1, 32, 0}, new int[] {0, 0, 0}, new int[] {2, 0, 32});
        isWay(f, 1, 40, 20, new int[] {1, 32, 0});
        isWay(f, 0, 63, 40, new int[] {0, 0, 0}, new int[] {1, 32, 0}, new int[] {3, 32, 32});
        f = cut();
        isWay(f, 1, 63, 63, new int[] {1, 16, 0}, new int[] {0, 32, 0});
        isWay(f, 1, 0, 0, new int[] {1, 16, 0}, new int[] {0, 0, 0});
        isWay(f, 0, 20, 20, new int[] {0, 0, 0}, new int[] {1, 16, 0});
        f.moveTent(0, 40, 40);
        isWay(f, 0, 0, 0, new int[] {0, 32, 0}, new int[] {1, 16, 0}, new int[] {0, 0, 0});
        for (int[] point : NO_POINTS) {
            c.due("18: no point", f.way(0, point[0], point[1], 0, 0), UNKNOWN);
        }
        c.due("18: no camper", f.way(2, 0, 0, 0, 0), UNKNOWN);
        c.due("18: unknown before bad", f.way(-1, 0, 0, -1, 3), UNKNOWN);
        c.due("18: unknown before bad", f.way(0, 64, 0, -1, 3), UNKNOWN);
        c.due("18: bad step", f.way(0, 0, 0, -1, 0), BAD_VALUE);
        c.due("18: bad step", f.way(0, 0, 0, SMALL, 0), BAD_VALUE);
        c.due("18: bad what", f.way(0, 0, 0, 0, 3), BAD_VALUE);
        c.due("18: bad what", f.way(0, 0, 0, 0, -1), BAD_VALUE);
        c.due("18: bad before none", f.way(0, 0, 0, 99, 3), BAD_VALUE);
    }

    private static void promise19() {
        TentFields f = new TentFields();
        f.lay(20, 0, 10);
        f.lay(31, 31, 10);
        f.lay(40, 0, 10);
        c.due("19: the whole field", f.would(20, 0, 0), 0);
        c.due("19: all songs", f.would(20, 0, 1), 3);
        c.due("19: nobody has it", f.would(20, 0, 2), NONE);
        f.come(0, 0);
        c.due("19: depth", f.would(20, 0, 0), 3);
        c.due("19: songs", f.would(20, 0, 1), 2);
        c.due("19: who has it", f.would(20, 0, 2), 0);
        for (int what = 0; what < 3; what++) {
            c.due("19: at the tent", f.would(0, 0, what), NOT_POSSIBLE);
        }
        c.due("19: nothing changed", f.count(2), 1);
        c.due("19: nothing recorded", f.count(10), 4);
        f.come(20, 0);
        c.due("19: halved once without the tent", f.would(40, 40, 0), 2);
        c.due("19: songs", f.would(40, 40, 1), 0);
        c.due("19: songs", f.would(40, 1, 1), 1);
        c.due("19: who has it", f.would(21, 5, 2), 1);
        for (int[] point : NO_POINTS) {
            c.due("19: no point", f.would(point[0], point[1], 0), UNKNOWN);
        }
        c.due("19: unknown before bad", f.would(64, 0, 3), UNKNOWN);
        for (int what : new int[] {-1, 3, BIG, SMALL}) {
            c.due("19: bad before not possible", f.would(0, 0, what), BAD_VALUE);
        }
        f = new TentFields();
        f.come(0, 0);
        f.come(0, 1);
        f.moveTent(0, 63, 63);
        c.due("19: one point", f.would(0, 0, 0), NOT_POSSIBLE);
        c.due("19: two points without the tent", f.would(1, 0, 0), 12);
        for (int camper = 2; camper < 16; camper++) {
            f.come(camper * 4, 32);
        }
        c.due("19: sixteen have come", f.count(1), 16);
        c.due("19: full", f.would(1, 0, 0), FULL);
        c.due("19: full", f.would(1, 0, 2), FULL);
        c.due("19: full before not possible", f.would(0, 0, 0), FULL);
        c.due("19: bad before full", f.would(0, 0, 3), BAD_VALUE);
    }

    private static void promise20() {
        TentFields f = new TentFields();
        f.lay(60, 0, 5);
        c.due("20: nobody is here", f.loudest(), NONE);
        f = quarters();
        c.due("20: silent, the lowest number", f.loudest(), 0);
        f.lay(63, 63, 1);
        c.due("20: the only song", f.loudest(), 3);
        f.lay(63, 0, 1);
        c.due("20: alike, the lower number", f.loudest(), 1);
        f.lay(63, 63, 1);
        c.due("20: the sum", f.loudest(), 3);
        f.leave(3);
        c.due("20: its songs are taken over", f.loudest(), 1);
        f = quarters();
        f.leave(0);
        c.due("20: silent, the lowest one who is here", f.loudest(), 1);
    }

    private static void promise21() {
        TentFields f = new TentFields();
        c.dueFloat("21: nobody", f.share(0), -1.0f);
        f.come(0, 0);
        c.dueFloat("21: all", f.share(0), 1.0f);
        f.come(20, 0);
        c.dueFloat("21: the rest", f.share(0), 0.875f);
        c.dueFloat("21: an eighth", f.share(1), 0.125f);
        f.come(1, 0);
        c.dueFloat("21: two points", f.share(2), 2.0f / 4096.0f);
        for (int camper : new int[] {-1, 3, 16, BIG, SMALL}) {
            c.dueFloat("21: nobody has this number", f.share(camper), -1.0f);
        }
        f.leave(1);
        c.dueFloat("21: has left", f.share(1), -1.0f);
    }

    private static void promise22() {
        TentFields f = cut();
        f.come(40, 40);
        f.leave(1);
        f.lay(0, 0, 3);
        f.type('x');
        int[] want = {2, 3, 4, 1, 2, 2, 1, 4, 1, 0, 4, 1};
        for (int what = 0; what < 12; what++) {
            c.due("22: count(" + what + ")", f.count(what), want[what]);
        }
        for (int what : new int[] {-1, 12, BIG, SMALL}) {
            c.due("22: bad", f.count(what), BAD_VALUE);
        }
        f = cut();
        c.due("22: the greatest depth", f.count(4), 3);
        c.due("22: the least depth", f.count(5), 1);
        c.due("22: plots", f.count(2), 4);
        c.due("22: with more than one plot", f.count(6), 1);
        c.due("22: one is handed over", f.handOver(0, 40, 1), 0);
        c.due("22: with more than one plot", f.count(6), 2);
        c.due("22: handing over is no taking over", f.count(9), 0);
        f = quarters();
        c.due("22: come(40,40)", f.come(40, 40), 4);
        c.due("22: leave(1)", f.leave(1), 4);
        c.due("22: taken over", f.count(9), 1);
        c.due("22: on the field", f.count(0), 4);
        c.due("22: so far", f.count(1), 5);
    }
}
