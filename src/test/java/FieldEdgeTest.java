import java.util.ArrayList;
import java.util.List;

/** The edges that THE FIELD and COMING name, a method for each sentence. */
public final class FieldEdgeTest extends Scenes {
    public static void main(String[] args) {
        pointsAre0To63();
        pointsOutsideAreNone();
        everyMethodTakesTheCorners();
        atFirstOnePlotOfNobody();
        aPlotEndsWithItsLastPoint();
        halvesOfEachDepth();
        campersOnOneSideOfTheMiddle();
        depth12IsNotHalved();
        withoutItsTentAPlotIsHalvedOnce();
        theOtherHalfStaysWithItsCamper();
        sixteenComeEver();
        numbersAreNeverGivenAgain();
        fieldOfNobodyIsGivenWhole();
        theSamePointIsNotPossible();
        asManyPlotsAsThereCanBe();
        eachCamperHasThePlotOfTheTent();
        wouldTellsWhatComeDoes();
        c.end("FieldEdgeTest");
    }

    // ---- "The field has the points (x, y), both 0 to 63."

    private static void pointsAre0To63() {
        for (int place = 0; place < 64; place++) {
            int[][] rim = {{place, 0}, {place, 63}, {0, place}, {63, place}};
            for (int[] point : rim) {
                String at = "points 0 to 63: (" + point[0] + "," + point[1] + ")";
                TentFields f = new TentFields();
                c.due(at + " plot", f.plot(point[0], point[1], 4), 63);
                c.due(at + " would", f.would(point[0], point[1], 0), 0);
                c.due(at + " lay", f.lay(point[0], point[1], 1), 0);
                c.due(at + " come", f.come(point[0], point[1]), 0);
                c.due(at + " x", f.camper(0, 0), point[0]);
                c.due(at + " y", f.camper(0, 1), point[1]);
            }
        }
    }

    private static void pointsOutsideAreNone() {
        for (int place = -1; place <= 64; place++) {
            int[][] around = {{place, -1}, {place, 64}, {-1, place}, {64, place}};
            TentFields f = cut();
            f.lay(1, 1, 1);
            for (int[] point : around) {
                int x = point[0];
                int y = point[1];
                String at = "no point: (" + x + "," + y + ") ";
                c.due(at + "come", f.come(x, y), UNKNOWN);
                c.due(at + "moveTent", f.moveTent(0, x, y), UNKNOWN);
                c.due(at + "handOver", f.handOver(x, y, 1), UNKNOWN);
                c.due(at + "lay", f.lay(x, y, 1), UNKNOWN);
                c.due(at + "carry", f.carry(0, x, y), UNKNOWN);
                c.due(at + "plot", f.plot(x, y, 0), UNKNOWN);
                c.due(at + "way", f.way(0, x, y, 0, 0), UNKNOWN);
                c.due(at + "would", f.would(x, y, 0), UNKNOWN);
            }
        }
    }

    private static void everyMethodTakesTheCorners() {
        for (int corner = 0; corner < 4; corner++) {
            int x = (corner & 1) * 63;
            int y = (corner >> 1) * 63;
            TentFields f = with(30, 30);
            c.due("corner: moveTent", f.moveTent(0, x, y), 0);
            c.due("corner: moveTent x", f.camper(0, 0), x);
            c.due("corner: moveTent y", f.camper(0, 1), y);
            c.due("corner: lay", f.lay(30, 31, 1), 0);
            c.due("corner: carry", f.carry(0, x, y), 0);
            c.due("corner: song x", f.song(0, 0), x);
            c.due("corner: song y", f.song(0, 1), y);
            c.due("corner: way", f.way(0, x, y, 0, 0), 0);
            c.due("corner: handOver is no UNKNOWN", f.handOver(x, y, 0), NOT_POSSIBLE);
            c.due("corner: would", f.would(63 - x, y, 0), 1);
        }
    }

    // ---- "It is parted into plots; at first it is one plot, of nobody."

    private static void atFirstOnePlotOfNobody() {
        TentFields f = new TentFields();
        isLike("at first one plot", f, "nobody:(0,0)0");
        c.due("at first one plot", f.count(2), 1);
        c.due("at first of nobody", f.count(0), 0);
        for (int corner = 0; corner < 4; corner++) {
            int x = (corner & 1) * 63;
            int y = (corner >> 1) * 63;
            int[] want = {NONE, 0, 0, 0, 63, 63, 0};
            for (int what = 0; what < 7; what++) {
                c.due("at first: plot(" + x + "," + y + "," + what + ")", f.plot(x, y, what), want[what]);
            }
        }
    }

    // ---- "A plot is all points with x from x0 to x1 and y from y0 to y1."

    private static void aPlotEndsWithItsLastPoint() {
        TentFields f = cut();
        int[][] inside = {{16, 0}, {31, 0}, {16, 31}, {31, 31}};
        for (int[] point : inside) {
            c.due("x0 to x1, y0 to y1: (" + point[0] + "," + point[1] + ")", f.plot(point[0], point[1], 0), 1);
        }
        int[][] outside = {{15, 0}, {32, 0}, {15, 31}, {32, 31}, {16, 32}, {31, 32}};
        for (int[] point : outside) {
            c.due("not x0 to x1, y0 to y1: (" + point[0] + "," + point[1] + ")", f.plot(point[0], point[1], 0), 0);
        }
    }

    // ---- "To halve a plot of an even depth parts it at the middle of its x ... of an odd depth at the middle of its y."

    private static void halvesOfEachDepth() {
        int[][] tents = {{0, 0}, {63, 0}, {0, 63}, {63, 63}, {21, 42}, {42, 21}, {31, 32}, {32, 31}};
        for (int[] tent : tents) {
            for (int depth = 1; depth <= 12; depth++) {
                halvedUntil(tent[0], tent[1], depth);
            }
        }
    }

    /** A newcomer whom only the halving to this depth puts into another half than the tent. */
    private static void halvedUntil(int tentX, int tentY, int depth) {
        int x = depth % 2 == 1 ? tentX ^ 64 >> (depth + 1) / 2 : tentX;
        int y = depth % 2 == 0 ? tentY ^ 64 >> depth / 2 : tentY;
        String told = "tent (" + tentX + "," + tentY + "), newcomer (" + x + "," + y + ")";
        TentFields f = with(tentX, tentY);
        c.due(told + ": would", f.would(x, y, 0), depth);
        c.due(told + ": come", f.come(x, y), 1);
        c.due(told + ": halvings", f.count(7), depth);
        c.due(told + ": plots", f.count(2), depth + 1);
        c.due(told + ": greatest depth", f.count(4), depth);
        c.due(told + ": least depth", f.count(5), 1);
        isLike(told, f, plots(halves(tentX, tentY, x, y, depth)));
        c.due(told + ": x0", f.plot(x, y, 2), cornerX(x, depth));
        c.due(told + ": y0", f.plot(x, y, 3), cornerY(y, depth));
        c.due(told + ": x1", f.plot(x, y, 4), cornerX(x, depth) + width(depth) - 1);
        c.due(told + ": y1", f.plot(x, y, 5), cornerY(y, depth) + height(depth) - 1);
    }

    private static List<int[]> halves(int tentX, int tentY, int x, int y, int depth) {
        List<int[]> all = new ArrayList<>();
        int fromX = 0;
        int fromY = 0;
        int wide = 64;
        int high = 64;
        for (int level = 1; level <= depth; level++) {
            boolean isByX = level % 2 == 1;
            wide = isByX ? wide / 2 : wide;
            high = isByX ? high : high / 2;
            int otherX = fromX;
            int otherY = fromY;
            if (isByX && x >= fromX + wide) {
                fromX += wide;
            } else if (isByX) {
                otherX += wide;
            } else if (y >= fromY + high) {
                fromY += high;
            } else {
                otherY += high;
            }
            all.add(new int[] {0, otherX, otherY, level});
        }
        all.add(new int[] {1, fromX, fromY, depth});
        return all;
    }

    private static int width(int depth) {
        int[] widths = {64, 32, 32, 16, 16, 8, 8, 4, 4, 2, 2, 1, 1};
        return widths[depth];
    }

    private static int height(int depth) {
        int[] heights = {64, 64, 32, 32, 16, 16, 8, 8, 4, 4, 2, 2, 1};
        return heights[depth];
    }

    private static int cornerX(int x, int depth) {
        return x / width(depth) * width(depth);
    }

    private static int cornerY(int y, int depth) {
        return y / height(depth) * height(depth);
    }

    private static void campersOnOneSideOfTheMiddle() {
        isLike("31 is low, 32 is high", with(31, 0, 32, 0), "0:(0,0)1 1:(32,0)1");
        isLike("32 is high, 31 is low", with(32, 0, 31, 0), "0:(32,0)1 1:(0,0)1");
        isLike("y is the second", with(0, 31, 0, 32), "0:(0,0)2 0:(32,0)1 1:(0,32)2");
        isLike("y is the second", with(63, 32, 63, 31), "0:(0,0)1 0:(32,32)2 1:(32,0)2");
        isLike("both unlike: x is the first", with(31, 31, 32, 32), "0:(0,0)1 1:(32,0)1");
        isLike("15 and 16", with(15, 0, 16, 0), "0:(0,0)3 0:(0,32)2 0:(32,0)1 1:(16,0)3");
    }

    // ---- "Plots of the depth 12 (one point) cannot be halved."

    private static void depth12IsNotHalved() {
        TentFields f = smallest();
        c.due("depth 12, the tent in it", f.come(0, 0), NOT_POSSIBLE);
        c.due("depth 12, the tent in it", f.come(0, 1), NOT_POSSIBLE);
        c.due("moveTent", f.moveTent(0, 1, 0), 11);
        for (int what = 0; what < 3; what++) {
            c.due("depth 12, the tent outside: would", f.would(0, 0, what), NOT_POSSIBLE);
        }
        c.due("depth 12, the tent outside: come", f.come(0, 0), NOT_POSSIBLE);
        c.due("depth 12: handed over", f.handOver(0, 0, 1), 0);
        isLike("depth 12: put together to 11", f, "0:(0,2)10 0:(0,4)8 0:(0,8)6 0:(0,16)4 0:(0,32)2 0:(1,0)11 0:(2,0)9 "
                + "0:(4,0)7 0:(8,0)5 0:(16,0)3 0:(32,0)1 1:(0,0)11");
        c.due("depth 11: can be halved again", f.come(0, 0), 2);
        c.due("depth 11: to 12", f.plot(0, 0, 1), 12);
        c.due("the other point of 11", f.plot(0, 1, 0), 1);
    }

    // ---- "(if the tent of the plot's camper is not in the plot at all, it is halved just once)"

    private static void withoutItsTentAPlotIsHalvedOnce() {
        for (int depth = 1; depth < 12; depth++) {
            boolean isByX = depth % 2 == 1;
            int x0 = isByX ? width(depth) : 0;
            int y0 = isByX ? 0 : height(depth);
            int x1 = x0 + width(depth) - 1;
            int y1 = y0 + height(depth) - 1;
            halvedOnce(depth, x0, y0, x0, y0);
            halvedOnce(depth, x1, y1, isByX ? x0 : x0 + width(depth + 1), isByX ? y0 + height(depth + 1) : y0);
        }
    }

    private static void halvedOnce(int depth, int x, int y, int x0, int y0) {
        String told = "halved just once: come(" + x + "," + y + ") to depth " + depth;
        TentFields f = smallest();
        c.due(told + ": depth", f.plot(x, y, 1), depth);
        c.due(told + ": camper", f.plot(x, y, 0), 0);
        int plots = f.camper(0, 2);
        c.due(told + ": would", f.would(x, y, 0), depth + 1);
        c.due(told, f.come(x, y), 2);
        c.due(told + ": halvings", f.count(7), 13);
        c.due(told + ": plots", f.count(2), 14);
        c.due(told + ": depth then", f.plot(x, y, 1), depth + 1);
        c.due(told + ": x0", f.plot(x, y, 2), x0);
        c.due(told + ": y0", f.plot(x, y, 3), y0);
        c.due(told + ": the other half stays", f.camper(0, 2), plots);
        c.due(told + ": one plot", f.camper(2, 2), 1);
    }

    // ---- "the newcomer has the half with the point; the other halves stay with the camper who had the plot"

    private static void theOtherHalfStaysWithItsCamper() {
        TentFields f = with(0, 0, 63, 0, 63, 60);
        isLike("three campers", f, "0:(0,0)1 1:(32,0)2 2:(32,32)2");
        c.due("handOver", f.handOver(32, 0, 2), NOT_POSSIBLE);
        c.due("into the plot of 2", f.come(33, 33), 3);
        isLike("the halves stay with 2, not with 0 or 1", f, "0:(0,0)1 1:(32,0)2 2:(48,32)3 3:(32,32)3");
        c.due("into the plot of 3", f.come(33, 34), 4);
        isLike("the halves stay with 3", f, "0:(0,0)1 1:(32,0)2 2:(48,32)3 3:(32,32)10 3:(32,36)8 3:(32,40)6 3:(32,48)4 "
                + "3:(34,32)9 3:(36,32)7 3:(40,32)5 4:(32,34)10");
    }

    // ---- "At most 16 campers come ever, numbered from 0 (never given again)"

    private static void sixteenComeEver() {
        TentFields f = sixteen();
        c.due("sixteen have come", f.count(1), 16);
        c.due("the seventeenth", f.come(0, 63), FULL);
        for (int what = 0; what < 3; what++) {
            c.due("the seventeenth would", f.would(0, 63, what), FULL);
        }
        c.due("leave", f.leave(15), 15);
        c.due("still full", f.come(0, 63), FULL);
        c.due("still full", f.come(60, 0), FULL);
        f = deserted();
        c.due("nobody is left, sixteen have come", f.come(0, 0), FULL);
        for (int what = 0; what < 3; what++) {
            c.due("nobody is left: would", f.would(0, 0, what), FULL);
        }
        write(f, "1,1");
        c.due("nobody is left: comeAll", f.comeAll(), FULL);
        c.due("so far", f.count(1), 16);
        f = with(0, 0);
        for (int camper = 1; camper < 16; camper++) {
            c.due("come, and leave at once", f.come(camper * 4, 0), camper);
            c.due("come, and leave at once", f.leave(camper), 1);
        }
        c.due("one is here, sixteen have come", f.come(63, 63), FULL);
    }

    private static void numbersAreNeverGivenAgain() {
        TentFields f = quarters();
        c.due("the last one leaves", f.leave(3), 3);
        c.due("the next number", f.come(63, 63), 4);
        c.due("the first one leaves", f.leave(0), 3);
        c.due("the next number", f.come(0, 0), 5);
        c.due("who has left is not here again", f.camper(0, 0), UNKNOWN);
        c.due("who has left is not here again", f.camper(3, 0), UNKNOWN);
        c.due("a plot names the new number", f.plot(63, 63, 0), 4);
        f = new TentFields();
        for (int camper = 0; camper < 16; camper++) {
            c.due("alone on the field", f.come(5, 5), camper);
            c.due("alone on the field: leave", f.leave(camper), 0);
        }
        c.due("alone on the field", f.come(5, 5), FULL);
    }

    // ---- "If the field is of nobody, the camper has it."

    private static void fieldOfNobodyIsGivenWhole() {
        TentFields f = new TentFields();
        c.due("of nobody: would", f.would(63, 63, 0), 0);
        c.due("of nobody: would", f.would(63, 63, 2), NONE);
        c.due("of nobody: come", f.come(63, 63), 0);
        isLike("of nobody", f, "0:(0,0)0");
        c.due("without a halving", f.count(7), 0);
        f = cut();
        c.due("leave", f.leave(1), 1);
        c.due("leave", f.leave(0), 0);
        c.due("of nobody again: would", f.would(9, 9, 0), 0);
        c.due("of nobody again: would", f.would(9, 9, 2), NONE);
        c.due("of nobody again: come", f.come(9, 9), 2);
        isLike("of nobody again", f, "2:(0,0)0");
        c.due("without a halving", f.count(7), 3);
        c.due("the next one halves", f.come(0, 0), 3);
        c.due("the next one halves", f.count(7), 3 + 5);
    }

    // ---- "If the tent of that camper is at the same point ... this is not possible."

    private static void theSamePointIsNotPossible() {
        for (int place = 0; place < 64; place += 21) {
            TentFields f = with(place, 63 - place);
            c.due("the same point: come", f.come(place, 63 - place), NOT_POSSIBLE);
            c.due("the same point: would", f.would(place, 63 - place, 0), NOT_POSSIBLE);
            c.due("x beside it", f.would(place ^ 1, 63 - place, 0), 11);
            c.due("y beside it", f.would(place, 63 - place ^ 1, 0), 12);
            c.due("the tent goes away", f.moveTent(0, place ^ 1, 63 - place), 0);
            c.due("the same point: where the tent is then", f.come(place ^ 1, 63 - place), NOT_POSSIBLE);
            c.due("where the tent was", f.come(place, 63 - place), 1);
        }
    }

    // ---- the edge of all this: 1 + 12 + 11 + 2 * 10 + 4 * 9 + 7 * 8 plots

    private static void asManyPlotsAsThereCanBe() {
        TentFields f = crowded();
        c.due("crowded: plots", f.count(2), 136);
        c.due("crowded: halvings", f.count(7), 135);
        c.due("crowded: greatest depth", f.count(4), 12);
        c.due("crowded: least depth", f.count(5), 4);
        c.due("crowded: with more than one plot", f.count(6), 1);
        c.due("crowded: plots of 0", f.camper(0, 2), 121);
        c.due("crowded: points of 0", f.camper(0, 3), 4096 - 15);
        c.dueFloat("crowded: share of 0", f.share(0), 4081.0f / 4096.0f);
        c.due("crowded: neighbours of 0", f.camper(0, 5), 15);
        int last = -1;
        for (int rank = 0; rank < 121; rank++) {
            int corner = f.plotOf(0, rank, 0) * 64 + f.plotOf(0, rank, 1);
            c.holds("crowded: rank " + rank + " rises", corner > last);
            last = corner;
        }
        c.due("crowded: not so many", f.plotOf(0, 121, 0), NONE);
        f = crowded();
        c.due("crowded: the last rank, x0", f.plotOf(0, 120, 0), 56);
        c.due("crowded: the last rank, y0", f.plotOf(0, 120, 1), 32);
        c.due("crowded: the last rank, depth", f.plotOf(0, 120, 2), 5);
        for (int camper = 1; camper < 16; camper++) {
            c.due("crowded: points of " + camper, f.camper(camper, 3), 1);
            c.dueFloat("crowded: share of " + camper, f.share(camper), 1.0f / 4096.0f);
            c.due("crowded: neighbours of " + camper, f.camper(camper, 5), 1);
        }
        c.due("crowded: keep", f.keep(), 16);
        c.due("crowded: leave", f.leave(0), 15);
        c.due("crowded: all was given away", f.camper(1, 3) + others(f), 4096);
        c.due("crowded: put together and taken over", f.count(2), 136 - f.count(8));
        c.due("crowded: undo", f.undo(), 3);
        c.due("crowded: plots again", f.camper(0, 2), 121);
        c.due("crowded: restore", f.restore(), 16);
        c.due("crowded: plots again", f.count(2), 136);
    }

    private static int others(TentFields f) {
        int points = 0;
        for (int camper = 2; camper < 16; camper++) {
            points += f.camper(camper, 3);
        }
        return points;
    }

    // ---- "a camper has at least one plot, one of which has the tent's point, or has left"

    private static void eachCamperHasThePlotOfTheTent() {
        for (int run = 0; run < 16; run++) {
            TentFields f = sixteen();
            f.leave(run);
            f.leave(15 - run);
            f.leave(run * 7 % 16);
            for (int camper = 0; camper < 16; camper++) {
                if (f.share(camper) < 0.0f) {
                    c.due("has left", f.camper(camper, 2), UNKNOWN);
                } else {
                    c.holds("has a plot", f.camper(camper, 2) >= 1);
                    c.due("has the tent's", f.plot(f.camper(camper, 0), f.camper(camper, 1), 0), camper);
                }
            }
        }
    }

    private static void wouldTellsWhatComeDoes() {
        for (int x = 0; x < 64; x += 7) {
            for (int y = 0; y < 64; y += 9) {
                TentFields f = with(20, 20, 24, 48, 40, 16);
                f.lay(x, y, 1);
                f.lay(x ^ 1, y, 1);
                f.lay(x ^ 8, y ^ 8, 1);
                int depth = f.would(x, y, 0);
                int songs = f.would(x, y, 1);
                int owner = f.would(x, y, 2);
                c.due("would tells the camper", owner, f.plot(x, y, 0));
                int number = f.come(x, y);
                c.due("would tells the number if it can't", number, depth < 0 ? depth : 3);
                c.due("would tells the depth", f.plot(x, y, 1), depth < 0 ? f.plot(x, y, 1) : depth);
                c.due("would tells the songs", number < 0 ? songs : f.camper(3, 4), songs);
            }
        }
    }
}
