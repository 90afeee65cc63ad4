/** The edges that LEAVING, moveTent and handOver name, a method for each sentence; "0:(32,0)1" is told in Scenes. */
public final class LeavingEdgeTest extends Scenes {
    public static void main(String[] args) {
        theDeepestFirst();
        ofSeveralTheLowestX0();
        ofTheseTheLowestY0();
        theOtherHalfIsAPlot();
        itMayBeTheOneWhoLeaves();
        putTogetherOnceAlone();
        theOtherHalfIsHalved();
        theLeastArea();
        theAreaOfAllPlotsTogether();
        theAreaAsItIsThen();
        ofSeveralTheLowestNumber();
        neighboursTouchByASide();
        theOneWhoLeavesGetsNothing();
        takenOverIsNotPutTogether();
        nobodyIsLeft();
        leaveTellsHowMany();
        touchingAtAnyPlace();
        neighboursOfACamper();
        moveTentEdges();
        handOverWithTheTent();
        handOverWithoutTouching();
        handOverToWhoHasIt();
        handOverPutsTogetherOnce();
        handOverToAnUnlikeHalf();
        handOverToCamper0();
        plotsPutTogetherAreGone();
        campersWithMoreThanOnePlot();
        c.end("LeavingEdgeTest");
    }

    private static void leaves(String sentence, TentFields f, int camper, String before, String after) {
        isLike(sentence + ": before", f, before);
        int here = f.count(0);
        c.due(sentence + ": leave(" + camper + ")", f.leave(camper), here - 1);
        isLike(sentence + ": after", f, after);
        c.due(sentence + ": has left", f.camper(camper, 0), UNKNOWN);
    }

    // ---- "gives all plots away, one after the other ...: the deepest first"

    private static void theDeepestFirst() {
        TentFields f = with(8, 16, 24, 32);
        leaves("the deepest first", f, 0, "0:(0,0)2 0:(32,0)1 1:(0,32)2", "1:(0,0)0");
        hasPutTogether("the deepest first", f, 2, 0);
        f = with(0, 48, 24, 48);
        leaves("the deepest first, not the lowest corner", f, 0, "0:(0,0)2 0:(0,32)3 0:(32,0)1 1:(16,32)3", "1:(0,0)0");
        hasPutTogether("the deepest first, not the lowest corner", f, 3, 0);
    }

    // ---- "of several that with the lowest x0"

    private static void ofSeveralTheLowestX0() {
        TentFields f = with(8, 8, 16, 16, 56, 56, 8, 16, 48, 48);
        leaves("the lowest x0", f, 0,
                "0:(0,0)4 0:(0,32)2 0:(32,0)2 1:(16,0)3 2:(32,32)3 2:(48,32)4 2:(56,48)5 3:(0,16)4 4:(48,48)5",
                "1:(0,32)2 1:(16,0)3 2:(32,0)2 2:(32,32)3 2:(48,32)4 2:(56,48)5 3:(0,0)3 4:(48,48)5");
        hasPutTogether("the lowest x0", f, 1, 2);
    }

    // ---- "of these that with the lowest y0"

    private static void ofTheseTheLowestY0() {
        TentFields f = with(24, 16, 0, 0);
        c.due("the lowest y0: handOver", f.handOver(24, 40, 1), 0);
        c.due("the lowest y0: come", f.come(16, 32), 2);
        c.due("the lowest y0: come", f.come(24, 24), 3);
        leaves("the lowest y0", f, 1,
                "0:(16,0)4 0:(16,16)5 0:(24,16)6 0:(32,0)1 1:(0,0)3 1:(0,32)3 2:(16,32)3 3:(24,24)6",
                "0:(0,0)3 0:(16,0)4 0:(16,16)5 0:(24,16)6 0:(32,0)1 2:(0,32)2 3:(24,24)6");
        hasPutTogether("the lowest y0", f, 1, 1);
    }

    // ---- "If the other half of what it was halved from is a plot, both are one plot again"

    private static void theOtherHalfIsAPlot() {
        TentFields f = quarters();
        leaves("it belongs to that one's camper", f, 3, "0:(0,0)2 1:(32,0)2 2:(0,32)2 3:(32,32)2",
                "0:(0,0)2 1:(32,0)1 2:(0,32)2");
        hasPutTogether("it belongs to that one's camper", f, 1, 0);
        f = quarters();
        leaves("the low half leaves as well", f, 1, "0:(0,0)2 1:(32,0)2 2:(0,32)2 3:(32,32)2",
                "0:(0,0)2 2:(0,32)2 3:(32,0)1");
        for (int depth = 1; depth <= 12; depth++) {
            int x = depth % 2 == 1 ? 64 >> (depth + 1) / 2 : 0;
            int y = depth % 2 == 0 ? 64 >> depth / 2 : 0;
            f = with(0, 0, x, y);
            c.due("of depth " + depth + ": leave(1)", f.leave(1), 1);
            c.due("of depth " + depth + ": the greatest depth then", f.count(4), depth == 1 ? 0 : depth - 1);
            c.due("of depth " + depth + ": plots then", f.count(2), depth);
            hasPutTogether("of depth " + depth, f, 1, 0);
            f = with(0, 0, x, y);
            c.due("of depth " + depth + ": leave(0)", f.leave(0), 1);
            isLike("of depth " + depth + ": the other one has all", f, "1:(0,0)0");
            hasPutTogether("of depth " + depth + ": the other one has all", f, depth, 0);
        }
    }

    // ---- "(it may be the one who leaves: then it is given away in its turn)"

    private static void itMayBeTheOneWhoLeaves() {
        TentFields f = with(16, 56, 8, 40);
        c.due("its own other half: handOver", f.handOver(16, 8, 1), 0);
        c.due("its own other half: moveTent", f.moveTent(0, 48, 32), 1);
        isLike("its own other half: before", f, "0:(16,32)3 0:(32,0)1 1:(0,0)2 1:(0,32)3");
        c.due("its own other half: handOver", f.handOver(16, 56, 1), 0);
        c.due("its own other half: put together once", f.count(8), 1);
        leaves("its own other half", f, 1, "0:(32,0)1 1:(0,0)2 1:(0,32)2", "0:(0,0)0");
        hasPutTogether("its own other half", f, 3, 0);
    }

    // ---- "both are one plot again": one, not more, if the next other half is the same camper's

    private static void putTogetherOnceAlone() {
        TentFields f = with(24, 40, 24, 16);
        leaves("put together once", f, 1, "0:(0,32)2 0:(32,0)1 1:(0,0)2", "0:(0,0)1 0:(32,0)1");
        hasPutTogether("put together once", f, 1, 0);
    }

    // ---- "Otherwise it goes to the neighbour": the other half is halved itself

    private static void theOtherHalfIsHalved() {
        TentFields f = with(8, 40, 56, 32, 32, 48);
        leaves("the other half is no plot", f, 0, "0:(0,0)1 1:(32,0)2 1:(48,32)3 2:(32,32)3",
                "1:(32,0)2 1:(48,32)3 2:(0,0)1 2:(32,32)3");
        hasPutTogether("the other half is no plot", f, 0, 1);
    }

    // ---- "the neighbour with the least area"

    private static void theLeastArea() {
        TentFields f = with(40, 16, 40, 24, 32, 16);
        leaves("the least area", f, 0,
                "0:(0,0)1 0:(32,0)4 0:(32,24)6 0:(32,32)2 0:(40,16)6 0:(48,0)3 1:(40,24)6 2:(32,16)6",
                "1:(0,0)1 1:(32,0)4 1:(40,16)5 1:(48,0)3 2:(32,16)5 2:(32,32)2");
        hasPutTogether("the least area", f, 2, 4);
    }

    // ---- "(of all plots together)"

    private static void theAreaOfAllPlotsTogether() {
        TentFields f = with(48, 8, 40, 8, 16, 0, 24, 56);
        leaves("of all plots together", f, 2, "0:(0,32)3 0:(32,32)2 0:(48,0)3 1:(32,0)3 2:(0,0)2 3:(16,32)3",
                "0:(0,32)3 0:(32,32)2 0:(48,0)3 1:(0,0)2 1:(32,0)3 3:(16,32)3");
        hasPutTogether("of all plots together", f, 0, 1);
    }

    private static void theAreaAsItIsThen() {
        TentFields f = with(48, 40, 40, 24, 32, 56);
        leaves("the area as it is then", f, 0, "0:(0,0)1 0:(48,32)3 1:(32,0)2 2:(32,32)3",
                "1:(0,0)1 1:(32,0)2 2:(32,32)2");
        hasPutTogether("the area as it is then", f, 1, 1);
    }

    // ---- "of several the lowest number"

    private static void ofSeveralTheLowestNumber() {
        TentFields f = with(63, 0, 0, 0, 0, 63);
        leaves("the lowest number, though it came last but one", f, 0, "0:(32,0)1 1:(0,0)2 2:(0,32)2",
                "1:(0,0)2 1:(32,0)1 2:(0,32)2");
        f = with(63, 0, 0, 63, 0, 0);
        leaves("the lowest number, though it is below", f, 0, "0:(32,0)1 1:(0,32)2 2:(0,0)2",
                "1:(0,32)2 1:(32,0)1 2:(0,0)2");
        f = with(0, 0, 63, 0, 0, 63);
        leaves("the lowest number is 0", f, 1, "0:(0,0)2 1:(32,0)1 2:(0,32)2", "0:(0,0)2 0:(32,0)1 2:(0,32)2");
        hasPutTogether("the lowest number is 0", f, 0, 1);
        f = with(0, 0, 63, 0, 0, 63, 1, 0);
        leaves("the least by two points", f, 1,
                "0:(0,0)11 0:(0,2)10 0:(0,4)8 0:(0,8)6 0:(0,16)4 0:(2,0)9 0:(4,0)7 0:(8,0)5 0:(16,0)3 1:(32,0)1 2:(0,32)2 "
                        + "3:(1,0)11",
                "0:(0,0)11 0:(0,2)10 0:(0,4)8 0:(0,8)6 0:(0,16)4 0:(2,0)9 0:(4,0)7 0:(8,0)5 0:(16,0)3 0:(32,0)1 2:(0,32)2 "
                        + "3:(1,0)11");
        f = with(0, 0, 63, 0, 0, 63, 1, 63);
        c.due("the lower number has two points more", f.camper(0, 3) - f.camper(2, 3), 2);
        c.due("the lower number has two points more: leave", f.leave(1), 3);
        c.due("the lower number has two points more", f.plot(63, 0, 0), 2);
    }

    // ---- "neighbours are campers who have a plot that touches it by a side"

    private static void neighboursTouchByASide() {
        TentFields f = with(48, 40, 40, 48, 24, 8, 24, 40);
        leaves("a corner is no side", f, 2, "0:(0,32)3 0:(32,0)2 0:(48,32)3 1:(32,32)3 2:(0,0)2 3:(16,32)3",
                "0:(0,32)3 0:(32,0)2 0:(48,32)3 1:(32,32)3 3:(0,0)2 3:(16,32)3");
        f = with(48, 48, 24, 0, 16, 0);
        leaves("the least one is not beside it", f, 0, "0:(32,0)1 1:(0,0)3 1:(0,32)2 1:(16,16)4 1:(24,0)5 2:(16,0)5",
                "1:(0,0)3 1:(0,32)2 1:(16,16)4 1:(24,0)5 1:(32,0)1 2:(16,0)5");
    }

    // ---- "(The one who leaves is nobody's neighbour then, and gets nothing.)"

    private static void theOneWhoLeavesGetsNothing() {
        TentFields f = with(8, 40, 16, 56, 24, 56);
        c.due("gets nothing: handOver", f.handOver(48, 8, 1), 0);
        c.holds("gets nothing: has the least area but one", f.camper(0, 3) < f.camper(1, 3));
        leaves("gets nothing", f, 0, "0:(0,0)2 0:(0,32)3 1:(16,32)4 1:(16,48)5 1:(32,0)1 2:(24,48)5",
                "1:(0,0)2 1:(0,32)3 1:(16,32)4 1:(16,48)5 1:(32,0)1 2:(24,48)5");
        hasPutTogether("gets nothing", f, 0, 2);
        c.due("is nobody's neighbour: of 1", f.camper(1, 5), 1);
        c.due("is nobody's neighbour: of 2", f.camper(2, 5), 1);
        c.due("gets nothing later", f.leave(1), 1);
        isLike("gets nothing later", f, "2:(0,0)0");
    }

    // ---- taken over is not put together: the document says that of the giving away by other halves alone

    private static void takenOverIsNotPutTogether() {
        TentFields f = with(8, 40, 56, 32, 32, 48);
        c.due("two halves of one camper: leave(0)", f.leave(0), 2);
        c.due("two halves of one camper: leave(1)", f.leave(1), 1);
        isLike("two halves of one camper stay two", f, "2:(0,0)1 2:(32,0)1");
        hasPutTogether("two halves of one camper stay two", f, 2, 1);
        c.due("two halves of one camper: share", f.camper(2, 3), 4096);
        c.due("two halves of one camper: no neighbour", f.camper(2, 5), 0);
    }

    // ---- "If nobody is left, the whole field is one plot of nobody at once"

    private static void nobodyIsLeft() {
        TentFields f = with(8, 40, 56, 32, 32, 48);
        c.due("nobody is left: leave(0)", f.leave(0), 2);
        c.due("nobody is left: leave(1)", f.leave(1), 1);
        isLike("nobody is left: two plots before", f, "2:(0,0)1 2:(32,0)1");
        c.due("nobody is left: leave(2)", f.leave(2), 0);
        isLike("nobody is left", f, "nobody:(0,0)0");
        c.due("nobody is left: plots", f.count(2), 1);
        c.due("nobody is left: greatest depth", f.count(4), 0);
        c.due("nobody is left: least depth", f.count(5), 0);
        c.due("nobody is left: with more than one plot", f.count(6), 0);
        c.due("nobody is left: halvings stay", f.count(7), 3);
        hasPutTogether("nothing is put together or taken over by that", f, 2, 1);
        c.due("nobody is left: loudest", f.loudest(), NONE);
        c.due("nobody is left: touching", f.plot(63, 63, 6), 0);
        c.due("nobody is left: recorded", f.undo(), 3);
        isLike("nobody is left: undone", f, "2:(0,0)1 2:(32,0)1");

        f = with(7, 7);
        c.due("the only one: leave", f.leave(0), 0);
        isLike("the only one", f, "nobody:(0,0)0");
        hasPutTogether("the only one", f, 0, 0);
        f = cut();
        f.lay(63, 63, 9);
        c.due("songs stay: leave", f.leave(1), 1);
        c.due("songs stay: leave", f.leave(0), 0);
        c.due("songs stay", f.count(3), 1);
        c.due("songs belong to nobody", f.song(0, 3), 100);
        c.due("songs belong to nobody", f.carry(0, 0, 0), 100);
    }

    private static void leaveTellsHowMany() {
        TentFields f = sixteen();
        int[] order = {8, 0, 15, 1, 14, 7, 3, 2, 4, 5, 6, 9, 13, 12, 11, 10};
        for (int turn = 0; turn < 16; turn++) {
            c.due("how many are here then", f.leave(order[turn]), 15 - turn);
            c.due("how many are here then", f.count(0), 15 - turn);
            c.due("who has left can't leave", f.leave(order[turn]), UNKNOWN);
        }
        for (int camper : NO_CAMPERS) {
            c.due("no camper leaves", f.leave(camper), UNKNOWN);
            c.due("no camper leaves a new field", new TentFields().leave(camper), UNKNOWN);
        }
        c.due("camper 0 of a new field", new TentFields().leave(0), UNKNOWN);
    }

    // ---- "(x or y unlike by 1, the other alike) at any place"

    private static void touchingAtAnyPlace() {
        TentFields f = smallest();
        c.due("(0,0) touches (0,1) and (1,0)", f.plot(0, 0, 6), 2);
        c.due("(0,1) touches (0,0), (1,1) and (0,2)", f.plot(0, 1, 6), 3);
        c.due("x 1, y 0 to 1", f.plot(1, 1, 6), 4);
        c.due("x 0 to 1, y 2 to 3", f.plot(1, 3, 6), 4);
        c.due("the right half touches (16,0) and (0,32)", f.plot(63, 63, 6), 2);
        c.due("(0,32) touches (0,16), (16,0) and (32,0)", f.plot(0, 63, 6), 3);
        f = with(0, 0, 1, 1);
        isLike("side by side at one place alone", f, "0:(0,0)11 0:(0,2)10 0:(0,4)8 0:(0,8)6 0:(0,16)4 0:(0,32)2 "
                + "0:(2,0)9 0:(4,0)7 0:(8,0)5 0:(16,0)3 0:(32,0)1 1:(1,0)11");
        c.due("(0,0) touches (1,0) and (0,2)", f.plot(0, 0, 6), 2);
        c.due("come", f.come(33, 1), 2);
        c.due("(1,0) touches (0,0), (0,2) and (2,0)", f.plot(1, 1, 6), 3);
        f = quarters();
        for (int corner = 0; corner < 4; corner++) {
            c.due("a corner is no side", f.plot((corner & 1) * 63, (corner >> 1) * 63, 6), 2);
        }
        c.due("one plot touches none", with(3, 3).plot(3, 3, 6), 0);
        c.due("halves touch by the long side", with(0, 0, 63, 63).plot(3, 3, 6), 1);
        f = with(0, 0, 40, 0, 40, 16, 40, 40, 40, 48);
        isLike("one beside five", f, "0:(0,0)1 1:(32,0)4 1:(48,0)3 1:(48,32)3 2:(32,16)4 3:(32,32)4 4:(32,48)4");
        c.due("one beside four of seven", f.plot(0, 0, 6), 4);
        c.due("(48,0) touches (32,0), (32,16) and (48,32)", f.plot(63, 0, 6), 3);
    }

    // ---- "the neighbours (campers who have a plot that touches one of these by a side)"

    private static void neighboursOfACamper() {
        TentFields f = quarters();
        for (int camper = 0; camper < 4; camper++) {
            c.due("neighbours by side alone, of " + camper, f.camper(camper, 5), 2);
        }
        f = smallest();
        c.due("no neighbour of itself", f.camper(0, 5), 1);
        c.due("no neighbour of itself", f.camper(1, 5), 1);
        c.due("nobody beside it", with(0, 0).camper(0, 5), 0);
        f = sixteen();
        c.due("14 is beside it, 12 below it", f.camper(15, 5), 2);
        f = with(0, 0, 40, 0, 40, 16, 40, 40, 40, 48);
        int[] want = {4, 4, 3, 4, 3};
        for (int camper = 0; camper < 5; camper++) {
            c.due("each camper counts once, of " + camper, f.camper(camper, 5), want[camper]);
        }
    }

    // ---- moveTent: "Returns the depth of the plot where it is then; UNKNOWN ...; NOT_POSSIBLE ...; NONE ..."

    private static void moveTentEdges() {
        TentFields f = smallest();
        int[][] own = {{1, 0, 11}, {0, 2, 10}, {2, 3, 9}, {3, 7, 8}, {7, 0, 7}, {0, 15, 6}, {8, 15, 5}, {15, 31, 4},
            {31, 31, 3}, {31, 63, 2}, {63, 63, 1}, {0, 0, 12}};
        for (int[] point : own) {
            c.due("the depth where it is then", f.moveTent(0, point[0], point[1]), point[2]);
            c.due("it is there already", f.moveTent(0, point[0], point[1]), NONE);
        }
        c.due("in the plot of another one", f.moveTent(0, 0, 1), NOT_POSSIBLE);
        c.due("in the plot of another one", f.moveTent(1, 0, 0), NOT_POSSIBLE);
        c.due("it is there already", f.moveTent(1, 0, 1), NONE);
        c.due("the same x alone", f.moveTent(0, 0, 3), 10);
        c.due("the same y alone", f.moveTent(0, 1, 3), 10);
        f = quarters();
        c.due("the last point that is its own", f.moveTent(0, 31, 31), 2);
        c.due("one more x", f.moveTent(0, 32, 31), NOT_POSSIBLE);
        c.due("one more y", f.moveTent(0, 31, 32), NOT_POSSIBLE);
        c.due("leave", f.leave(1), 3);
        c.due("what was put together is its own", f.moveTent(3, 63, 0), 1);
        c.due("who has left has no tent", f.moveTent(1, 63, 0), UNKNOWN);
        for (int camper : NO_CAMPERS) {
            c.due("no camper", f.moveTent(camper, 0, 0), UNKNOWN);
        }
    }

    // ---- handOver: "NOT_POSSIBLE if it has the tent of the camper who has it"

    private static void handOverWithTheTent() {
        TentFields f = cut();
        c.due("it has the tent, to a neighbour", f.handOver(15, 31, 1), NOT_POSSIBLE);
        c.due("it has the tent, to who has it", f.handOver(15, 31, 0), NOT_POSSIBLE);
        c.due("it has the tent, the only plot", f.handOver(16, 0, 0), NOT_POSSIBLE);
        c.due("the tent goes to another plot", f.moveTent(0, 63, 63), 1);
        c.due("then it can be handed over", f.handOver(15, 31, 1), 0);
        c.due("where the tent went", f.handOver(63, 0, 1), NOT_POSSIBLE);
        isLike("the tent's plot stays", f, "0:(0,32)2 0:(32,0)1 1:(0,0)2");
        c.due("the tent of the receiver is no hindrance", f.handOver(0, 32, 1), 0);
        isLike("put together with the plot of the tent", f, "0:(32,0)1 1:(0,0)1");
    }

    // ---- "or if it does not touch another plot, one of the camper who is told, by a side"

    private static void handOverWithoutTouching() {
        TentFields f = with(0, 0, 20, 0, 63, 63, 5, 63);
        isLike("not touching", f, "0:(0,0)3 0:(16,32)3 0:(32,0)2 1:(16,0)3 2:(32,32)2 3:(0,32)3");
        c.due("far away", f.handOver(32, 0, 3), NOT_POSSIBLE);
        c.due("by a corner alone", f.handOver(16, 63, 0), NOT_POSSIBLE);
        c.due("by a side", f.handOver(16, 63, 1), 0);
        isLike("by a side", f, "0:(0,0)3 0:(32,0)2 1:(16,0)3 1:(16,32)3 2:(32,32)2 3:(0,32)3");
        c.due("who has it already, no other one beside it", f.handOver(32, 0, 0), NOT_POSSIBLE);
        c.due("who has it already, one beside it", f.handOver(16, 63, 1), NONE);
        f = with(0, 0);
        c.due("the only plot has the tent", f.handOver(63, 63, 0), NOT_POSSIBLE);
        for (int camper : NO_CAMPERS) {
            c.due("no camper", f.handOver(0, 0, camper), UNKNOWN);
        }
        c.due("the field is of nobody", new TentFields().handOver(0, 0, 0), UNKNOWN);
        c.due("the field is of nobody again", deserted().handOver(0, 0, 0), UNKNOWN);
    }

    // ---- "NONE if this camper has it already"

    private static void handOverToWhoHasIt() {
        TentFields f = cut();
        c.due("has it, touches its own (32,0)", f.handOver(0, 63, 0), NONE);
        c.due("has it, touches its own (0,32)", f.handOver(63, 0, 0), NONE);
        c.due("nothing recorded", f.count(10), 2);
        f = quarters();
        f.leave(3);
        c.due("has it, but the tent is in it", f.handOver(63, 63, 1), NOT_POSSIBLE);
    }

    // ---- "if its other half is a plot of the same camper, both are one plot again (once)"

    private static void handOverPutsTogetherOnce() {
        TentFields f = with(63, 0, 0, 0, 63, 63);
        isLike("other half of the giver", f, "0:(32,0)2 1:(0,0)1 2:(32,32)2");
        f = smallest();
        c.due("moveTent", f.moveTent(0, 63, 63), 1);
        c.due("x 1, to 1", f.handOver(1, 0, 1), 0);
        c.due("not put together: the other half is halved", f.count(8), 0);
        c.due("(0,0), to 1", f.handOver(0, 0, 1), 0);
        isLike("(0,0) to (0,1) and x 1 are two plots", f, "0:(0,2)10 0:(0,4)8 0:(0,8)6 0:(0,16)4 0:(0,32)2 0:(2,0)9 "
                + "0:(4,0)7 0:(8,0)5 0:(16,0)3 0:(32,0)1 1:(0,0)11 1:(1,0)11");
        hasPutTogether("once", f, 1, 0);
        c.due("plots of 1", f.camper(1, 2), 2);
        c.due("points of 1", f.camper(1, 3), 4);
        c.due("handed over: (0,2)", f.handOver(0, 2, 1), 0);
        hasPutTogether("the other half is halved", f, 1, 0);
        f = cut();
        c.due("(0,32), to 1", f.handOver(0, 32, 1), 0);
        c.due("(32,0), to 1", f.handOver(32, 0, 1), 0);
        isLike("no other half is a plot of 1", f, "0:(0,0)3 1:(0,32)2 1:(16,0)3 1:(32,0)1");
        hasPutTogether("no other half is a plot of 1", f, 0, 0);
    }

    private static void handOverToAnUnlikeHalf() {
        TentFields f = quarters();
        c.due("leave", f.leave(3), 3);
        c.due("come", f.come(40, 0), 4);
        isLike("before", f, "0:(0,0)2 1:(32,32)2 1:(48,0)3 2:(0,32)2 4:(32,0)3");
        c.due("the other half is of others", f.handOver(32, 32, 2), 1);
        isLike("the other half is of others", f, "0:(0,0)2 1:(48,0)3 2:(0,32)2 2:(32,32)2 4:(32,0)3");
        hasPutTogether("the other half is of others", f, 1, 0);

        f = with(48, 0, 0, 0, 0, 63, 48, 63);
        isLike("before", f, "0:(32,0)2 1:(0,0)2 2:(0,32)2 3:(32,32)2");
        c.due("come", f.come(32, 0), 4);
        c.due("come", f.come(56, 0), 5);
        isLike("before", f, "0:(48,0)5 0:(48,16)4 1:(0,0)2 2:(0,32)2 3:(32,32)2 4:(32,0)3 5:(56,0)5");
        c.due("the other half is no plot", f.handOver(48, 16, 3), 0);
        hasPutTogether("the other half is no plot", f, 0, 0);
        c.due("come", f.come(63, 31), 6);
        isLike("before", f, "0:(48,0)5 1:(0,0)2 2:(0,32)2 3:(32,32)2 3:(48,16)5 4:(32,0)3 5:(56,0)5 6:(56,16)5");
        c.due("the other half is of a third one", f.handOver(48, 16, 0), 3);
        hasPutTogether("the other half is of a third one", f, 0, 0);
        isLike("the other half is of a third one", f,
                "0:(48,0)5 0:(48,16)5 1:(0,0)2 2:(0,32)2 3:(32,32)2 4:(32,0)3 5:(56,0)5 6:(56,16)5");
        c.due("and back, the giver's tent is elsewhere", f.handOver(48, 16, 6), 0);
        hasPutTogether("and on, to the other half's camper", f, 1, 0);
        isLike("and on, to the other half's camper", f,
                "0:(48,0)5 1:(0,0)2 2:(0,32)2 3:(32,32)2 4:(32,0)3 5:(56,0)5 6:(48,16)4");
    }

    private static void campersWithMoreThanOnePlot() {
        TentFields f = new TentFields();
        c.due("nobody with more than one plot", f.count(6), 0);
        f = with(0, 0);
        c.due("one plot is not more than one", f.count(6), 0);
        f = quarters();
        c.due("one plot is not more than one", f.count(6), 0);
        f = cut();
        c.due("three plots are", f.count(6), 1);
        c.due("handOver", f.handOver(0, 40, 1), 0);
        c.due("two plots are", f.count(6), 2);
        c.due("leave", f.leave(0), 1);
        c.due("who has left has none", f.count(6), f.camper(1, 2) > 1 ? 1 : 0);
    }

    // ---- "if its other half is a plot of the same camper": it is none, whoever the camper is

    private static void handOverToCamper0() {
        TentFields f = cut();
        c.due("the other half is halved: to 1", f.handOver(0, 40, 1), 0);
        isLike("the other half is halved: to 1", f, "0:(0,0)3 0:(32,0)1 1:(0,32)2 1:(16,0)3");
        c.due("the other half is halved: back to 0", f.handOver(0, 40, 0), 1);
        isLike("the other half is halved: back to 0", f, "0:(0,0)3 0:(0,32)2 0:(32,0)1 1:(16,0)3");
        hasPutTogether("the other half is halved", f, 0, 0);
    }

    // ---- "both are one plot again": neither of the two is told any more

    private static void plotsPutTogetherAreGone() {
        TentFields f = quarters();
        c.due("one again: leave(3)", f.leave(3), 3);
        c.due("one again: beside (0,0)", f.plot(0, 0, 6), 2);
        c.due("one again: beside (0,32)", f.plot(0, 63, 6), 2);
        c.due("one again: beside (32,0)", f.plot(63, 63, 6), 2);

        f = with(16, 0, 16, 16, 40, 0);
        c.due("four put together: leave(0)", f.leave(0), 2);
        isLike("four put together", f, "1:(0,0)1 2:(32,0)1");
        hasPutTogether("four put together", f, 4, 0);
        c.due("four put together: come(56,24)", f.come(56, 24), 3);
        c.due("four put together: come(48,32)", f.come(48, 32), 4);
        isLike("two halved again", f, "1:(0,0)1 2:(32,0)3 2:(32,32)3 3:(48,0)3 4:(48,32)3");
        int[][] way = {{1, 0, 0}, {2, 32, 32}, {4, 48, 32}, {NONE, NONE, NONE}};
        for (int step = 0; step < way.length; step++) {
            for (int what = 0; what < 3; what++) {
                c.due("two halved again: step " + step + ", " + what, f.way(1, 48, 32, step, what), way[step][what]);
            }
        }
    }
}
