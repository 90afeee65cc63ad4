/** The edges that SONGS and WAYS name, and those of loudness, loudest, share, plotOf and song. */
public final class SongWayEdgeTest extends Scenes {
    public static void main(String[] args) {
        twentySongsFrom0();
        tenths1To999();
        songsOfNobody();
        aSongBelongsToThePlotOfItsPoint();
        carryEdges();
        loudnessByRisingNumbers();
        loudnessBeginsWith0();
        theGreatestLoudness();
        ofSeveralTheLowestNumber();
        aBitLouder();
        sharesOfPoints();
        plotsByRisingX0AndY0();
        aWayToTheOwnPlot();
        aWayBeginsAtTheTent();
        aWayEndsAtThePlotOfThePoint();
        distanceIsXAndYTogether();
        distanceOutsideAlone();
        ofSeveralTheLowestX0();
        ofTheseTheLowestY0();
        aWayTouchesBySides();
        aWayOfPoints();
        stepsOfAWay();
        c.end("SongWayEdgeTest");
    }

    // ---- "There are at most 20 songs, numbered from 0 (never given again)"

    private static void twentySongsFrom0() {
        TentFields f = new TentFields();
        for (int song = 0; song < 20; song++) {
            c.due("no song of this number yet", f.song(song, 0), UNKNOWN);
            c.due("numbered from 0", f.lay(song, 63 - song, song + 1), song);
            c.due("so many songs", f.count(3), song + 1);
        }
        c.due("at most 20", f.lay(0, 0, 1), FULL);
        c.due("at most 20", f.count(3), 20);
        c.due("nothing recorded", f.count(10), 4);
        c.due("no song 20", f.song(20, 0), UNKNOWN);
        c.due("no song 20", f.carry(20, 0, 0), UNKNOWN);
        c.due("carrying makes no room", f.carry(19, 0, 0), 100);
        c.due("carrying makes no room", f.lay(1, 1, 1), FULL);
        for (int song = 0; song < 19; song++) {
            c.due("x of " + song, f.song(song, 0), song);
            c.due("y of " + song, f.song(song, 1), 63 - song);
            c.due("loudness of " + song, f.song(song, 2), bits((float) (song + 1) / 10.0f));
        }
        c.due("two songs at one point", with(5, 5).lay(5, 5, 1), 0);
        f = new TentFields();
        c.due("two songs at one point", f.lay(5, 5, 1), 0);
        c.due("two songs at one point", f.lay(5, 5, 1), 1);
    }

    // ---- "tenths: 1 to 999", "(a float: (float) tenths / 10.0f)"

    private static void tenths1To999() {
        for (int first = 1; first <= 999; first += 20) {
            TentFields f = new TentFields();
            for (int tenths = first; tenths < first + 20 && tenths <= 999; tenths++) {
                c.due("tenths " + tenths, f.lay(0, 0, tenths), tenths - first);
                c.due("bits of " + tenths, f.song(tenths - first, 2), bits((float) tenths / 10.0f));
            }
        }
        for (int tenths : new int[] {0, 1000, -1, -999, 1001, 10000, BIG, SMALL}) {
            TentFields f = new TentFields();
            c.due("tenths " + tenths, f.lay(0, 0, tenths), BAD_VALUE);
            c.due("tenths " + tenths + ": no song", f.count(3), 0);
            c.due("tenths " + tenths + ": nothing recorded", f.count(10), 0);
        }
    }

    // ---- "or to nobody"

    private static void songsOfNobody() {
        TentFields f = new TentFields();
        f.lay(63, 63, 10);
        c.due("100 if to nobody: song", f.song(0, 3), 100);
        c.due("100 if to nobody: carry", f.carry(0, 0, 63), 100);
        c.due("the field is given", f.come(5, 5), 0);
        c.due("to the first camper", f.song(0, 3), 0);
        c.due("carry to camper 0 answers 0", f.carry(0, 0, 0), 0);
        c.due("leave", f.leave(0), 0);
        c.due("to nobody again", f.song(0, 3), 100);
        c.due("carry to nobody again", f.carry(0, 1, 0), 100);
    }

    // ---- "A song belongs to the camper of the plot that has its point"

    private static void aSongBelongsToThePlotOfItsPoint() {
        TentFields f = cut();
        int[][] places = {{15, 31, 0}, {16, 31, 1}, {16, 32, 0}, {31, 0, 1}, {32, 0, 0}, {31, 32, 0}};
        for (int song = 0; song < places.length; song++) {
            f.lay(places[song][0], places[song][1], 10);
            c.due("at the edge of a plot, song " + song, f.song(song, 3), places[song][2]);
        }
        c.due("songs of 0", f.camper(0, 4), 4);
        c.due("songs of 1", f.camper(1, 4), 2);
        c.due("handOver", f.handOver(0, 32, 1), 0);
        c.due("handed over with the plot", f.song(2, 3), 1);
        c.due("songs of 0", f.camper(0, 4), 2);
        c.due("come", f.come(33, 1), 2);
        c.due("got with the plot", f.song(4, 3), 2);
        c.due("leave", f.leave(1), 2);
        c.due("given away with the plot", f.song(1, 3), f.plot(16, 31, 0));
        c.holds("given away with the plot", f.song(1, 3) != 1);
        int songs = f.camper(0, 4) + f.camper(2, 4);
        c.due("all songs are someone's", songs, 6);
    }

    private static void carryEdges() {
        TentFields f = cut();
        f.lay(20, 20, 10);
        c.due("it is there already", f.carry(0, 20, 20), NONE);
        c.due("x alone alike", f.carry(0, 20, 21), 1);
        c.due("y alone alike", f.carry(0, 15, 21), 0);
        c.due("back, across the edge", f.carry(0, 16, 21), 1);
        c.due("it is there already", f.carry(0, 16, 21), NONE);
        c.due("loudness stays", f.song(0, 2), bits(1.0f));
        for (int song : new int[] {-1, 1, 19, 20, BIG, SMALL}) {
            c.due("no such song", f.carry(song, 0, 0), UNKNOWN);
            c.due("no such song and no point", f.carry(song, 64, 0), UNKNOWN);
        }
        c.due("no song on a new field", new TentFields().carry(0, 0, 0), UNKNOWN);
    }

    // ---- "the sum of the loudness of these songs, by rising numbers"

    private static void loudnessByRisingNumbers() {
        int[][] lists = {{408, 454, 297}, {176, 382, 168, 531}};
        for (int[] list : lists) {
            float up = 0.0f;
            float down = 0.0f;
            for (int index = 0; index < list.length; index++) {
                up = up + (float) list[index] / 10.0f;
                down = down + (float) list[list.length - 1 - index] / 10.0f;
            }
            c.holds("the order can be told", up != down);
            TentFields f = with(0, 0, 63, 0);
            for (int index = 0; index < list.length; index++) {
                f.lay(63 - index, 0, list[index]);
            }
            c.due("by rising numbers", f.camper(1, 6), bits(up));
            for (int index = list.length - 1; index >= 0; index--) {
                c.due("carried over, the last one first", f.carry(index, index, 0), 0);
            }
            c.due("by rising numbers, not by when they came", f.camper(0, 6), bits(up));
            c.due("nothing is left", f.camper(1, 6), 0);
        }
    }

    // ---- "beginning with 0.0f"

    private static void loudnessBeginsWith0() {
        TentFields f = quarters();
        f.lay(63, 63, 999);
        for (int camper = 0; camper < 3; camper++) {
            c.due("no song is 0.0f", f.camper(camper, 6), 0);
        }
        c.due("one song", f.camper(3, 6), bits(99.9f));
        f = with(0, 0);
        float sum = 0.0f;
        for (int song = 0; song < 20; song++) {
            f.lay(song, 0, 999);
            sum = sum + 99.9f;
            c.due("twenty of the loudest", f.camper(0, 6), bits(sum));
        }
        f = with(0, 0);
        sum = 0.0f;
        for (int song = 0; song < 20; song++) {
            f.lay(song, 0, 1);
            sum = sum + 0.1f;
            c.due("twenty of the least loud", f.camper(0, 6), bits(sum));
        }
        int[] whole = {10, 10, 20, 40, 80, 160, 320, 640, 960};
        f = with(0, 0);
        sum = 0.0f;
        for (int song = 0; song < whole.length; song++) {
            f.lay(0, song, whole[song]);
            sum = sum + (float) whole[song] / 10.0f;
            c.due("powers of two", f.camper(0, 6), bits(sum));
        }
    }

    // ---- loudest: "the camper with the greatest loudness, of several the lowest number; NONE if nobody ..."

    private static void theGreatestLoudness() {
        TentFields f = new TentFields();
        c.due("nobody has come", f.loudest(), NONE);
        f.lay(0, 0, 999);
        c.due("a song, but nobody", f.loudest(), NONE);
        c.due("come", f.come(63, 63), 0);
        c.due("the only one", f.loudest(), 0);
        c.due("leave", f.leave(0), 0);
        c.due("nobody is left", f.loudest(), NONE);
        c.due("deserted", deserted().loudest(), NONE);
        f = sixteen();
        for (int camper = 15; camper >= 0; camper--) {
            f.lay(camper * 4, 0, 20 - camper);
            c.due("each in its turn", f.loudest(), camper);
        }
        f = sixteen();
        for (int camper = 0; camper < 16; camper++) {
            f.lay(camper * 4, 0, 1 + camper);
            c.due("each in its turn", f.loudest(), camper);
        }
    }

    private static void ofSeveralTheLowestNumber() {
        TentFields f = quarters();
        c.due("all silent", f.loudest(), 0);
        c.due("leave", f.leave(0), 3);
        c.due("all silent, 0 has left", f.loudest(), 1);
        c.due("leave", f.leave(1), 2);
        c.due("all silent, 1 has left", f.loudest(), 2);
        f = quarters();
        f.lay(63, 63, 10);
        f.lay(0, 63, 10);
        c.due("2 and 3 alike", f.loudest(), 2);
        f.lay(63, 0, 5);
        f.lay(62, 0, 5);
        c.due("1 alike with two songs", f.loudest(), 1);
    }

    private static void aBitLouder() {
        TentFields f = with(0, 0, 63, 0);
        f.lay(0, 0, 7);
        f.lay(63, 0, 1);
        f.lay(63, 1, 6);
        c.holds("as floats they are unlike", 0.1f + 0.6f > 0.7f);
        c.due("0.1f + 0.6f is louder than 0.7f", f.loudest(), 1);
    }

    // ---- share: "(float) (the points) / 4096.0f; -1.0f if there is no such camper"

    private static void sharesOfPoints() {
        for (int depth = 1; depth <= 12; depth++) {
            int x = depth % 2 == 1 ? 64 >> (depth + 1) / 2 : 0;
            int y = depth % 2 == 0 ? 64 >> depth / 2 : 0;
            TentFields f = with(0, 0, x, y);
            c.dueFloat("share of depth " + depth, f.share(1), (float) (4096 >> depth) / 4096.0f);
            c.dueFloat("share of the rest", f.share(0), (float) (4096 - (4096 >> depth)) / 4096.0f);
        }
        for (int camper : NO_CAMPERS) {
            c.dueFloat("no such camper", cut().share(camper), -1.0f);
            c.dueFloat("no such camper", new TentFields().share(camper), -1.0f);
        }
        c.dueFloat("camper 0 of a new field", new TentFields().share(0), -1.0f);
        TentFields f = with(1, 1);
        c.dueFloat("all of it", f.share(0), 1.0f);
        f.leave(0);
        c.dueFloat("has left", f.share(0), -1.0f);
    }

    // ---- plotOf: "by rising x0, of several by rising y0"

    private static void plotsByRisingX0AndY0() {
        TentFields f = with(63, 63, 62, 63);
        isLike("seen from the other corner", f, "0:(0,0)1 0:(32,0)2 0:(32,32)3 0:(48,32)4 0:(48,48)5 0:(56,48)6 0:(56,56)7 "
                + "0:(60,56)8 0:(60,60)9 0:(62,60)10 0:(63,62)11 1:(62,62)11");
        f = with(63, 0, 62, 0);
        isLike("lower x0 before lower y0", f, "0:(0,0)1 0:(32,0)3 0:(32,32)2 0:(48,0)5 0:(48,16)4 0:(56,0)7 0:(56,8)6 "
                + "0:(60,0)9 0:(60,4)8 0:(62,2)10 0:(63,0)11 1:(62,0)11");
        c.due("twelve ranks 0 to 10", f.plotOf(0, 10, 0), 63);
        c.due("not so many", f.plotOf(0, 11, 0), NONE);
        c.due("not so many", f.plotOf(1, 1, 0), NONE);
        c.due("not so many", f.plotOf(1, BIG, 0), NONE);
        c.due("rank is negative", f.plotOf(1, -1, 0), BAD_VALUE);
        c.due("rank is negative", f.plotOf(1, SMALL, 0), BAD_VALUE);
    }

    // ---- WAYS

    /** A way as "camper:(x0,y0)" for each step, until there are no more. */
    private static String wayOf(TentFields f, int camper, int x, int y) {
        StringBuilder text = new StringBuilder();
        for (int step = 0; step < 64 && f.way(camper, x, y, step, 0) >= 0; step++) {
            text.append(step == 0 ? "" : " ").append(f.way(camper, x, y, step, 0)).append(":(")
                    .append(f.way(camper, x, y, step, 1)).append(",").append(f.way(camper, x, y, step, 2)).append(")");
        }
        return text.toString();
    }

    private static void isWay(String sentence, TentFields f, int camper, int x, int y, String way) {
        c.dueText(sentence + ": way(" + camper + "," + x + "," + y + ")", wayOf(f, camper, x, y), way);
        int plots = way.split(" ").length;
        for (int what = 0; what < 3; what++) {
            c.holds(sentence + ": the last step", f.way(camper, x, y, plots - 1, what) >= 0);
            c.due(sentence + ": one step more", f.way(camper, x, y, plots, what), NONE);
        }
    }

    // ---- "as long as the plot has not the point"

    private static void aWayToTheOwnPlot() {
        TentFields f = quarters();
        isWay("the plot has the point", f, 0, 0, 0, "0:(0,0)");
        isWay("the plot has the point, its last one", f, 0, 31, 31, "0:(0,0)");
        isWay("one x further", f, 0, 32, 31, "0:(0,0) 1:(32,0)");
        isWay("one y further", f, 0, 31, 32, "0:(0,0) 2:(0,32)");
        isWay("one plot alone", with(9, 9), 0, 63, 63, "0:(0,0)");
    }

    // ---- "A way from a camper begins at the plot that has the tent."

    private static void aWayBeginsAtTheTent() {
        TentFields f = cut();
        isWay("at the tent", f, 0, 20, 0, "0:(0,0) 1:(16,0)");
        c.due("moveTent", f.moveTent(0, 5, 40), 2);
        isWay("at the tent", f, 0, 20, 0, "0:(0,32) 1:(16,0)");
        c.due("moveTent", f.moveTent(0, 40, 40), 1);
        isWay("at the tent", f, 0, 20, 0, "0:(32,0) 1:(16,0)");
        isWay("to another own plot", f, 0, 0, 0, "0:(32,0) 1:(16,0) 0:(0,0)");
    }

    private static void aWayEndsAtThePlotOfThePoint() {
        for (int x = 0; x < 64; x += 3) {
            TentFields f = with(20, 20, 24, 48, 40, 16, 21, 22, 63, 63);
            int y = x * 37 % 64;
            for (int camper = 0; camper < 5; camper++) {
                int last = 0;
                while (last < 40 && f.way(camper, x, y, last + 1, 0) >= 0) {
                    last++;
                }
                c.due("the last plot's camper", f.way(camper, x, y, last, 0), f.plot(x, y, 0));
                c.due("the last plot's x0", f.way(camper, x, y, last, 1), f.plot(x, y, 2));
                c.due("the last plot's y0", f.way(camper, x, y, last, 2), f.plot(x, y, 3));
            }
        }
    }

    // ---- "by how much x of the point is outside of x0 to x1 ..., and y likewise, together"

    private static void distanceIsXAndYTogether() {
        TentFields f = with(0, 56, 24, 48);
        isWay("18 and 9 is more than 18 and 0", f, 0, 49, 40, "0:(0,32) 1:(16,32) 0:(32,0)");
        f = with(56, 24, 48, 16);
        isWay("neither the greater one nor squares", f, 0, 30, 15, "0:(56,16) 0:(48,0) 0:(32,0) 0:(0,0)");
        f = with(8, 56, 16, 56);
        isWay("x is not all", f, 0, 40, 36, "0:(0,32) 1:(16,32) 0:(32,0)");
        f = with(48, 0, 56, 24);
        isWay("y is not all", f, 0, 57, 22, "0:(48,0) 1:(48,16)");
    }

    // ---- "outside of x0 to x1 (0 if it is not)"

    private static void distanceOutsideAlone() {
        TentFields f = with(48, 0, 56, 24);
        isWay("not from the middle", f, 0, 45, 56, "0:(48,0) 0:(32,0) 0:(32,32)");
        isWay("not from the corner", f, 0, 46, 17, "0:(48,0) 0:(32,0)");
        f = with(56, 24, 48, 16);
        isWay("0 if it is not outside, no less", f, 0, 1, 16, "0:(56,16) 0:(32,32) 0:(0,0)");
        f = with(40, 56, 40, 40);
        isWay("0 if it is not outside, no more", f, 1, 55, 32, "1:(32,32) 0:(48,32)");
        f = with(16, 48, 16, 56);
        isWay("x and y count alike", f, 1, 27, 39, "1:(16,56) 0:(24,48) 0:(16,32)");
        f = with(40, 40, 40, 24, 16, 40, 40, 52);
        isLike("four campers", f, "0:(0,0)2 0:(32,32)4 0:(48,32)3 1:(32,0)2 2:(0,32)2 3:(32,48)4");
        isWay("to the right and up", f, 3, 60, 0, "3:(32,48) 0:(48,32) 1:(32,0)");
        isWay("to the left and up", f, 3, 0, 0, "3:(32,48) 2:(0,32) 0:(0,0)");
        isWay("up alone", f, 3, 40, 3, "3:(32,48) 0:(32,32) 1:(32,0)");
        isWay("right alone", f, 3, 63, 63, "3:(32,48) 0:(48,32)");
        isWay("down, 8 beside it, not 16 above it", f, 1, 40, 63, "1:(32,0) 0:(48,32) 3:(32,48)");
    }

    // ---- "of several the one with the lowest x0"

    private static void ofSeveralTheLowestX0() {
        TentFields f = quarters();
        isWay("the lowest x0, not the lowest y0", f, 0, 63, 63, "0:(0,0) 2:(0,32) 3:(32,32)");
        isWay("the lowest x0", f, 3, 0, 0, "3:(32,32) 2:(0,32) 0:(0,0)");
        isWay("the lowest x0", f, 1, 0, 63, "1:(32,0) 0:(0,0) 2:(0,32)");
        isWay("the lowest x0", f, 2, 63, 0, "2:(0,32) 0:(0,0) 1:(32,0)");
        f = with(16, 48, 16, 56);
        isWay("the lowest x0, deep", f, 1, 51, 22, "1:(16,56) 0:(0,32) 0:(0,0) 0:(32,0)");
        f = with(24, 48, 24, 40);
        isWay("not the lowest number", f, 0, 19, 19, "0:(16,48) 1:(16,32) 0:(0,0)");
        f = with(24, 48, 24, 56);
        isWay("not the lowest depth", f, 1, 19, 35, "1:(24,56) 0:(16,48) 0:(16,32)");
        f = with(24, 32, 24, 48);
        isWay("not the lowest y0", f, 1, 25, 25, "1:(16,48) 0:(16,32) 0:(0,0)");
    }

    // ---- "of these the one with the lowest y0"

    private static void ofTheseTheLowestY0() {
        TentFields f = with(0, 0, 63, 63, 63, 0, 40, 0);
        isLike("top right is halved", f, "0:(0,0)1 1:(32,32)2 2:(48,0)3 3:(32,0)3");
        isWay("the lowest y0 is nearer in x", f, 0, 48, 31, "0:(0,0) 3:(32,0) 2:(48,0)");
        f = with(0, 0, 63, 0, 63, 63, 40, 63);
        isLike("bottom right is halved", f, "0:(0,0)1 1:(32,0)2 2:(48,32)3 3:(32,32)3");
        isWay("the lowest y0 is nearer in y", f, 0, 48, 32, "0:(0,0) 1:(32,0) 2:(48,32)");
        f = with(32, 16, 32, 24, 16, 40);
        isWay("the lowest y0 on the way", f, 2, 42, 18, "2:(0,32) 0:(0,0) 0:(32,0) 0:(40,16)");
    }

    // ---- "to the plot that touches it by a side"

    private static void aWayTouchesBySides() {
        TentFields f = quarters();
        isWay("no step by a corner", f, 0, 32, 32, "0:(0,0) 2:(0,32) 3:(32,32)");
        isWay("no step by a corner", f, 3, 31, 31, "3:(32,32) 2:(0,32) 0:(0,0)");
        isWay("no step by a corner", f, 1, 31, 32, "1:(32,0) 0:(0,0) 2:(0,32)");
    }

    private static void aWayOfPoints() {
        TentFields f = smallest();
        isWay("between two points", f, 0, 0, 1, "0:(0,0) 1:(0,1)");
        isWay("between two points", f, 1, 0, 0, "1:(0,1) 0:(0,0)");
        isWay("from a point to the end", f, 0, 63, 63, "0:(0,0) 0:(1,0) 0:(2,0) 0:(4,0) 0:(8,0) 0:(16,0) 0:(32,0)");
        isWay("from a point down", f, 0, 0, 63, "0:(0,0) 1:(0,1) 0:(0,2) 0:(0,4) 0:(0,8) 0:(0,16) 0:(0,32)");
        isWay("from a point beside", f, 1, 1, 1, "1:(0,1) 0:(1,0)");
        f = crowded();
        String way = wayOf(f, 1, 63, 63);
        c.holds("a long way begins at the tent: " + way, way.startsWith("1:(0,1) "));
        c.holds("a long way ends at the point: " + way, way.endsWith(" 0:(48,48)"));
    }

    // ---- "step: 0 for the first plot, 1 for the next one"; "NONE if the way has not so many plots"

    private static void stepsOfAWay() {
        TentFields f = quarters();
        for (int step : new int[] {3, 4, 100, 180, 181, 182, 4096, BIG}) {
            for (int what = 0; what < 3; what++) {
                c.due("step " + step, f.way(0, 63, 63, step, what), NONE);
            }
        }
        for (int step : new int[] {-1, -2, SMALL}) {
            c.due("step " + step, f.way(0, 63, 63, step, 0), BAD_VALUE);
        }
        for (int what : new int[] {-1, 3, BIG, SMALL}) {
            c.due("what " + what, f.way(0, 63, 63, 0, what), BAD_VALUE);
            c.due("what " + what + " behind the end", f.way(0, 63, 63, 99, what), BAD_VALUE);
        }
        for (int camper : NO_CAMPERS) {
            c.due("no camper", f.way(camper, 0, 0, 0, 0), UNKNOWN);
        }
        f.leave(3);
        c.due("has left", f.way(3, 0, 0, 0, 0), UNKNOWN);
    }
}
