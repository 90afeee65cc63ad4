/** The edges that TEXTS and HISTORY name: faults of texts, comeAll, undo and the snapshot. */
public final class TextHistoryEdgeTest extends Scenes {
    public static void main(String[] args) {
        theTextIsEmptyAtFirst();
        sixtyCharacters();
        sixtyCharactersOfCampers();
        anyCharacterIsTyped();
        numbers0To63();
        noZeroInFront();
        greaterThan63();
        twoNumbersForEachCamper();
        everyCharacterAtEveryPlace();
        endsTooEarly();
        allOfThemOrNone();
        theFirstErrorInTurn();
        faultsBeforeErrors();
        theTextStays();
        fourStates();
        theOldestIsDropped();
        eachActRecords();
        noActRecordsNothing();
        undoIsNotRecorded();
        allButTheText();
        allButTheHistory();
        allButTheSnapshot();
        theWholeStateComesBack();
        oneSnapshot();
        restoreIsAnAct();
        numbersComeAgainWithTheState();
        whatUndoTookAwayIsGone();
        clearedCharactersAreGone();
        c.end("TextHistoryEdgeTest");
    }

    // ---- TEXTS

    private static void isFault(String text, int fault) {
        TentFields f = typed(text);
        c.due("fault of '" + text + "'", f.comeAll(), -100 - fault);
        c.due("fault of '" + text + "': nobody came", f.count(1), 0);
        c.due("fault of '" + text + "': nothing recorded", f.count(10), 0);
        c.due("fault of '" + text + "': it stays", f.count(11), text.length());
    }

    private static void isText(String text, int campers) {
        TentFields f = typed(text);
        c.due("campers of '" + text + "'", f.comeAll(), campers);
        c.due("campers of '" + text + "': they came", f.count(0), campers);
        c.due("campers of '" + text + "': one act", f.count(10), 1);
        c.due("campers of '" + text + "': it stays", f.count(11), text.length());
    }

    // ---- "There is a text of at most 60 characters, empty at first."

    private static void theTextIsEmptyAtFirst() {
        TentFields f = new TentFields();
        c.due("empty at first", f.count(11), 0);
        c.due("empty at first", f.clearText(), 0);
        c.due("the empty text ends too early", f.comeAll(), -100);
        c.due("the first character", f.type('5'), 1);
        c.due("one was there", f.clearText(), 1);
        c.due("empty again", f.clearText(), 0);
        c.due("empty again", f.count(11), 0);
        c.due("empty again", f.comeAll(), -100);
    }

    private static void sixtyCharacters() {
        TentFields f = new TentFields();
        for (int length = 1; length <= 60; length++) {
            c.due("the length then", f.type('7'), length);
            c.due("the length then", f.count(11), length);
        }
        for (char character : new char[] {'0', ';', ',', (char) 0, (char) 65535}) {
            c.due("it has 60", f.type(character), FULL);
        }
        c.due("it has 60", f.count(11), 60);
        c.due("the fault is the second 7", f.comeAll(), -101);
        c.due("the length that it had", f.clearText(), 60);
        c.due("room again", f.type('7'), 1);
    }

    private static void sixtyCharactersOfCampers() {
        String fifteen = "0,0;1,1;2,2;3,3;4,4;5,5;6,6;7,7;8,8;9,9;0,9;9,0;3,7;7,3;10,5";
        c.due("60 characters", fifteen.length(), 60);
        TentFields f = typed(fifteen);
        c.due("one more is refused", f.type('0'), FULL);
        c.due("fifteen campers of 60 characters", f.comeAll(), 15);
        c.due("the last one's x", f.camper(14, 0), 10);
        c.due("the last one's y", f.camper(14, 1), 5);
        isFault("10,10;20,20;30,30;40,40;50,50;60,60;11,11;22,22;33,33;44,44;", 60);
        isFault("10,10;20,20;30,30;40,40;50,50;60,60;11,11;22,22;33,33;44,44,", 59);
        isFault("10,10;20,20;30,30;40,40;50,50;60,60;11,11;22,22;33,33;9,4;63", 60);
        isFault("10,10;20,20;30,30;40,40;50,50;60,60;11,11;22,22;33,33;9,4;64", 59);
        isFault("10,10;20,20;30,30;40,40;50,50;60,60;11,11;22,22;33,33;9,4;6,", 60);
    }

    // ---- type: "character: any character"

    private static void anyCharacterIsTyped() {
        for (char character : new char[] {0, 1, ' ', '\n', 127, 128, 255, 256, 0x130, 0x661, 0xD800, 0xFF11, 65535}) {
            TentFields f = new TentFields();
            c.due("character " + (int) character, f.type(character), 1);
            c.due("character " + (int) character + " is not allowed", f.comeAll(), -100);
        }
        for (int over = 256; over < 65536; over += 256) {
            TentFields f = new TentFields();
            f.type((char) (over + '1'));
            c.due("its low byte is a digit, it is none", f.comeAll(), -100);
            f.clearText();
            f.type('1');
            f.type((char) (over + ','));
            c.due("its low byte is a comma, it is none", f.comeAll(), -101);
        }
    }

    // ---- "x (0 to 63), "," and y (0 to 63)"

    private static void numbers0To63() {
        for (int number = 0; number < 64; number++) {
            TentFields f = typed(number + ",5;5," + number);
            int campers = number == 5 ? NOT_POSSIBLE : 2;
            c.due("number " + number, f.comeAll(), campers);
            if (campers == 2) {
                c.due("x " + number, f.camper(0, 0), number);
                c.due("its y", f.camper(0, 1), 5);
                c.due("its x", f.camper(1, 0), 5);
                c.due("y " + number, f.camper(1, 1), number);
            }
        }
        isText("0,0", 1);
        isText("63,63", 1);
        isText("0,63;63,0", 2);
    }

    // ---- "Numbers have no zero in front, unless it is the single digit 0"

    private static void noZeroInFront() {
        for (char digit = '0'; digit <= '9'; digit++) {
            isFault("0" + digit, 1);
            isFault("0" + digit + ",1", 1);
            isFault("1,0" + digit, 3);
            isFault("1,0" + digit + ";1,1", 3);
            isFault("1,1;0" + digit, 5);
            isFault("1,1;1,0" + digit, 7);
        }
        isText("0,0;10,20;30,40;50,60", 4);
    }

    // ---- "a digit by which a number would be greater than 63 is not allowed"

    private static void greaterThan63() {
        for (int number = 64; number < 100; number++) {
            isFault(number + ",1", 1);
            isFault("1," + number, 3);
            isFault("1,1;2," + number, 7);
        }
        for (int number = 10; number < 64; number++) {
            isFault(number + "0,1", 2);
            isFault("1," + number + "9", 4);
            isFault("1,1;" + number + "5", 6);
        }
        isFault("1000000000,1", 2);
        isFault("4294967296,1", 2);
        isFault("1,99999999999999999999999", 3);
        isFault("6", 1);
        isFault("64", 1);
    }

    private static void twoNumbersForEachCamper() {
        isFault("1;2", 1);
        isFault("1,2,3", 3);
        isFault("1,2;3;4", 5);
        isFault(",1", 0);
        isFault(";1,2", 0);
        isFault("1,,2", 2);
        isFault("1,;2", 2);
        isFault("1,2;;3,4", 4);
        isFault("1,2;,4", 4);
        isFault("-1,2", 0);
        isFault("+1,2", 0);
        isFault("1, 2", 2);
        isFault("1,2; 3,4", 4);
        isFault("1,2 ;3,4", 3);
        isFault("x", 0);
    }

    // ---- "the index, from 0, of the first character that is not allowed at its place"

    private static void everyCharacterAtEveryPlace() {
        String[] texts = {"1,2", "10,63;0,7", "6,0;63,5;40,41", "0,0;0,1"};
        for (String text : texts) {
            for (int place = 0; place <= text.length(); place++) {
                for (int character = 0; character < 270; character++) {
                    StringBuilder other = new StringBuilder(text);
                    if (place < text.length()) {
                        other.setCharAt(place, (char) character);
                    } else {
                        other.append((char) character);
                    }
                    isAsTheSlowFieldSays(other.toString());
                }
            }
        }
    }

    private static void isAsTheSlowFieldSays(String text) {
        TentFields f = typed(text);
        int fault = SlowField.fault(text);
        int answer = f.comeAll();
        if (fault >= 0) {
            c.due("fault of '" + text + "'", answer, -100 - fault);
        } else {
            c.holds("no fault in '" + text + "'", answer > 0 || answer == NOT_POSSIBLE);
        }
    }

    // ---- "or the length of the text if it ends too early (the empty text does)"

    private static void endsTooEarly() {
        String text = "10,63;0,7;5,60";
        int[] faults = {0, 1, 2, 3, -1, -1, 6, 7, 8, -1, 10, 11, 12, -1, -1};
        for (int length = 0; length <= text.length(); length++) {
            String part = text.substring(0, length);
            if (faults[length] >= 0) {
                isFault(part, length);
            } else {
                isText(part, part.split(";").length);
            }
        }
    }

    // ---- comeAll: "one after the other; all of them, or none. This is one act."

    private static void allOfThemOrNone() {
        TentFields f = typed("0,0;20,0;40,40");
        c.due("all come", f.comeAll(), 3);
        isLike("one after the other", f, "0:(0,0)3 0:(0,32)2 0:(32,0)2 1:(16,0)3 2:(32,32)2");
        c.due("halvings", f.count(7), 4);
        c.due("one act", f.count(10), 1);
        write(f, "63,63;0,1;20,0;5,5");
        c.due("the third one can't", f.comeAll(), NOT_POSSIBLE);
        isLike("none of them came", f, "0:(0,0)3 0:(0,32)2 0:(32,0)2 1:(16,0)3 2:(32,32)2");
        c.due("none: halvings", f.count(7), 4);
        c.due("none: so far", f.count(1), 3);
        c.due("none: recorded", f.count(10), 1);
        c.due("undo takes all away", f.undo(), 0);
        isLike("undo takes all away", f, "nobody:(0,0)0");
        isText("9,9", 1);
        TentFields g = typed("9,9;9,9");
        c.due("one of the same text has the point", g.comeAll(), NOT_POSSIBLE);
        isLike("none came", g, "nobody:(0,0)0");
        c.due("none: so far", g.count(1), 0);
        c.due("none: halvings", g.count(7), 0);
        TentFields h = deserted();
        write(h, "1,1");
        c.due("sixteen have come and left", h.comeAll(), FULL);
    }

    // ---- "otherwise the error that come() returns for the first one that has one when its turn comes"

    private static void theFirstErrorInTurn() {
        TentFields f = typed("0,63;4,63;8,63");
        for (int camper = 0; camper < 14; camper++) {
            f.come(camper * 4, 0);
        }
        c.due("the third has no room", f.comeAll(), FULL);
        write(f, "0,63;0,0;8,63");
        c.due("the second can't, before the third has no room", f.comeAll(), NOT_POSSIBLE);
        write(f, "0,63;4,63;0,0");
        c.due("no room for the third, who couldn't either", f.comeAll(), FULL);
        write(f, "0,63;4,63");
        c.due("room for two", f.comeAll(), 2);
        c.due("sixteen", f.count(1), 16);
        write(f, "0,0");
        c.due("no room before not possible", f.comeAll(), FULL);
        TentFields g = smallest();
        g.moveTent(0, 63, 63);
        write(g, "1,1;0,0;5,5");
        c.due("the depth 12", g.comeAll(), NOT_POSSIBLE);
        c.due("none came", g.count(1), 2);
        write(g, "1,1;1,0;5,5");
        c.due("the first one makes the depth 12 of the second", g.comeAll(), NOT_POSSIBLE);
        c.due("none came", g.plot(1, 1, 1), 11);
        write(g, "1,1;5,5");
        c.due("both come", g.comeAll(), 2);
        c.due("halved once", g.plot(1, 0, 1) + g.plot(1, 1, 1), 24);
    }

    private static void faultsBeforeErrors() {
        TentFields f = full();
        write(f, "0,0;");
        c.due("a fault before FULL", f.comeAll(), -104);
        write(f, "");
        c.due("the empty text before FULL", f.comeAll(), -100);
        f = with(5, 5);
        write(f, "5,5;x");
        c.due("a fault before NOT_POSSIBLE", f.comeAll(), -104);
        write(f, "5,5");
        c.due("NOT_POSSIBLE", f.comeAll(), NOT_POSSIBLE);
    }

    // ---- "The campers of the text, which stays"

    private static void theTextStays() {
        TentFields f = typed("0,0;63,63");
        c.due("once", f.comeAll(), 2);
        c.due("it stays", f.count(11), 9);
        c.due("it stays behind an error", f.comeAll(), NOT_POSSIBLE);
        c.due("it stays behind an error", f.count(11), 9);
        c.due("undo", f.undo(), 0);
        c.due("twice", f.comeAll(), 2);
        c.due("a character behind it", f.type('x'), 10);
        c.due("it stays behind a fault", f.comeAll(), -109);
        c.due("the length that it had", f.clearText(), 10);
    }

    // ---- HISTORY: "A history of at most 4 states is kept"

    private static void fourStates() {
        TentFields f = new TentFields();
        c.due("empty", f.undo(), NONE);
        c.due("empty", f.count(10), 0);
        for (int act = 0; act < 9; act++) {
            c.due("lay", f.lay(act, 0, 1), act);
            c.due("at most 4", f.count(10), act < 4 ? act + 1 : 4);
        }
        for (int left = 3; left >= 0; left--) {
            c.due("states that are left", f.undo(), left);
            c.due("states that are left", f.count(10), left);
            c.due("the latest one", f.count(3), 5 + left);
        }
        for (int again = 0; again < 3; again++) {
            c.due("empty", f.undo(), NONE);
            c.due("nothing changes", f.count(3), 5);
        }
    }

    // ---- "when one more is recorded, the oldest one is dropped"

    private static void theOldestIsDropped() {
        for (int acts = 0; acts <= 11; acts++) {
            for (int back = 0; back <= 5; back++) {
                TentFields f = new TentFields();
                for (int act = 0; act < acts; act++) {
                    f.lay(act, 0, 1);
                }
                int states = Math.min(acts, 4);
                for (int turn = 0; turn < back; turn++) {
                    c.due("undo of " + acts, f.undo(), turn < states ? states - 1 - turn : NONE);
                }
                int songs = acts - Math.min(back, states);
                c.due(back + " undos of " + acts, f.count(3), songs);
                c.due("the next number", f.lay(63, 63, 1), songs);
                c.due("recorded again", f.count(10), Math.min(4, Math.max(0, states - back) + 1));
                c.due("undone again", f.undo(), Math.min(3, Math.max(0, states - back)));
                c.due("songs then", f.count(3), songs);
            }
        }
    }

    // ---- "Each call of a method that is described as an act ... records the state that was before it."

    private static void eachActRecords() {
        TentFields f = new TentFields();
        recorded("come", f, f.come(0, 0), 0);
        f.undo();
        write(f, "0,0;20,0");
        recorded("comeAll", f, f.comeAll(), 2);
        f = cut();
        f.undo();
        f.undo();
        write(f, "0,0;20,0");
        f.comeAll();
        f.keep();
        f.undo();
        c.due("restore", f.restore(), 2);
        c.due("restore records", f.count(10), 1);
        c.due("moveTent", f.moveTent(0, 5, 5), 3);
        c.due("moveTent records", f.count(10), 2);
        c.due("handOver", f.handOver(0, 40, 1), 0);
        c.due("handOver records", f.count(10), 3);
        c.due("lay", f.lay(5, 5, 5), 0);
        c.due("lay records", f.count(10), 4);
        c.due("undo lay", f.undo(), 3);
        c.due("undo lay", f.count(3), 0);
        c.due("undo handOver", f.undo(), 2);
        c.due("undo handOver", f.plot(0, 40, 0), 0);
        c.due("undo moveTent", f.undo(), 1);
        c.due("undo moveTent", f.camper(0, 0) + f.camper(0, 1), 0);
        c.due("undo restore", f.undo(), 0);
        c.due("undo restore", f.count(1), 0);
        f.restore();
        f.lay(5, 5, 5);
        c.due("carry", f.carry(0, 5, 6), 0);
        c.due("carry records", f.count(10), 3);
        c.due("leave", f.leave(0), 1);
        c.due("leave records", f.count(10), 4);
        c.due("undo leave", f.undo(), 3);
        c.due("undo leave", f.count(0), 2);
        c.due("undo carry", f.undo(), 2);
        c.due("undo carry", f.song(0, 1), 5);
    }

    private static void recorded(String act, TentFields f, int answer, int due) {
        c.due(act, answer, due);
        c.due(act + " records once", f.count(10), 1);
    }

    private static void noActRecordsNothing() {
        TentFields f = cut();
        f.lay(1, 1, 1);
        f.type('1');
        f.clearText();
        f.keep();
        f.plot(0, 0, 6);
        f.camper(0, 5);
        f.plotOf(0, 2, 2);
        f.song(0, 3);
        f.way(0, 63, 63, 1, 0);
        f.would(50, 50, 1);
        f.loudest();
        f.share(0);
        f.count(2);
        c.due("no act", f.count(10), 3);
        c.due("undo is none either", f.undo(), 2);
        c.due("the song is undone", f.count(3), 0);
    }

    // ---- "undo() removes and restores the latest one": it can't be undone itself

    private static void undoIsNotRecorded() {
        TentFields f = new TentFields();
        f.lay(0, 0, 1);
        f.lay(1, 0, 1);
        c.due("undo", f.undo(), 1);
        c.due("undo goes on back", f.undo(), 0);
        c.due("to the beginning", f.count(3), 0);
        c.due("and no further", f.undo(), NONE);
    }

    // ---- "A state is everything but the text, the history and the snapshot."

    private static void allButTheText() {
        TentFields f = new TentFields();
        f.come(0, 0);
        write(f, "5,5");
        f.keep();
        f.come(9, 9);
        f.type('x');
        c.due("undo", f.undo(), 1);
        c.due("undo leaves the text", f.count(11), 4);
        c.due("undo leaves the text", f.comeAll(), -103);
        f.clearText();
        c.due("restore", f.restore(), 1);
        c.due("restore leaves the text", f.count(11), 0);
        c.due("undo", f.undo(), 1);
        c.due("undo leaves the text empty", f.count(11), 0);
    }

    private static void allButTheHistory() {
        TentFields f = new TentFields();
        for (int song = 0; song < 4; song++) {
            f.lay(song, 0, 1);
        }
        f.keep();
        f.undo();
        f.undo();
        f.undo();
        c.due("one state is left", f.count(10), 1);
        c.due("restore", f.restore(), 0);
        c.due("the snapshot brings no history", f.count(10), 2);
        c.due("undo", f.undo(), 1);
        c.due("the state before it", f.count(3), 1);
        c.due("undo", f.undo(), 0);
        c.due("the state before the first song", f.count(3), 0);
    }

    private static void allButTheSnapshot() {
        TentFields f = new TentFields();
        f.lay(0, 0, 1);
        f.keep();
        c.due("undo", f.undo(), 0);
        c.due("the snapshot is there though it was made later", f.restore(), 0);
        c.due("the song is back", f.count(3), 1);
        f.lay(1, 1, 1);
        f.keep();
        f.undo();
        f.restore();
        c.due("the newer snapshot", f.count(3), 2);
        f.undo();
        c.due("undo of restore", f.count(3), 1);
        f.restore();
        c.due("undo leaves the snapshot", f.count(3), 2);
    }

    /** Each of the numbers that a state has, once by undo and once by restore. */
    private static void theWholeStateComesBack() {
        for (int way = 0; way < 2; way++) {
            TentFields f = with(8, 40, 56, 32, 32, 48);
            f.lay(10, 20, 30);
            c.due("leave", f.leave(0), 2);
            hasPutTogether("before", f, 0, 1);
            f.keep();
            if (way == 0) {
                c.due("come", f.come(63, 0), 3);
            } else {
                f.come(63, 0);
                f.leave(1);
                f.moveTent(2, 0, 63);
                f.carry(0, 11, 21);
                f.lay(1, 2, 3);
            }
            c.due("the way back", way == 0 ? f.undo() : f.restore(), way == 0 ? 3 : 2);
            isLike("plots", f, "1:(32,0)2 1:(48,32)3 2:(0,0)1 2:(32,32)3");
            int[] want = {2, 3, 4, 1, 3, 1, 2, 3, 0, 1};
            for (int what = 0; what < want.length; what++) {
                c.due("count(" + what + ")", f.count(what), want[what]);
            }
            int[] tents = {56, 32, 32, 48};
            for (int index = 0; index < 4; index++) {
                c.due("tents", f.camper(1 + index / 2, index % 2), tents[index]);
            }
            c.due("who has left", f.camper(0, 0), UNKNOWN);
            c.due("song x", f.song(0, 0), 10);
            c.due("song y", f.song(0, 1), 20);
            c.due("song loudness", f.song(0, 2), bits(3.0f));
            c.due("song camper", f.song(0, 3), 2);
            c.due("no other song", f.song(1, 0), UNKNOWN);
        }
        TentFields f = with(24, 40, 24, 16);
        f.lay(3, 4, 5);
        f.keep();
        f.leave(1);
        hasPutTogether("put together", f, 1, 0);
        f.carry(0, 3, 5);
        f.undo();
        c.due("song y alone", f.song(0, 1), 4);
        hasPutTogether("put together still", f, 1, 0);
        f.undo();
        hasPutTogether("not any more", f, 0, 0);
        c.due("halvings", f.count(7), 2);
        f.leave(1);
        c.due("restore", f.restore(), 2);
        hasPutTogether("not any more", f, 0, 0);
        c.due("halvings", f.count(7), 2);
    }

    // ---- "There is one snapshot, empty at first."

    private static void oneSnapshot() {
        TentFields f = new TentFields();
        c.due("empty at first", f.restore(), NONE);
        c.due("nothing recorded", f.count(10), 0);
        f = quarters();
        c.due("empty at first", f.restore(), NONE);
        c.due("nothing changed", f.count(0), 4);
        f.leave(0);
        f.leave(1);
        c.due("keep", f.keep(), 2);
        f.leave(2);
        c.due("in place of the one that was", f.keep(), 1);
        f.leave(3);
        c.due("one is here then", f.restore(), 1);
        c.due("it stays", f.restore(), 1);
        int[] here = {1, 0, 1, 2};
        for (int turn = 0; turn < 4; turn++) {
            c.due("undo", f.undo(), 3 - turn);
            c.due("so many are here", f.count(0), here[turn]);
        }
        c.due("it stays", f.restore(), 1);
        f = new TentFields();
        c.due("a snapshot of nobody", f.keep(), 0);
        f.come(0, 0);
        c.due("is a snapshot", f.restore(), 0);
        isLike("of nobody", f, "nobody:(0,0)0");
        c.due("the first number again", f.come(7, 7), 0);
    }

    private static void restoreIsAnAct() {
        TentFields f = new TentFields();
        f.keep();
        c.due("nothing changes", f.restore(), 0);
        c.due("it records", f.count(10), 1);
        for (int turn = 0; turn < 6; turn++) {
            f.restore();
        }
        c.due("at most 4", f.count(10), 4);
        f = quarters();
        f.keep();
        f.leave(0);
        c.due("restore", f.restore(), 4);
        c.due("at most 4", f.count(10), 4);
        c.due("undo", f.undo(), 3);
        c.due("before restore", f.count(0), 3);
        c.due("undo", f.undo(), 2);
        c.due("before leave", f.count(0), 4);
        c.due("undo", f.undo(), 1);
        c.due("before the fourth", f.count(0), 3);
        c.due("undo", f.undo(), 0);
        c.due("before the third", f.count(0), 2);
        c.due("the rest was dropped", f.undo(), NONE);
    }

    private static void numbersComeAgainWithTheState() {
        TentFields f = sixteen();
        c.due("full", f.come(0, 63), FULL);
        f.keep();
        c.due("undo", f.undo(), 3);
        c.due("so far", f.count(1), 15);
        c.due("room again", f.come(0, 63), 15);
        c.due("its own tent", f.camper(15, 1), 63);
        c.due("restore", f.restore(), 16);
        c.due("the other one of this number", f.camper(15, 1), 0);
        f = full();
        c.due("undo", f.undo(), 3);
        c.due("songs so far", f.count(3), 19);
        c.due("room again", f.lay(5, 5, 5), 19);
        f = new TentFields();
        f.lay(1, 1, 11);
        f.keep();
        f.undo();
        f.lay(2, 2, 22);
        c.due("restore", f.restore(), 0);
        c.due("the song of the snapshot", f.song(0, 2), bits(1.1f));
        c.due("undo", f.undo(), 1);
        c.due("the other song of this number", f.song(0, 2), bits(2.2f));
        c.due("its point", f.song(0, 0) * 64 + f.song(0, 1), 130);
    }

    // ---- "undo() removes and restores the latest one": of what came later nothing is told any more

    private static void whatUndoTookAwayIsGone() {
        TentFields f = with(0, 0, 63, 0);
        c.due("come is undone", f.undo(), 1);
        c.due("a camper who was undone: camper", f.camper(1, 0), UNKNOWN);
        c.due("a camper who was undone: leave", f.leave(1), UNKNOWN);
        c.due("a camper who was undone: moveTent", f.moveTent(1, 63, 0), UNKNOWN);
        c.due("a camper who was undone: handOver", f.handOver(63, 63, 1), UNKNOWN);
        c.due("a camper who was undone: plotOf", f.plotOf(1, 0, 0), UNKNOWN);
        c.due("a camper who was undone: way", f.way(1, 0, 0, 0, 0), UNKNOWN);
        c.dueFloat("a camper who was undone: share", f.share(1), -1.0f);

        f = with(0, 0);
        f.lay(1, 1, 10);
        f.lay(2, 2, 20);
        c.due("lay is undone", f.undo(), 2);
        c.due("a song that was undone: song", f.song(1, 0), UNKNOWN);
        c.due("a song that was undone: carry", f.carry(1, 3, 3), UNKNOWN);
        c.due("a song that was undone: songs of the camper", f.camper(0, 4), 1);
        c.due("a song that was undone: loudness", f.camper(0, 6), bits(1.0f));
        c.due("a song that was undone: would", f.would(63, 63, 1), 0);
        c.due("a song that was undone: would", f.would(3, 3, 1), 0);

        f = with(0, 24, 0, 16);
        c.due("come is undone", f.undo(), 1);
        c.due("moveTent", f.moveTent(0, 48, 40), 0);
        c.due("come(0,24)", f.come(0, 24), 1);
        c.due("come(0,8)", f.come(0, 8), 2);
        isLike("other plots than those undone", f, "0:(32,0)1 1:(0,16)4 1:(0,32)2 1:(16,0)3 2:(0,0)4");
        c.due("neighbours of 0", f.camper(0, 5), 1);
        c.due("neighbours of 1", f.camper(1, 5), 2);
        c.due("neighbours of 2", f.camper(2, 5), 1);
    }

    // ---- clearText: "Empties the text."

    private static void clearedCharactersAreGone() {
        TentFields f = typed("11,23;45,6");
        write(f, "7,2");
        c.due("a shorter text", f.comeAll(), 1);
        c.due("its x", f.camper(0, 0), 7);
        c.due("its y", f.camper(0, 1), 2);
        f = typed("1,23");
        write(f, "1,2");
        c.due("one character less", f.comeAll(), 1);
        c.due("its y", f.camper(0, 1), 2);
        f = typed("1,2;3,4");
        write(f, "1,2;");
        c.due("the old characters are not behind it", f.comeAll(), -104);
    }
}
