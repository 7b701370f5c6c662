/** The edges of the section "Bytes and frames", each on both sides. */
final class FrameBoundsTest {
    private FrameBoundsTest() {
    }

    public static void main(String[] args) {
        queueIsFull();
        receivedAreKept();
        nextEight();
        numbersFromNought();
        windowOfOne();
        windowOfSeven();
        windowWithRepetitions();
        repetitionsFirst();
        eightWords();
        knownCostsOne();
        ninthFallsOff();
        movedToTheFront();
        frameCosts();
        senderDictionaryIsEmptied();
        receiverDictionaryIsEmptied();
        firstOnlineIsMarked();
        firstBehindFailureIsMarked();
        failureOfOneEndMarksOne();
        receiverDictionary();
        costIsFoundAnew();
        Check.finish();
    }

    private static void queueIsFull() {
        Check.about("Each end has a queue of bytes that are to be sent (at most 200)");
        ModemLink x = new ModemLink();
        x.dial();
        Check.same("199", Check.send(x, 0, "a".repeat(199)), 199);
        Check.same("200", Check.send(x, 0, "b"), 200);
        Check.same("201", Check.send(x, 0, "c"), -3);
        Check.same("none more", x.send(0, 0), 200);
        Check.same("the queue stays", x.end(0, 0), 200);
        Check.same("201 at once", Check.send(x, 1, "a".repeat(201)), -3);
        Check.same("the other queue stays", x.end(1, 0), 0);
        Check.same("200 at once", Check.send(x, 1, "a".repeat(200)), 200);
        Check.same("199 of 2", Check.send(x, 0, "ab"), -3);
    }

    private static void receivedAreKept() {
        Check.about("bytes that it has received (at most 400 are kept: the first ones; later ones are only counted)");
        ModemLink x = Lines.online("line 9; rates 80 1; window 7;");
        Check.send(x, 0, "a".repeat(200));
        Check.same("200", x.pass(30), 200);
        Check.send(x, 0, "b".repeat(199));
        Check.same("399", x.pass(30), 199);
        Check.same("the last one", x.received(1, 398), 'b');
        Check.same("none behind it", x.received(1, 399), -1);
        Check.send(x, 0, "c");
        x.pass(3);
        Check.same("400", x.end(1, 5), 400);
        Check.same("the last one", x.received(1, 399), 'c');
        Check.same("none behind it", x.received(1, 400), -1);
        Check.send(x, 0, "d");
        Check.same("a later one is received", x.pass(3), 1);
        Check.same("401", x.end(1, 5), 401);
        Check.same("total", x.total(10), 401);
        Check.same("the first ones are kept", x.received(1, 0), 'a');
        Check.same("the 400th is kept", x.received(1, 399), 'c');
        Check.same("the 401st is not", x.received(1, 400), -1);
        Check.same("it is in the dictionary", x.word(1, false, 0), 'd');
    }

    private static void nextEight() {
        Check.about("Bytes are taken from the queue when a frame is made: the next 8 of them, or all if there are fewer");
        String[] due = {"0:1:4", "0:7:4", "0:8:4", "0:8:4 1:1:4", "0:8:4 1:8:4", "0:8:4 1:8:4 2:1:4"};
        int[] counts = {1, 7, 8, 9, 16, 17};
        for (int k = 0; k < counts.length; k++) {
            ModemLink x = Lines.online("line 9; rates 80 1; window 7;");
            Check.send(x, 0, "aabbaabbaabbaabba".substring(0, counts[k]));
            Check.same("not taken before", x.end(0, 0), counts[k]);
            x.pass(1);
            Check.same("frames of " + counts[k] + " bytes", Lines.frames(x, 0), due[k]);
            Check.same("queue of " + counts[k] + " bytes", x.end(0, 0), 0);
            x.pass(1);
            Check.same("received of " + counts[k], Check.received(x, 1), "aabbaabbaabbaabba".substring(0, counts[k]));
        }
    }

    private static void numbersFromNought() {
        Check.about("The frames of an end are numbered from 0 since the line was dialled");
        ModemLink x = Lines.online("line 9; rates 80 1;");
        Check.same("none yet", x.end(0, 3) + x.end(1, 3), 0);
        for (int number = 0; number < 3; number++) {
            Check.send(x, 1, "a");
            x.pass(1);
            Check.same("number", x.frame(1, 0, 0), number);
            Check.same("next number", x.end(1, 3), number + 1);
            Check.same("of the other end", x.end(0, 3), 0);
            x.pass(2);
        }
        x.setQuality(0);
        x.pass(1);
        x.setQuality(9);
        x.pass(3);
        Check.same("online again, not dialled", x.end(1, 3), 3);
        x.hangUp();
        Check.same("hung up", x.end(1, 3), 3);
        x.dial();
        Check.same("dialled", x.end(1, 3), 0);
        x.pass(4);
        Check.send(x, 1, "a");
        x.pass(1);
        Check.same("number", x.frame(1, 0, 0), 0);
    }

    private static void windowOfOne() {
        Check.about("at most the window, 1 to 7, together with those that are to be sent again");
        ModemLink x = Lines.online("line 9; rates 80 1; window 1;");
        Check.send(x, 0, "a".repeat(24));
        x.pass(1);
        Check.same("tick 4", Lines.frames(x, 0), "0:8:4");
        x.pass(1);
        Check.same("tick 5", Lines.frames(x, 0), "0:8:4");
        x.pass(1);
        Check.same("acknowledged in tick 6", Lines.frames(x, 0), "1:8:6");
        Check.same("queue", x.end(0, 0), 8);
    }

    private static void windowOfSeven() {
        Check.about("at most the window, 1 to 7, together with those that are to be sent again");
        ModemLink x = Lines.online("line 9; rates 80 1; window 7; delay 9 60;");
        Check.send(x, 0, "a".repeat(80));
        x.pass(1);
        Check.same("tick 4: 15 and 5 times 12 of 80", x.end(0, 1), 6);
        x.pass(1);
        Check.same("tick 5", x.end(0, 1), 7);
        x.pass(16);
        Check.same("tick 21", x.end(0, 1), 7);
        Check.same("no eighth", x.end(0, 3), 7);
        x.pass(1);
        Check.same("tick 22: six are acknowledged, three are made", Lines.frames(x, 0), "6:8:5 7:8:22 8:8:22 9:8:22");
    }

    /** Frame 0 is damaged in tick 5; in tick 8 both frames are to be sent again, and the credit is too small. */
    private static ModemLink withRepetitions(int window, int bytes) {
        ModemLink x = Lines.online("line 5; rates 16 1; noise 6 0 0 0 0 0 0 0; window " + window + ";");
        Check.send(x, 0, Lines.different(1, bytes));
        x.pass(4);
        Check.same("tick 7", Lines.frames(x, 0), "0:8:5 1:8:7");
        x.pass(1);
        Check.same("tick 8", Lines.frames(x, 0), "0:8:5* 1:8:7*");
        Lines.ends(x, "tick 8", 0, 0, bytes - 16, 1, 0, 2, 2, 3, 2, 6, 23);
        return x;
    }

    private static void windowWithRepetitions() {
        Check.about("at most the window, 1 to 7, together with those that are to be sent again");
        ModemLink x = withRepetitions(2, 24);
        x.pass(1);
        Check.same("tick 9", Lines.frames(x, 0), "0:8:9 1:8:7*");
        Lines.ends(x, "tick 9", 0, 0, 8, 1, 1, 2, 1, 6, 10);
        x.pass(2);
        Check.same("tick 11", Lines.frames(x, 0), "1:8:11");
        Lines.ends(x, "tick 11", 0, 0, 8, 6, 14);
        x.pass(1);
        Check.same("tick 12", Lines.frames(x, 0), "1:8:11 2:8:12");
        Lines.ends(x, "tick 12", 0, 0, 0, 1, 2, 2, 0, 6, 2);
    }

    private static void repetitionsFirst() {
        Check.about("frames that are to be sent again, before new ones are made; all in the order of their numbers");
        ModemLink x = withRepetitions(7, 16);
        Check.send(x, 0, Lines.different(17, 1));
        Check.same("a new frame would cost", x.nextCost(0), 8);
        x.pass(1);
        Check.same("tick 9", Lines.frames(x, 0), "0:8:9 1:8:7*");
        Check.same("a new frame would cost", x.nextCost(0), 7);
        Lines.ends(x, "the credit is enough for a new frame alone", 0, 0, 1, 3, 2, 6, 10);
        x.pass(1);
        Check.same("tick 10", Lines.frames(x, 0), "0:8:9 1:8:7*");
        Lines.ends(x, "tick 10", 0, 0, 1, 3, 2, 6, 26);
        x.pass(1);
        Check.same("tick 11", Lines.frames(x, 0), "1:8:11 2:1:11");
        Lines.ends(x, "tick 11", 0, 0, 0, 3, 3, 6, 7);
    }

    private static void eightWords() {
        Check.about("a dictionary: a list of at most 8 different bytes, empty at first");
        ModemLink x = Lines.online("line 9; rates 80 1;");
        Lines.ends(x, "at first", 0, 8, 0, 9, 0);
        Check.same("at first", x.word(0, true, 0), -1);
        String text = "abcdefghi";
        for (int k = 1; k <= 9; k++) {
            Check.send(x, 0, text.substring(k - 1, k));
            x.pass(3);
            Lines.ends(x, "behind " + k + " bytes", 0, 8, Math.min(k, 8));
            Lines.ends(x, "behind " + k + " bytes", 1, 9, Math.min(k, 8));
        }
        Check.same("writing", Check.words(x, 0, true), "ihgfedcb");
        Check.same("reading", Check.words(x, 1, false), "ihgfedcb");
        Check.same("no ninth", x.word(0, true, 8), -1);
        Check.send(x, 0, "iiiii");
        x.pass(3);
        Check.same("different bytes", Check.words(x, 0, true), "ihgfedcb");
    }

    /** The cost of the next frame with these bytes, behind a frame that wrote others. */
    private static int costBehind(String before, String bytes) {
        ModemLink x = Lines.online("line 9; rates 80 1;");
        Check.send(x, 0, before);
        x.pass(3);
        Check.send(x, 0, bytes);
        return x.nextCost(0);
    }

    private static void knownCostsOne() {
        Check.about("To write a byte that is in the dictionary costs 1, otherwise 3");
        Check.same("the front", costBehind("abcdefgh", "h"), 4 + 1);
        Check.same("the eighth", costBehind("abcdefgh", "a"), 4 + 1);
        Check.same("not there", costBehind("abcdefgh", "i"), 4 + 3);
        Check.same("twice", costBehind("abcdefgh", "ii"), 4 + 3 + 1);
        Check.same("byte 0 is not there at first", costBehind("a", "\u0000"), 4 + 3);
        Check.same("byte 0", costBehind("\u0000", "\u0000"), 4 + 1);
        Check.same("byte 255", costBehind("\u00ff", "\u00ff\u007f"), 4 + 1 + 3);
    }

    private static void ninthFallsOff() {
        Check.about("a ninth one falls off behind");
        Check.same("the eighth falls off", costBehind("abcdefgh", "ia"), 4 + 3 + 3);
        Check.same("the seventh stays", costBehind("abcdefgh", "ib"), 4 + 3 + 1);
        Check.same("none falls off below nine", costBehind("abcdefg", "ia"), 4 + 3 + 1);
        Check.same("a known one puts none off", costBehind("abcdefgh", "ha"), 4 + 1 + 1);
    }

    private static void movedToTheFront() {
        Check.about("then the byte is put in front of the list (moved there, if it was in it)");
        Check.same("moved, so it stays", costBehind("abcdefgh", "aia"), 4 + 1 + 3 + 1);
        Check.same("another one is the last then", costBehind("abcdefgh", "aib"), 4 + 1 + 3 + 3);
        ModemLink x = Lines.online("line 9; rates 80 1;");
        String[] due = {"a", "ba", "cba", "bca", "bca", "abc"};
        for (int k = 0; k < due.length; k++) {
            Check.send(x, 1, "abcbba".substring(k, k + 1));
            x.pass(2);
            Check.same("writing behind " + k, Check.words(x, 1, true), due[k]);
            Check.same("reading behind " + k, Check.words(x, 0, false), due[k]);
        }
    }

    private static void frameCosts() {
        Check.about("A frame costs 4 more than its bytes, and 1 more if it is marked");
        ModemLink x = Lines.online("line 9; rates 80 1;");
        Check.send(x, 0, "a");
        Check.same("marked", x.nextCost(0), 3 + 4 + 1);
        x.pass(1);
        Check.same("costs", x.total(9), 8);
        Check.same("credit", x.end(0, 6), 72);
        Check.send(x, 0, "b");
        Check.same("not marked", x.nextCost(0), 3 + 4);
        x.pass(1);
        Check.same("costs", x.total(9), 15);
        Check.send(x, 0, "b");
        Check.same("known", x.nextCost(0), 1 + 4);
        x.pass(1);
        Check.same("costs", x.total(9), 20);
    }

    /** Both dictionaries hold "ba"; the line came online for the second time, and frame 1 in all is damaged. */
    private static ModemLink onlineAgain() {
        ModemLink x = Lines.online("line 5; rates 80 1; noise 0 6 0;");
        Check.send(x, 0, "ab");
        x.pass(3);
        x.setQuality(0);
        x.pass(1);
        x.setQuality(5);
        x.pass(3);
        Lines.sizes(x, "online again", 0, 11, 1, 2);
        Check.same("writing stays", Check.words(x, 0, true), "ba");
        Check.same("reading stays", Check.words(x, 1, false), "ba");
        return x;
    }

    private static void senderDictionaryIsEmptied() {
        Check.about("A marked frame begins with an empty dictionary: that of the sender is emptied before its bytes are written");
        ModemLink x = onlineAgain();
        Check.send(x, 0, "a");
        Check.same("a is not known any more", x.nextCost(0), 8);
        Check.same("asking empties nothing", Check.words(x, 0, true), "ba");
        x.pass(1);
        Check.same("the frame empties it", Check.words(x, 0, true), "a");
        Check.send(x, 0, "ab");
        Check.same("the next frame does not", x.nextCost(0), 4 + 1 + 3);
    }

    private static void receiverDictionaryIsEmptied() {
        Check.about("that of the receiver before they are read (only if it is not thrown away)");
        ModemLink x = onlineAgain();
        Check.send(x, 0, "c");
        x.pass(2);
        Check.same("thrown away", x.total(2), 1);
        Check.same("reading stays", Check.words(x, 1, false), "ba");
        x.pass(2);
        Check.same("sent again in tick 14", Lines.frames(x, 0), "1:1:14");
        Check.same("reading stays", Check.words(x, 1, false), "ba");
        x.pass(1);
        Check.same("read in tick 15", Check.words(x, 1, false), "c");
        Check.send(x, 0, "d");
        x.pass(2);
        Check.same("a frame without a mark", Check.words(x, 1, false), "dc");
    }

    private static void firstOnlineIsMarked() {
        Check.about("The first frame that an end sends since the line came online ... are marked");
        ModemLink x = Lines.online("line 5; rates 80 1; noise 6 0 0 0 0 0;");
        Check.send(x, 0, "aaaaaaaaa");
        x.pass(1);
        Check.same("the first is marked, though damaged, the second is not", x.total(9), 15 + 5);
        Check.send(x, 1, "aaaaaaaaa");
        x.pass(1);
        Check.same("likewise of the other end", x.total(9), 20 + 20);
        x.pass(1);
        Check.same("one mark is received", Check.events(x), "3:1:-1:0 6:7:0:0");
        x.pass(2);
        Check.same("one more behind the failure", Check.events(x), "3:1:-1:0 6:7:0:0 7:6:0:0 8:7:1:0");
        x = onlineAgain();
        Check.send(x, 1, "a");
        Check.same("the end that has not sent before", x.nextCost(1), 8);
        Check.send(x, 0, "a");
        Check.same("the end that has sent before", x.nextCost(0), 8);
    }

    private static void firstBehindFailureIsMarked() {
        Check.about("and the first one behind a failure of it, are marked");
        ModemLink x = Lines.online("line 5; rates 80 1; noise 0 6 0 0 0 0 0;");
        Check.send(x, 0, "ab");
        x.pass(1);
        Check.send(x, 0, "ababababab");
        Check.same("not marked", x.nextCost(0), 4 + 8);
        x.pass(1);
        Check.same("costs", x.total(9), 11 + 12 + 6);
        x.pass(2);
        Check.same("tick 7", Lines.frames(x, 0), "1:8:5 2:2:5");
        Check.same("costs", x.total(9), 29);
        x.pass(1);
        Check.same("tick 8: the first one is marked, the second is not", x.total(9), 29 + (5 + 6 + 6) + 6);
        Check.same("tick 8", Lines.frames(x, 0), "1:8:8 2:2:8");
        x.pass(1);
        Check.same("events", Check.events(x), "3:1:-1:0 5:7:1:0 8:6:0:0 9:7:1:0");
        Check.send(x, 0, "a");
        Check.same("the mark has been sent", x.nextCost(0), 5);
    }

    private static void failureOfOneEndMarksOne() {
        Check.about("the first one behind a failure of it");
        ModemLink x = Lines.online("line 5; rates 8 1; noise 6 0 0 0 0 0;");
        Check.send(x, 0, "a");
        x.pass(1);
        Check.send(x, 1, "a");
        x.pass(2);
        x.escape(0);
        x.escape(1);
        x.pass(1);
        Check.same("end 0 failed", Check.events(x), "3:1:-1:0 6:7:0:0 7:6:0:0");
        Check.send(x, 0, "a");
        Check.send(x, 1, "a");
        Check.same("end 0 marks", x.nextCost(0), 8);
        Check.same("end 1 does not", x.nextCost(1), 5);
    }

    private static void receiverDictionary() {
        Check.about("A receiver reads with a dictionary of its own, which changes likewise");
        ModemLink x = Lines.online("line 9; rates 80 1;");
        Check.send(x, 0, "abca");
        Check.send(x, 1, "xyzz");
        x.pass(1);
        Check.same("written by 0", Check.words(x, 0, true), "acb");
        Check.same("written by 1", Check.words(x, 1, true), "zyx");
        Check.same("not read by 0", Check.words(x, 0, false), "");
        Check.same("not read by 1", Check.words(x, 1, false), "");
        x.pass(1);
        Check.same("read by 1", Check.words(x, 1, false), "acb");
        Check.same("read by 0", Check.words(x, 0, false), "zyx");
        Check.same("writing of 0 stays", Check.words(x, 0, true), "acb");
    }

    private static void costIsFoundAnew() {
        Check.about("The cost of a frame is found anew each time it is sent");
        ModemLink x = Lines.online("line 5; rates 80 1; noise 0 6 0 0 0 0;");
        Check.send(x, 0, "ab");
        x.pass(1);
        Check.send(x, 0, "ab");
        x.pass(1);
        Check.same("the first time", x.total(9), 11 + 6);
        x.pass(2);
        Check.same("nothing is sent", x.total(9), 17);
        x.pass(1);
        Check.same("the second time", x.total(9), 17 + 11);
        // Thrown away behind a damaged one: written first as new bytes, then as known ones.
        x = Lines.online("line 5; rates 80 1; noise 6 0 0 0 0 0;");
        Check.send(x, 0, "aaaaaaaabbbbbbbb");
        x.pass(1);
        Check.same("the first time", x.total(9), 15 + 14);
        x.pass(3);
        Check.same("the second time", x.total(9), 29 + 15 + 14);
    }
}
