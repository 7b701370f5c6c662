/** What a tick does: training, the carrier, arrivals, timers, rises and sending, worked out by hand. */
final class LineTest {
    private LineTest() {
    }

    public static void main(String[] args) {
        training();
        trainingRestarts();
        rateOfTraining();
        lossAndTraining();
        lossWithoutHold();
        delayAndAcknowledgement();
        windowAndCredit();
        sevenFramesInATick();
        defaults();
        damageAndRepetition();
        fallAndCredit();
        noLowerRate();
        failuresOfBothEnds();
        acknowledgementResetsFailures();
        rise();
        acknowledgementsWaitForQuality();
        lossKeepsFrames();
        hangUpAndDialAgain();
        escapedEnd();
        dictionaries();
        noises();
        lastNoise();
        eventsKept();
        manyEvents();
        eventsBehindLoad();
        Check.finish();
    }

    private static void training() {
        ModemLink x = Check.loaded("line 9; rates 8 1; train 2 1 3 1;");
        Check.same("dial", x.dial(), 7);
        Lines.sizes(x, "dialled", 0, 0, 1, 1, 3, -1, 4, 0, 5, 2, 6, 0, 7, -1, 8, 0, 9, 0);
        x.pass(1);
        Lines.sizes(x, "tick 0", 0, 1, 4, 0, 5, 1, 6, 0);
        x.pass(1);
        Lines.sizes(x, "tick 1", 4, 1, 5, 1);
        x.pass(1);
        Lines.sizes(x, "tick 2", 4, 2, 5, 3);
        x.pass(3);
        Lines.sizes(x, "tick 5", 1, 1, 4, 3, 5, 1);
        x.pass(1);
        Lines.sizes(x, "tick 6", 0, 7, 1, 2, 3, 0, 4, -1, 5, -1, 6, -1, 7, -1);
        Check.same("events", Check.events(x), "6:1:-1:0");
        Lines.totals(x, "online", 0, 0, 0, 0, 0, 0, 0, 0, 1, 0, 0);
    }

    private static void trainingRestarts() {
        ModemLink x = Check.loaded("line 9; rates 8 1; train 3 2 1 1; retries 2;");
        x.dial();
        x.pass(2);
        x.setQuality(0);
        x.pass(1);
        Lines.sizes(x, "first restart", 1, 1, 4, 0, 5, 3, 6, 1);
        x.setQuality(5);
        x.pass(4);
        Lines.sizes(x, "second step", 4, 1, 5, 1, 6, 1);
        x.setQuality(0);
        x.pass(1);
        Lines.sizes(x, "second restart", 1, 1, 4, 1, 5, 2, 6, 2);
        Check.send(x, 1, "abc");
        x.pass(1);
        Lines.sizes(x, "third restart", 0, 9, 1, 0, 4, -1, 5, -1, 6, -1);
        Check.same("the queue is lost", x.end(1, 0), 0);
        Check.same("events", Check.events(x), "8:5:-1:-1");
        Lines.totals(x, "hung up", 0, 0, 0, 0, 0, 0, 0, 1, 0, 0, 0);
        x.dial();
        Lines.sizes(x, "dialled again", 4, 0, 5, 3, 6, 0);
        Check.load(x, "line 0; rates 8 1; retries 0;");
        x.dial();
        x.pass(1);
        Lines.sizes(x, "no retries", 1, 0);
    }

    private static void rateOfTraining() {
        for (int quality = 1; quality <= 9; quality++) {
            ModemLink x = Check.loaded("line " + quality + "; rates 10 3, 20 6; train 1 1 1 1;");
            x.dial();
            x.pass(4);
            Lines.sizes(x, "quality " + quality, 1, quality < 3 ? 0 : 2, 3, quality < 3 ? -1 : quality < 6 ? 0 : 1);
            Check.same("event", Check.events(x), quality < 3 ? "3:5:-1:-1" : quality < 6 ? "3:1:-1:0" : "3:1:-1:1");
        }
    }

    private static void lossAndTraining() {
        ModemLink x = Check.loaded("line 9; rates 8 1; train 1 1 2 1; hold 2;");
        x.dial();
        x.pass(5);
        x.setQuality(0);
        x.pass(1);
        Lines.sizes(x, "lost", 0, 6, 1, 3, 3, -1, 4, -1, 6, -1, 7, 1, 8, 0, 9, 0);
        x.pass(1);
        Lines.sizes(x, "lost longer", 1, 3, 7, 2);
        x.setQuality(1);
        x.pass(1);
        Lines.sizes(x, "training again", 1, 1, 4, 2, 5, 2, 6, 0, 7, -1);
        x.pass(3);
        Lines.sizes(x, "online again", 1, 2);
        x.setQuality(0);
        x.pass(3);
        Lines.sizes(x, "lost for too long", 0, 14, 1, 0, 7, -1);
        Check.same("events", Check.events(x), "4:1:-1:0 5:4:-1:-1 10:1:-1:0 11:4:-1:-1 13:5:-1:-1");
        Lines.totals(x, "hung up", 0, 0, 0, 0, 0, 0, 2, 1, 2, 0, 0);
    }

    private static void lossWithoutHold() {
        ModemLink x = Lines.online("line 9; rates 8 1; hold 0;");
        x.setQuality(0);
        x.pass(1);
        Lines.sizes(x, "no hold", 0, 5, 1, 0, 7, -1);
        Check.same("events", Check.events(x), "3:1:-1:0 4:4:-1:-1 4:5:-1:-1");
    }

    private static void delayAndAcknowledgement() {
        ModemLink x = Lines.online("line 9; rates 40 1; delay 3 7;");
        Check.send(x, 1, "abcdefgh");
        Check.same("tick 4", x.pass(1), 0);
        Check.same("frame number", x.frame(1, 0, 0), 0);
        Check.same("frame bytes", x.frame(1, 0, 1), 8);
        Check.same("frame sent", x.frame(1, 0, 2), 4);
        Check.same("frame again", x.frame(1, 0, 3), 0);
        Check.same("cost", x.total(9), 29);
        Check.same("ticks 5 and 6", x.pass(2), 0);
        Check.same("tick 7", x.pass(1), 8);
        Check.same("received", Check.received(x, 0), "abcdefgh");
        Check.same("expected", x.end(0, 4), 1);
        Check.same("event", Check.events(x), "3:1:-1:0 7:7:0:0");
        x.pass(2);
        Check.same("not acknowledged in tick 9", x.end(1, 1), 1);
        Lines.sizes(x, "tick 9", 9, 0);
        x.pass(1);
        Check.same("acknowledged in tick 10", x.end(1, 1), 0);
        Lines.sizes(x, "tick 10", 9, 1);
        Check.same("next number", x.end(1, 3), 1);
    }

    private static void windowAndCredit() {
        ModemLink x = Lines.online("line 9; rates 80 1; window 2;");
        Check.send(x, 0, "a".repeat(36));
        x.pass(1);
        Check.same("two frames", x.end(0, 1), 2);
        Check.same("credit", x.end(0, 6), 80 - 15 - 12);
        Check.same("credit of the other end", x.end(1, 6), 80);
        x.pass(1);
        Check.same("credit is bounded", x.end(0, 6), 108);
        Check.same("of the other end, too", x.end(1, 6), 108);
        Check.same("window is full", x.end(0, 0), 20);
        x.pass(1);
        Check.same("two more", x.end(0, 0), 4);
        Check.same("numbers", x.frame(0, 0, 0), 2);
        Check.same("credit", x.end(0, 6), 84);
        x.pass(2);
        Check.same("the last four", x.end(0, 0), 0);
        Check.same("bytes of the last frame", x.frame(0, 0, 1), 4);
        Check.same("credit", x.end(0, 6), 100);
        Check.same("costs", x.total(9), 15 + 3 * 12 + 8);
    }

    private static void sevenFramesInATick() {
        ModemLink x = Lines.online("line 9; rates 80 1; window 7; delay 9 60;");
        x.pass(1);
        Check.send(x, 1, "a".repeat(60));
        x.pass(1);
        Check.same("seven frames", x.end(1, 1), 7);
        Check.same("credit", x.end(1, 6), 108 - 15 - 6 * 12);
        x.pass(1);
        Check.same("the window is full", x.total(0), 7);
        x.pass(8);
        Check.same("all received", x.end(0, 4), 7);
        x.setQuality(0);
        x.pass(1);
        Check.same("none acknowledged", x.end(1, 1), 7);
        Check.same("hangUp", x.hangUp(), 4);
        x.undo();
        x.setQuality(9);
        x.pass(3);
        Lines.sizes(x, "online again", 1, 2);
        Check.same("all forgotten", x.end(1, 1) + x.end(1, 2), 0);
        x.pass(1);
        Check.same("the eighth", x.frame(1, 0, 0), 7);
    }

    /** Everything that a clause can set is set first, so that the second load must set it back. */
    private static ModemLink withDefaults(String text) {
        ModemLink x = Check.loaded("line 9; rates 4 1, 5 2, 6 3; train 9 9 9 9; retries 9; hold 50; window 7;"
            + " delay 9 60; limit 5; patience 50; noise 9 8 7;");
        Check.load(x, text);
        Check.same("four steps of 2 ticks", x.dial(), 8);
        return x;
    }

    private static void defaults() {
        ModemLink x = withDefaults("line 0; rates 80 1;");
        x.pass(2);
        Lines.sizes(x, "two retries", 1, 1, 6, 2);
        x.pass(1);
        Lines.sizes(x, "no third", 1, 0);
        x = withDefaults("line 9; rates 80 1;");
        x.pass(8);
        Check.send(x, 0, "a".repeat(48));
        x.pass(1);
        Check.same("a window of 4", x.end(0, 1), 4);
        x.setQuality(0);
        x.pass(5);
        Lines.sizes(x, "a hold of 5", 1, 3, 7, 5);
        x.pass(1);
        Lines.sizes(x, "not of 6", 1, 0);
        x = withDefaults("line 1; rates 80 1; noise 2 2 0 2;");
        x.pass(8);
        Check.send(x, 0, "a");
        x.pass(3);
        Lines.sizes(x, "before the timeout", 8, 0);
        x.pass(1);
        Lines.sizes(x, "a timeout of 3", 8, 1);
        x.pass(3);
        Lines.sizes(x, "a limit of 2", 1, 0);
        x = withDefaults("line 9; rates 79 1, 80 9;");
        x.pass(8);
        Lines.sizes(x, "the higher rate", 3, 1);
        Check.send(x, 0, "a");
        x.pass(2);
        Check.same("a delay of 1, no noise", x.total(10), 1);
        x = withDefaults("line 8; rates 79 1, 80 9;");
        x.setQuality(8);
        x.pass(8);
        x.setQuality(9);
        for (int k = 1; k <= 7; k++) {
            Check.send(x, 0, "a");
            x.pass(3);
            Lines.sizes(x, "acknowledgement " + k, 3, 0, 9, k);
        }
        Check.send(x, 0, "a");
        x.pass(3);
        Lines.sizes(x, "a patience of 8", 3, 1, 9, 0);
    }

    private static void damageAndRepetition() {
        ModemLink x = Lines.online("line 5; rates 40 1; delay 2 5; noise 6 0 0 0 0 0 0 0 0 0;");
        Check.send(x, 0, "abcdefghij");
        x.pass(1);
        Lines.totals(x, "tick 4", 2, 1, 0, 0, 0, 0, 0, 0, 1, 39, 0);
        Check.same("dictionary", Check.words(x, 0, true), "jihgfedc");
        x.pass(2);
        Lines.totals(x, "tick 6", 2, 1, 2, 0);
        Check.same("nothing read", x.end(1, 9), 0);
        x.pass(2);
        Lines.totals(x, "tick 8", 2, 1, 2, 0);
        Check.same("repetition costs", x.end(0, 6), 68);
        x.pass(1);
        Lines.totals(x, "tick 9", 4, 1, 2, 1, 0, 0, 0, 0, 1, 78, 0);
        Lines.sizes(x, "tick 9", 8, 1, 9, 0);
        Check.same("credit", x.end(0, 6), 68 - 39);
        Check.same("last sent", x.frame(0, 0, 2), 9);
        Check.same("second frame", x.frame(0, 1, 0), 1);
        Check.same("its bytes", x.frame(0, 1, 1), 2);
        x.pass(2);
        Check.same("received", Check.received(x, 1), "abcdefghij");
        Check.same("dictionary read", Check.words(x, 1, false), "jihgfedc");
        Lines.sizes(x, "tick 11", 8, 1, 9, 0);
        x.pass(2);
        Lines.sizes(x, "tick 13", 8, 0, 9, 2);
        Check.same("events", Check.events(x), "3:1:-1:0 9:6:0:0 11:7:1:0");
        Check.same("finished", x.ticksToFinish(), 0);
    }

    private static void fallAndCredit() {
        ModemLink x = Lines.online("line 5; rates 30 1, 40 2; limit 1; noise 5;");
        Check.send(x, 0, "a");
        x.pass(3);
        Check.same("credit at the higher rate", x.end(0, 6), 68);
        x.pass(1);
        Lines.sizes(x, "tick 7", 3, 0, 8, 0, 9, 0);
        Check.same("credit at the lower rate", x.end(0, 6), 58 - 8);
        x.pass(2);
        Check.same("events", Check.events(x), "3:1:-1:1 7:6:0:1 7:2:-1:0 8:7:1:0");
        Lines.totals(x, "tick 9", 2, 1, 1, 1, 1, 0, 0, 0, 1, 16, 1);
        Lines.sizes(x, "tick 9", 8, 0, 9, 1);
    }

    private static void noLowerRate() {
        ModemLink x = Lines.online("line 5; rates 30 1; limit 1; noise 6;");
        Check.send(x, 0, "abcdefghabcdefgh");
        Check.send(x, 1, "x");
        x.pass(4);
        Lines.sizes(x, "tick 7", 0, 8, 1, 0, 3, -1);
        Check.same("events", Check.events(x), "3:1:-1:0 7:6:0:0 7:5:-1:-1");
        Lines.totals(x, "tick 7", 3, 3, 3, 1, 0, 0, 0, 1, 1);
        Check.same("queue", x.end(0, 0), 0);
        Check.same("frames", x.end(0, 1) + x.end(0, 2) + x.end(1, 1) + x.end(1, 2), 0);
        Check.same("numbers stay", x.end(0, 3), 2);
        Check.same("numbers stay", x.end(1, 3), 1);
        Check.same("dictionaries stay", Check.words(x, 0, true), "hgfedcba");
        Check.same("credits stay", x.end(1, 6), 58);
    }

    private static void failuresOfBothEnds() {
        ModemLink x = Lines.online("line 5; rates 30 1, 40 2; limit 2; noise 5;");
        Check.send(x, 0, "a");
        Check.send(x, 1, "b");
        x.pass(4);
        Check.same("events", Check.events(x), "3:1:-1:1 7:6:0:1 7:6:1:1 7:2:-1:0");
        Lines.sizes(x, "both failed", 3, 0, 8, 0, 9, 0);
        x = Lines.online("line 5; rates 30 1, 40 2; limit 3; noise 5;");
        Check.send(x, 0, "a");
        x.pass(4);
        Lines.sizes(x, "one failure", 3, 1, 8, 1);
        x.pass(3);
        Lines.sizes(x, "two failures", 3, 1, 8, 2);
        x.pass(3);
        Lines.sizes(x, "three failures", 3, 0, 8, 0);
        x = Lines.online("line 5; rates 10 1, 20 2, 30 3; limit 1; noise 5;");
        Check.send(x, 0, "a");
        Check.send(x, 1, "b");
        x.pass(4);
        Check.same("two falls", Check.events(x), "3:1:-1:2 7:6:0:2 7:2:-1:1 7:6:1:1 7:2:-1:0");
    }

    private static void acknowledgementResetsFailures() {
        ModemLink x = Lines.online("line 5; rates 30 1; limit 2; noise 6 0;");
        Check.send(x, 0, "a");
        x.pass(4);
        Lines.sizes(x, "failed", 8, 1);
        x.pass(2);
        Lines.sizes(x, "acknowledged", 8, 0, 9, 1);
        Check.send(x, 0, "a");
        x.pass(4);
        Lines.sizes(x, "failed again", 1, 2, 8, 1, 9, 0);
    }

    private static void rise() {
        ModemLink x = Lines.online("line 5; rates 30 1, 40 9; patience 2;");
        Check.send(x, 0, "aaaaaaaabbbbbbbb");
        x.setQuality(9);
        x.pass(2);
        Lines.sizes(x, "tick 5", 3, 0, 9, 0);
        x.pass(1);
        Lines.sizes(x, "tick 6", 3, 1, 9, 0);
        Check.same("speed of the new rate", x.end(1, 6), 68);
        Check.same("events", Check.events(x), "3:1:-1:0 5:7:1:0 6:3:-1:1");
        Lines.totals(x, "risen", 2, 0, 0, 0, 0, 1);
        Check.send(x, 0, "aaaaaaaabbbbbbbb");
        x.pass(5);
        Lines.sizes(x, "no higher rate", 3, 1, 9, 2);
    }

    private static void acknowledgementsWaitForQuality() {
        ModemLink x = Lines.online("line 5; rates 30 1, 40 6; patience 1;");
        Check.send(x, 0, "aaaaaaaabbbbbbbb");
        x.pass(4);
        Lines.sizes(x, "quality too low", 3, 0, 9, 2);
        x.setQuality(6);
        x.pass(1);
        Lines.sizes(x, "quality fits", 3, 1, 9, 0);
    }

    private static void lossKeepsFrames() {
        ModemLink x = Lines.online("line 9; rates 20 1; delay 2 5;");
        Check.send(x, 0, "a".repeat(16));
        x.pass(3);
        Check.same("two frames", x.end(0, 1), 2);
        Check.same("one received", x.end(1, 5), 8);
        x.setQuality(0);
        x.pass(1);
        Check.same("frames stay", x.end(0, 1), 2);
        Check.same("hangUp", x.hangUp(), 8);
        x.undo();
        x.setQuality(9);
        x.pass(1);
        Lines.sizes(x, "training", 1, 1, 4, 2, 5, 1, 6, 0);
        x.pass(2);
        Lines.sizes(x, "online again", 0, 11, 1, 2);
        Check.same("one frame forgotten", x.end(0, 1), 0);
        Check.same("one is sent again", x.end(0, 2), 1);
        Check.same("its number", x.frame(0, 0, 0), 1);
        Check.same("its tick", x.frame(0, 0, 2), 5);
        Check.same("it is to be sent again", x.frame(0, 0, 3), 1);
        Check.same("credit", x.end(0, 6), 0);
        x.pass(1);
        Check.same("marked again", x.end(0, 6), 5);
        Check.same("sent again", x.frame(0, 0, 3), 0);
        x.pass(2);
        Check.same("received", x.end(1, 5), 16);
        Check.same("events", Check.events(x), "3:1:-1:0 6:7:1:0 7:4:-1:-1 10:1:-1:0 13:7:1:0");
        Lines.totals(x, "tick 13", 3, 0, 0, 0, 0, 0, 1, 0, 2, 42, 16);
    }

    private static void hangUpAndDialAgain() {
        ModemLink x = Lines.online("line 9; rates 20 1;");
        Check.send(x, 0, "abcabcab");
        x.escape(1);
        x.pass(1);
        Check.same("hangUp", x.hangUp(), 0 + 8);
        Lines.sizes(x, "hung up", 1, 0, 10, 2);
        Check.same("next number stays", x.end(0, 3), 1);
        Check.same("escape stays", x.end(1, 7), 1);
        Check.same("credit stays", x.end(0, 6), 1);
        Check.same("dictionary stays", Check.words(x, 0, true), "bac");
        Check.same("send", Check.send(x, 0, "x"), -2);
        x.pass(2);
        Check.same("nothing arrives", x.end(1, 5), 0);
        x.dial();
        Check.same("numbers from 0", x.end(0, 3), 0);
        Check.same("escape stays in training", x.end(1, 7), 1);
        x.pass(4);
        Check.same("nobody has escaped", x.end(1, 7), 0);
        Check.same("credits are 0", x.end(0, 6) + x.end(1, 6), 0);
        Check.send(x, 0, "b");
        Check.same("marked", x.nextCost(0), 8);
        x.pass(3);
        Check.same("received", Check.received(x, 1), "b");
        Check.same("expected", x.end(1, 4), 1);
        Check.same("dictionary", Check.words(x, 0, true), "b");
        x.hangUp();
        x.dial();
        Check.same("expected from 0", x.end(1, 4), 0);
        Check.same("received bytes stay", x.end(1, 5), 1);
    }

    private static void escapedEnd() {
        ModemLink x = Lines.online("line 9; rates 40 1;");
        Check.send(x, 0, "ab");
        Check.same("escape", x.escape(0), 2);
        x.pass(3);
        Check.same("nothing is sent", x.total(0), 0);
        Check.same("the credit grows", x.end(0, 6), 68);
        Check.send(x, 1, "xyz");
        x.pass(2);
        Check.same("it receives", Check.received(x, 0), "xyz");
        x.pass(1);
        Check.same("and acknowledges", x.end(1, 1), 0);
        Check.same("no end of it", x.ticksToFinish(), -1);
        Check.same("resume", x.resume(0), 2);
        Check.same("an end of it", x.ticksToFinish(), 3);
        Check.same("tick of resume", x.pass(1), 0);
        Check.same("then", x.pass(1), 2);
    }

    private static void dictionaries() {
        ModemLink x = Lines.online("line 9; rates 80 1; window 7;");
        Check.send(x, 0, "abcabcababcdefghi");
        Check.same("nextCost", x.nextCost(0), 5 + 3 * 3 + 5);
        x.pass(1);
        Check.same("costs", x.total(9), (5 + 3 * 3 + 5) + (4 + 3 + 5 * 3) + (4 + 3));
        Check.same("writing", Check.words(x, 0, true), "ihgfedcb");
        Check.same("writing bytes", x.end(0, 8), 8);
        Check.same("reading before", x.end(1, 9), 0);
        x.pass(1);
        Check.same("reading", Check.words(x, 1, false), "ihgfedcb");
        Check.same("reading bytes", x.end(1, 9), 8);
        Check.send(x, 0, "ab");
        Check.same("a has fallen off", x.nextCost(0), 4 + 3 + 3);
        Check.send(x, 0, "\u00ff\u0000");
        x.pass(2);
        Check.same("word 0", x.word(0, true, 0), 0);
        Check.same("word 1", x.word(0, true, 1), 255);
        Check.same("other direction", x.end(1, 8) + x.end(0, 9), 0);
    }

    private static void noises() {
        // Frames 0, 3, 6 and so on are damaged at this quality, as 4 + 1 > 4, but 3 + 1 is not.
        ModemLink x = Lines.online("line 4; rates 20 1, 40 3; noise 4 3 0; limit 5;");
        int damaged = 0;
        for (int k = 0; k < 8; k++) {
            int before = x.total(0);
            Check.send(x, k % 2, "a");
            x.pass(1);
            Check.same("one frame", x.total(0), before + 1);
            damaged += before % 3 == 0 ? 1 : 0;
            Check.same("damaged of " + x.total(0), x.total(1), damaged);
            x.pass(1);
            if (x.total(2) > 0 && before % 3 == 0) {
                x.undo();
                x.setQuality(0);
                x.pass(1);
                x.setQuality(4);
                x.pass(3);
                int cleared = x.end(k % 2, 2);
                Check.same("to be sent again", cleared, 1);
                x.hangUp();
                x.dial();
                x.pass(4);
            }
        }
    }

    /** Of several clauses of a kind the last one counts, in whole. */
    private static void lastNoise() {
        ModemLink x = Lines.online("line 5; rates 40 1; noise 6 0; noise 6;");
        Check.send(x, 0, "a");
        x.pass(1);
        Check.send(x, 0, "b");
        x.pass(1);
        Check.same("both damaged", x.total(1), 2);
    }

    private static void eventsKept() {
        ModemLink x = Check.loaded("line 9; rates 8 1; train 1 1 1 1;");
        for (int k = 0; k < 31; k++) {
            x.dial();
            x.pass(4);
            x.hangUp();
        }
        Lines.sizes(x, "62 events", 10, 60);
        Check.same("the oldest one", x.event(0, 0), 7);
        Check.same("its kind", x.event(0, 1), 1);
        Check.same("the newest one", x.event(59, 0), 124);
        Check.same("its kind", x.event(59, 1), 5);
        Check.same("by query", Check.query(x, "many kind = 5 and event < 60"), 30);
        Check.same("by query", Check.query(x, "first tick > 7"), 1);
        Check.same("by query", Check.query(x, "first event = 59"), 59);
        Check.same("by query", Check.query(x, "many not 1 = 2"), 60);
        x.undo();
        Check.same("the oldest one behind undo", x.event(0, 0), 4);
        Check.same("still 60", x.size(10), 60);
        x.undo();
        Check.same("the oldest one behind undo", x.event(0, 1), 1);
        Check.same("its tick", x.event(0, 0), 3);
    }

    private static void manyEvents() {
        ModemLink x = Check.loaded("line 9; rates 8 1; train 1 1 1 1;");
        for (int k = 0; k < 100; k++) {
            x.dial();
            x.pass(4);
            x.hangUp();
            for (int e = 0; e < x.size(10); e++) {
                int number = Math.max(0, 2 * (k + 1) - 60) + e;
                Check.same("tick of event " + number, x.event(e, 0), 4 * (number / 2) + (number % 2 == 0 ? 3 : 4));
                Check.same("kind of event " + number, x.event(e, 1), number % 2 == 0 ? 1 : 5);
            }
        }
    }

    private static void eventsBehindLoad() {
        ModemLink x = Check.loaded("line 9; rates 8 1; train 1 1 1 1;");
        for (int k = 0; k < 40; k++) {
            x.dial();
            x.pass(4);
            x.hangUp();
        }
        Check.load(x, "line 9; rates 8 1; train 1 1 1 1;");
        x.dial();
        x.pass(4);
        x.saveSnapshot();
        x.undo();
        x.hangUp();
        x.restoreSnapshot();
        Check.same("events behind load", Check.events(x), "3:1:-1:0");
    }
}
