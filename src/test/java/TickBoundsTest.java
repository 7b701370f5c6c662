/** The edges of the section "A tick": training, carrier, arrivals, timers, rises and sending, each on both sides. */
final class TickBoundsTest {
    private TickBoundsTest() {
    }

    public static void main(String[] args) {
        stepBeginsAgain();
        restartsAndRetries();
        restartsSinceTrainingBegan();
        greatestRate();
        hold();
        trainingBehindLoss();
        leftOutInOtherCases();
        delays();
        orderOfArrivals();
        thrownAway();
        timeouts();
        oldestFrameDecides();
        timersInOrder();
        limits();
        failuresSinceAcknowledgement();
        failuresSinceOnline();
        nextLowerRate();
        patience();
        needOfNextRate();
        acknowledgementsSinceRise();
        acknowledgementsSinceFailure();
        acknowledgementsSinceOnline();
        noHigherRate();
        arrivalsBeforeTimers();
        timersBeforeRises();
        risesAndFallsBeforeSending();
        creditIsBounded();
        creditOfEscaped();
        creditIsEnough();
        sendingInOrder();
        noiseEdges();
        noiseNumbers();
        noiseOfRepetitions();
        noisesSinceLoad();
        damageIsDecidedWhenSent();
        timePasses();
        hangUpEndsTheTick();
        comingOnline();
        lossOfWhatIsUnderWay();
        hungUpByATick();
        hungUpWithFramesUnderWay();
        bothExpectNought();
        Check.finish();
    }

    private static void stepBeginsAgain() {
        Check.about("if the quality is 0, the present step begins again, and this counts as a restart");
        ModemLink x = Check.loaded(Lines.HEAD + "train 1 3 1 1;");
        x.dial();
        x.pass(3);
        Lines.sizes(x, "last tick of step 1", 4, 1, 5, 1, 6, 0);
        x.setQuality(0);
        x.pass(1);
        Lines.sizes(x, "begun again", 1, 1, 4, 1, 5, 3, 6, 1);
        x.setQuality(1);
        x.pass(2);
        Lines.sizes(x, "last tick of step 1 again", 4, 1, 5, 1, 6, 1);
        x.pass(1);
        Lines.sizes(x, "behind its last tick", 4, 2, 5, 1, 6, 1);
    }

    private static void restartsAndRetries() {
        Check.about("if the restarts since training began are then more than the retries (0 to 9), the line is hung up");
        for (int retries : new int[] {0, 1, 8, 9}) {
            ModemLink x = Check.loaded("line 0; rates 8 1; retries " + retries + ";");
            x.dial();
            for (int restart = 1; restart <= retries; restart++) {
                x.pass(1);
                Lines.sizes(x, "retries " + retries, 1, 1, 6, restart);
            }
            x.pass(1);
            Lines.sizes(x, "retries " + retries, 0, retries + 1, 1, 0, 6, -1);
            Check.same("event", Check.events(x), retries + ":5:-1:-1");
        }
        ModemLink x = new ModemLink();
        Check.same("retries 10", Check.load(x, Lines.HEAD + "retries 10;"), -12);
    }

    private static void restartsSinceTrainingBegan() {
        Check.about("the restarts since training began");
        ModemLink x = Check.loaded(Lines.HEAD + "train 1 1 1 1; retries 1;");
        x.dial();
        x.setQuality(0);
        x.pass(1);
        x.setQuality(9);
        x.pass(4);
        Lines.sizes(x, "online with one restart", 1, 2, 6, -1);
        x.setQuality(0);
        x.pass(1);
        x.setQuality(9);
        x.pass(1);
        Lines.sizes(x, "training again", 1, 1, 6, 0);
        x.setQuality(0);
        x.pass(1);
        Lines.sizes(x, "a first restart again", 1, 1, 6, 1);
        x.pass(1);
        Lines.sizes(x, "a second one", 1, 0);
        x.dial();
        Lines.sizes(x, "dialled", 1, 1, 6, 0);
        x.pass(1);
        Lines.sizes(x, "a first restart since it was dialled", 1, 1, 6, 1);
    }

    private static void greatestRate() {
        Check.about("the line gets the greatest rate whose need is at most the quality and comes online; if there is none, it is hung up");
        int[] due = {-1, -1, 0, 0, 1, 2, 2, 2, 3};
        for (int quality = 1; quality <= 9; quality++) {
            ModemLink x = Check.loaded("line " + quality + "; rates 8 3, 9 5, 10 6, 11 9; train 1 1 1 1;");
            x.dial();
            x.pass(4);
            Lines.sizes(x, "quality " + quality, 0, 4, 1, due[quality - 1] < 0 ? 0 : 2, 3, due[quality - 1]);
            Check.same("came online", x.total(8), due[quality - 1] < 0 ? 0 : 1);
            Check.same("hung up", x.total(7), due[quality - 1] < 0 ? 1 : 0);
        }
    }

    private static void hold() {
        Check.about("if it lasts more ticks than the hold (0 to 50) then, the line is hung up");
        for (int hold : new int[] {0, 1, 2, 49, 50}) {
            ModemLink x = Lines.online(Lines.HEAD + "hold " + hold + ";");
            x.setQuality(0);
            for (int loss = 1; loss <= hold; loss++) {
                x.pass(1);
                Lines.sizes(x, "hold " + hold, 1, 3, 7, loss);
            }
            Check.same("not hung up", x.total(7), 0);
            x.pass(1);
            Lines.sizes(x, "hold " + hold, 0, 5 + hold, 1, 0, 7, -1);
            Check.same("one loss", x.total(6), 1);
            Check.same("hung up", x.total(7), 1);
        }
        ModemLink x = new ModemLink();
        Check.same("hold 51", Check.load(x, Lines.HEAD + "hold 51;"), -12);
    }

    private static void trainingBehindLoss() {
        Check.about("Otherwise training begins with step 2, without restarts (nothing of this step is done in this tick)");
        for (int length : new int[] {1, 2, 20}) {
            ModemLink x = Check.loaded(Lines.HEAD + "train 3 4 " + length + " 5; hold 1;");
            x.dial();
            x.pass(12 + length);
            x.setQuality(0);
            x.pass(1);
            Lines.sizes(x, "lost", 1, 3, 4, -1, 5, -1, 6, -1, 7, 1);
            x.setQuality(1);
            x.pass(1);
            Lines.sizes(x, "step 2", 1, 1, 4, 2, 5, length, 6, 0, 7, -1);
            x.pass(length);
            Lines.sizes(x, "step 3", 1, 1, 4, 3, 5, 5, 6, 0);
            x.pass(4);
            Lines.sizes(x, "its last tick", 1, 1, 5, 1);
            x.pass(1);
            Lines.sizes(x, "online", 1, 2, 0, 19 + 2 * length);
        }
    }

    private static void leftOutInOtherCases() {
        Check.about("Otherwise the four points below follow (they are left out in all other cases)");
        ModemLink x = Check.loaded("line 9; rates 40 1; train 1 1 1 1;");
        x.dial();
        Check.send(x, 0, "a");
        x.pass(4);
        Lines.ends(x, "the tick of coming online", 0, 0, 1, 1, 0, 6, 0);
        x.pass(1);
        Lines.ends(x, "the next tick", 0, 0, 0, 1, 1, 6, 32);
        Lines.ends(x, "the next tick", 1, 6, 40);
        x.setQuality(0);
        Check.same("the tick of the loss", x.pass(1), 0);
        Lines.ends(x, "no credit", 0, 1, 1, 6, 32);
        Lines.ends(x, "no credit", 1, 5, 0, 6, 40);
        x.setQuality(9);
        x.pass(1);
        Lines.ends(x, "the tick of training", 0, 1, 1, 2, 0, 6, 32);
        x = Lines.online("line 9; rates 40 1;");
        Check.send(x, 0, "a");
        x.pass(3);
        Check.send(x, 0, "b");
        x.pass(1);
        x.setQuality(0);
        x.pass(3);
        Lines.totals(x, "no timers when the carrier is lost", 2, 0, 0, 0);
        Check.same("frames", Lines.frames(x, 0), "1:1:7");
        x.setQuality(9);
        x.pass(1);
        Lines.totals(x, "no timers in training", 2, 0, 0, 0);
    }

    private static void delays() {
        Check.about("what was sent the delay (1 to 9 ticks) before arrives");
        for (int delay : new int[] {1, 2, 9}) {
            ModemLink x = Lines.online("line 9; rates 40 1; delay " + delay + " " + (2 * delay + 1) + ";");
            Check.send(x, 0, "a");
            Check.same("not before", x.pass(delay), 0);
            Check.same("in tick " + (4 + delay), x.pass(1), 1);
            for (int tick = 1; tick < delay; tick++) {
                x.pass(1);
                Check.same("no acknowledgement yet", x.end(0, 1), 1);
            }
            Lines.sizes(x, "no acknowledgement yet", 0, 4 + 2 * delay, 9, 0);
            x.pass(1);
            Check.same("acknowledged in tick " + (4 + 2 * delay), x.end(0, 1), 0);
            Lines.sizes(x, "acknowledged", 9, 1);
            Lines.totals(x, "no failure", 1, 0, 0, 0);
        }
    }

    private static void orderOfArrivals() {
        Check.about("in the order in which it was sent");
        ModemLink x = Lines.online("line 9; rates 80 1; delay 3 7;");
        Check.send(x, 1, "uvwxyzabcdef");
        Check.send(x, 0, "ghi");
        x.pass(4);
        Check.same("end 0 sends first", Check.events(x), "3:1:-1:0 7:7:1:0 7:7:0:0");
        Check.same("received by 0", Check.received(x, 0), "uvwxyzabcdef");
        Check.same("nothing is thrown away", x.total(2), 0);
        x.pass(2);
        Lines.sizes(x, "no acknowledgement", 9, 0);
        x.pass(1);
        Lines.sizes(x, "all three", 9, 3);
    }

    private static void thrownAway() {
        Check.about("A frame that is damaged, or whose number is not the one that the receiver expects next, is thrown away");
        ModemLink x = Lines.online("line 5; rates 80 1; noise 0 6 0 0 0 0 0;");
        Check.send(x, 0, "aaaaaaaabbbbbbbbcccccccc");
        x.pass(1);
        Check.same("three frames", Lines.frames(x, 0), "0:8:4 1:8:4 2:8:4");
        Check.same("one is received", x.pass(1), 8);
        Lines.totals(x, "one is damaged, one not expected", 3, 1, 2);
        Lines.ends(x, "expected", 1, 4, 1, 5, 8);
        x.pass(1);
        Check.same("one is acknowledged", Lines.frames(x, 0), "1:8:4 2:8:4");
        Lines.sizes(x, "one is acknowledged", 9, 1);
        x.pass(1);
        Check.same("sent again", Lines.frames(x, 0), "1:8:7 2:8:7");
        Check.same("both are received", x.pass(1), 16);
        Lines.totals(x, "none is thrown away", 5, 1, 2);
        Lines.ends(x, "expected", 1, 4, 3, 5, 24);
        Check.same("received", Check.received(x, 1), "aaaaaaaabbbbbbbbcccccccc");
    }

    private static void timeouts() {
        Check.about("if the oldest one of its frames ... was sent at least the timeout before");
        int[][] clauses = {{1, 3}, {1, 4}, {1, 60}, {9, 19}, {9, 60}};
        for (int[] clause : clauses) {
            for (int end = 0; end <= 1; end++) {
                ModemLink x = Lines.online("line 5; rates 40 1; noise 6; delay " + clause[0] + " " + clause[1] + ";");
                Check.send(x, end, "a");
                x.pass(clause[1]);
                Lines.sizes(x, "one tick less", 0, 4 + clause[1], 8, 0);
                Check.same("frame", Lines.frames(x, end), "0:1:4");
                x.pass(1);
                Lines.sizes(x, "timeout " + clause[1], 8, 1);
                Check.same("failures", x.total(3), 1);
                Check.same("sent again", Lines.frames(x, end), "0:1:" + (4 + clause[1]));
            }
        }
    }

    private static void oldestFrameDecides() {
        Check.about("then all such frames are to be sent again, and this counts as a failure");
        ModemLink x = Lines.online("line 5; rates 10 1; delay 2 5; noise 6 0 0 0 0 0 0;");
        Check.send(x, 0, Lines.different(1, 16));
        x.pass(7);
        Check.same("tick 10", Lines.frames(x, 0), "0:8:6 1:8:9");
        Lines.totals(x, "tick 10", 2, 1, 1, 0);
        x.pass(1);
        Check.same("tick 11", Lines.frames(x, 0), "0:8:6* 1:8:9*");
        Lines.totals(x, "one failure", 2, 1, 2, 1);
        Lines.sizes(x, "one failure", 8, 1);
        x.pass(1);
        Check.same("tick 12: the first is sent again", Lines.frames(x, 0), "0:8:12 1:8:9*");
        x.pass(1);
        Lines.totals(x, "what is to be sent again cannot fail", 3, 1, 2, 1);
        x.pass(1);
        Check.same("tick 14: received", x.end(1, 5), 8);
        x.pass(1);
        Check.same("tick 15: sent again", Lines.frames(x, 0), "0:8:12 1:8:15");
        x.pass(1);
        Check.same("tick 16: acknowledged", Lines.frames(x, 0), "1:8:15");
        x.pass(3);
        Check.same("tick 19", Lines.frames(x, 0), "");
        Lines.totals(x, "no other failure", 4, 1, 2, 1);
    }

    private static void timersInOrder() {
        Check.about("Timers: for end 0, then end 1");
        ModemLink x = Lines.online("line 5; rates 40 1; noise 6; limit 3;");
        Check.send(x, 1, "a");
        Check.send(x, 0, "a");
        x.pass(4);
        Check.same("both fail", Check.events(x), "3:1:-1:0 7:6:0:0 7:6:1:0");
        Lines.sizes(x, "two failures of the line", 8, 2);
        x.pass(3);
        Check.same("the third hangs up", Check.events(x), "3:1:-1:0 7:6:0:0 7:6:1:0 10:6:0:0 10:5:-1:-1");
    }

    private static void limits() {
        Check.about("If the failures ... are as many as the limit (1 to 5) then, the line falls ...; if there is no lower one, the line is hung up");
        for (int limit = 1; limit <= 5; limit++) {
            ModemLink x = Lines.online("line 5; rates 30 1, 40 2; noise 9; limit " + limit + ";");
            Check.send(x, 0, "a");
            x.pass(3 * limit);
            Lines.sizes(x, "limit " + limit, 3, 1, 8, limit - 1);
            Check.same("falls", x.total(4), 0);
            x.pass(1);
            Lines.sizes(x, "limit " + limit, 3, 0, 8, 0);
            Lines.totals(x, "limit " + limit, limit + 1, limit + 1, limit, limit, 1);
            x.pass(3 * limit - 1);
            Lines.sizes(x, "limit " + limit, 1, 2, 3, 0, 8, limit - 1);
            x.pass(1);
            Lines.sizes(x, "limit " + limit, 1, 0, 3, -1, 8, 0);
            Check.same("failures", x.total(3), 2 * limit);
            Check.same("hung up", x.total(7), 1);
        }
        ModemLink x = new ModemLink();
        Check.same("limit 0", Check.load(x, Lines.HEAD + "limit 0;"), -12);
        Check.same("limit 6", Check.load(x, Lines.HEAD + "limit 6;"), -12);
    }

    private static void failuresSinceAcknowledgement() {
        Check.about("the failures since the latest acknowledgement");
        ModemLink x = Lines.online("line 5; rates 40 1; noise 6 6 0 0 0 0 0 0; limit 2;");
        Check.send(x, 0, "a");
        x.pass(4);
        Lines.sizes(x, "tick 7", 8, 1);
        x.saveSnapshot();
        x.pass(3);
        Lines.sizes(x, "a second failure in tick 10", 1, 0);
        x.restoreSnapshot();
        Check.send(x, 1, "a");
        x.pass(2);
        Lines.sizes(x, "received in tick 9", 8, 1);
        x.pass(1);
        Lines.sizes(x, "acknowledged and failed again in tick 10", 1, 2, 8, 1);
        x.pass(2);
        Lines.sizes(x, "acknowledged in tick 12", 1, 2, 8, 0, 9, 1);
    }

    private static void failuresSinceOnline() {
        Check.about("(or since the line came online)");
        ModemLink x = Lines.online("line 5; rates 40 1; noise 6; limit 2;");
        Check.send(x, 0, "a");
        x.pass(4);
        Lines.sizes(x, "tick 7", 8, 1);
        x.setQuality(0);
        x.pass(1);
        Lines.sizes(x, "lost", 1, 3, 8, 0);
        x.setQuality(5);
        x.pass(3);
        Lines.sizes(x, "online again", 0, 12, 1, 2, 8, 0);
        x.pass(4);
        Lines.sizes(x, "a first failure again in tick 15", 1, 2, 8, 1);
        x.pass(3);
        Lines.sizes(x, "a second one in tick 18", 1, 0);
        Check.same("failures", x.total(3), 3);
    }

    private static void nextLowerRate() {
        Check.about("the line falls to the next lower rate, and failures are counted from 0 again");
        ModemLink x = Lines.online("line 5; rates 10 1, 20 2, 30 3; noise 9; limit 1;");
        Check.send(x, 0, "a");
        x.pass(4);
        Lines.sizes(x, "tick 7", 3, 1, 8, 0);
        x.pass(3);
        Lines.sizes(x, "tick 10", 3, 0, 8, 0);
        x.pass(3);
        Lines.sizes(x, "tick 13", 1, 0);
        Check.same("events", Check.events(x),
            "3:1:-1:2 7:6:0:2 7:2:-1:1 10:6:0:1 10:2:-1:0 13:6:0:0 13:5:-1:-1");
        Check.same("falls", x.total(4), 2);
    }

    private static void acknowledge(ModemLink x) {
        Check.send(x, 0, "a");
        x.pass(3);
    }

    private static void patience() {
        Check.about("the acknowledgements ... are at least as many as the patience (1 to 50)");
        for (int patience : new int[] {1, 2, 49, 50}) {
            ModemLink x = Lines.online("line 1; rates 30 1, 40 9; patience " + patience + ";");
            x.setQuality(9);
            for (int count = 1; count < patience; count++) {
                acknowledge(x);
            }
            Lines.sizes(x, "patience " + patience, 3, 0, 9, patience - 1);
            Check.send(x, 0, "a");
            x.pass(2);
            Lines.sizes(x, "one before", 3, 0, 9, patience - 1);
            x.pass(1);
            Lines.sizes(x, "patience " + patience, 3, 1, 9, 0);
            Check.same("rises", x.total(5), 1);
        }
        ModemLink x = new ModemLink();
        Check.same("patience 0", Check.load(x, Lines.HEAD + "patience 0;"), -12);
        Check.same("patience 51", Check.load(x, Lines.HEAD + "patience 51;"), -12);
    }

    private static void needOfNextRate() {
        Check.about("there is a next higher rate and its need is at most the quality, the line rises to it");
        ModemLink x = Lines.online("line 1; rates 30 1, 40 6; patience 1;");
        x.setQuality(5);
        acknowledge(x);
        acknowledge(x);
        Lines.sizes(x, "a need of 6 at quality 5", 3, 0, 9, 2);
        x.setQuality(6);
        Lines.sizes(x, "no tick yet", 3, 0, 9, 2);
        x.pass(1);
        Lines.sizes(x, "a need of 6 at quality 6", 3, 1, 9, 0);
        x = Lines.online("line 1; rates 10 1, 20 2, 30 3; patience 1;");
        acknowledge(x);
        acknowledge(x);
        x.setQuality(9);
        x.pass(1);
        Lines.sizes(x, "the next rate, not the greatest", 3, 1, 9, 0);
    }

    private static void acknowledgementsSinceRise() {
        Check.about("the acknowledgements since the latest failure, fall or rise");
        ModemLink x = Lines.online("line 1; rates 10 1, 20 2, 30 3; patience 2;");
        for (int k = 0; k < 5; k++) {
            acknowledge(x);
        }
        Lines.sizes(x, "five, more than twice the patience", 3, 0, 9, 5);
        x.setQuality(9);
        x.pass(1);
        Lines.sizes(x, "risen", 3, 1, 9, 0);
        x.pass(2);
        Lines.sizes(x, "not again", 3, 1, 9, 0);
        acknowledge(x);
        Lines.sizes(x, "one", 3, 1, 9, 1);
        acknowledge(x);
        Lines.sizes(x, "two", 3, 2, 9, 0);
        Check.same("rises", x.total(5), 2);
    }

    private static void acknowledgementsSinceFailure() {
        Check.about("the acknowledgements since the latest failure, fall or rise");
        ModemLink x = Lines.online("line 4; rates 30 1, 40 6; patience 2; noise 0 7 0 0 0 0 0 0;");
        x.setQuality(6);
        acknowledge(x);
        Lines.sizes(x, "tick 6", 9, 1);
        Check.send(x, 0, "b");
        x.pass(3);
        Lines.sizes(x, "tick 9", 8, 0, 9, 1);
        x.pass(1);
        Lines.sizes(x, "failed in tick 10", 8, 1, 9, 0);
        x.pass(2);
        Lines.sizes(x, "acknowledged in tick 12", 3, 0, 8, 0, 9, 1);
        acknowledge(x);
        Lines.sizes(x, "two since the failure", 3, 1, 9, 0);
        x = Lines.online("line 6; rates 30 1, 40 6; patience 2; noise 0 7 0 0 0 0 0 0; limit 1;");
        acknowledge(x);
        Check.send(x, 0, "b");
        x.pass(4);
        Lines.sizes(x, "fallen in tick 10", 3, 0, 8, 0, 9, 0);
        x.pass(2);
        Lines.sizes(x, "one since the fall", 3, 0, 9, 1);
        acknowledge(x);
        Lines.sizes(x, "two since the fall", 3, 1, 9, 0);
    }

    private static void acknowledgementsSinceOnline() {
        Check.about("(or since the line came online)");
        ModemLink x = Lines.online("line 5; rates 30 1, 40 6; patience 2;");
        acknowledge(x);
        Lines.sizes(x, "one", 3, 0, 9, 1);
        x.setQuality(0);
        x.pass(1);
        Lines.sizes(x, "lost", 9, 0);
        x.setQuality(5);
        x.pass(3);
        x.setQuality(6);
        Lines.sizes(x, "online again", 1, 2, 3, 0, 9, 0);
        acknowledge(x);
        Lines.sizes(x, "one since then", 3, 0, 9, 1);
        acknowledge(x);
        Lines.sizes(x, "two since then", 3, 1, 9, 0);
    }

    private static void noHigherRate() {
        Check.about("there is a next higher rate");
        ModemLink x = Lines.online("line 9; rates 30 1; patience 1;");
        acknowledge(x);
        Lines.sizes(x, "one rate", 3, 0, 9, 1);
        x = Lines.online("line 9; rates 10 1, 20 2, 30 3, 40 4, 50 5; patience 1;");
        acknowledge(x);
        Lines.sizes(x, "the fifth rate", 3, 4, 9, 1);
        Check.same("rises", x.total(5), 0);
    }

    private static void arrivalsBeforeTimers() {
        Check.about("When a tick passes, this happens in this order: Arrivals, Timers");
        ModemLink x = Lines.online("line 5; rates 40 1; noise 6 0 0 0 0 0 0;");
        Check.send(x, 0, "a");
        x.pass(1);
        Check.send(x, 1, "a");
        x.pass(2);
        Lines.sizes(x, "tick 6", 8, 0, 9, 0);
        x.pass(1);
        Lines.sizes(x, "acknowledged, then failed in tick 7", 8, 1, 9, 0);
        Check.same("events", Check.events(x), "3:1:-1:0 6:7:0:0 7:6:0:0");
    }

    private static void timersBeforeRises() {
        Check.about("When a tick passes, this happens in this order: Timers, Rises");
        ModemLink x = Lines.online("line 4; rates 30 1, 40 6; patience 1; noise 7 0 0 0 0 0 0;");
        x.setQuality(6);
        Check.send(x, 0, "a");
        x.pass(1);
        Check.send(x, 1, "a");
        x.pass(3);
        Lines.sizes(x, "the failure of tick 7 comes before a rise", 3, 0, 8, 1, 9, 0);
        x.pass(1);
        Lines.sizes(x, "tick 8", 3, 0);
        x.pass(1);
        Lines.sizes(x, "tick 9", 3, 1, 8, 0, 9, 0);
    }

    private static void risesAndFallsBeforeSending() {
        Check.about("When a tick passes, this happens in this order: Timers, Rises, Sending (its credit grows by the speed of the rate)");
        ModemLink x = Lines.online("line 1; rates 30 1, 50 6; patience 1; noise 0 6 0;");
        x.setQuality(6);
        Check.send(x, 0, "a");
        x.pass(2);
        Lines.ends(x, "tick 5", 0, 6, 52);
        Lines.ends(x, "tick 5", 1, 6, 58);
        Check.send(x, 0, "a");
        x.pass(1);
        Lines.sizes(x, "risen in tick 6", 3, 1);
        Lines.ends(x, "by the speed of the new rate", 0, 6, 78 - 5);
        Lines.ends(x, "to 28 more than the new speed", 1, 6, 78);
        Lines.totals(x, "with the number of the new rate: 6 and 1 is more than 6", 2, 1);
        x = Lines.online("line 6; rates 30 1, 50 6; limit 1; noise 6 6;");
        Check.send(x, 0, "a");
        x.pass(3);
        Lines.ends(x, "tick 6", 0, 6, 78);
        x.pass(1);
        Lines.sizes(x, "fallen in tick 7", 3, 0);
        Lines.ends(x, "to 28 more than the lower speed", 0, 6, 58 - 8);
        Lines.ends(x, "to 28 more than the lower speed", 1, 6, 58);
        Lines.totals(x, "with the number of the lower rate: 6 and 0 is not more than 6", 2, 1);
    }

    private static void creditIsBounded() {
        Check.about("its credit grows by the speed of the rate, to at most 28 more than the speed");
        int[][] due = {{4, 4, 8, 12, 16, 20, 24, 28, 32, 32}, {10, 10, 20, 30, 38, 38}, {27, 27, 54, 55, 55},
            {28, 28, 56, 56}, {29, 29, 57, 57}, {80, 80, 108, 108}};
        for (int[] row : due) {
            ModemLink x = Lines.online("line 9; rates " + row[0] + " 1;");
            Check.same("credit at first", x.end(0, 6) + x.end(1, 6), 0);
            for (int tick = 1; tick < row.length; tick++) {
                x.pass(1);
                Check.same("credit of 0 with speed " + row[0], x.end(0, 6), row[tick]);
                Check.same("credit of 1 with speed " + row[0], x.end(1, 6), row[tick]);
            }
        }
    }

    private static void creditOfEscaped() {
        Check.about("Then, if the end has not escaped");
        ModemLink x = Lines.online("line 9; rates 8 1;");
        Check.send(x, 0, "a");
        Check.send(x, 1, "a");
        x.escape(0);
        x.pass(2);
        Lines.ends(x, "escaped", 0, 0, 1, 1, 0, 6, 16);
        Lines.ends(x, "not escaped", 1, 0, 0, 1, 1, 6, 8);
        x.resume(0);
        x.pass(1);
        Lines.ends(x, "resumed", 0, 0, 0, 1, 1, 6, 16);
        x = Lines.online("line 5; rates 40 1; noise 6;");
        Check.send(x, 0, "a");
        x.pass(1);
        x.escape(0);
        x.pass(3);
        Check.same("nothing is sent again either", Lines.frames(x, 0), "0:1:4*");
        x.pass(9);
        Check.same("and nothing fails", x.total(3), 1);
    }

    private static void creditIsEnough() {
        Check.about("It is sent if the credit is at least its cost ...; otherwise the end stops for this tick (a new frame is not made then)");
        ModemLink x = Lines.online("line 9; rates 8 1;");
        Check.send(x, 0, "a");
        x.pass(1);
        Lines.ends(x, "8 of 8", 0, 0, 0, 1, 1, 3, 1, 6, 0, 8, 1);
        x = Lines.online("line 9; rates 7 1;");
        Check.send(x, 0, "a");
        x.pass(1);
        Lines.ends(x, "8 of 7", 0, 0, 1, 1, 0, 3, 0, 6, 7, 8, 0);
        Lines.totals(x, "8 of 7", 0, 0);
        Check.same("no frame", Lines.frames(x, 0), "");
        Check.send(x, 0, "b");
        x.pass(1);
        Check.same("a later byte is in the frame", Lines.frames(x, 0), "0:2:5");
        Lines.ends(x, "11 of 14", 0, 0, 0, 3, 1, 6, 3);
        x = Lines.online("line 9; rates 23 1;");
        Check.send(x, 0, "aaaaaaaaaaaa");
        x.pass(1);
        Lines.ends(x, "15 and 8 of 23", 0, 1, 2, 6, 0);
        x = Lines.online("line 9; rates 22 1;");
        Check.send(x, 0, "aaaaaaaaaaaa");
        x.pass(1);
        Lines.ends(x, "15 and 8 of 22", 0, 0, 4, 1, 1, 6, 7);
        x.pass(1);
        Lines.ends(x, "8 of 29", 0, 0, 0, 1, 2, 6, 21);
    }

    private static void sendingInOrder() {
        Check.about("Sending: for end 0, then end 1 ... as long as it can");
        ModemLink x = Lines.online("line 5; rates 80 1; noise 0 6;");
        Check.send(x, 1, "a");
        Check.send(x, 0, "a");
        x.pass(2);
        Lines.ends(x, "the first one is that of end 0", 1, 5, 1);
        Lines.ends(x, "the second one is damaged", 0, 5, 0);
        x = Lines.online("line 5; rates 80 1; noise 0 0 6 0;");
        Check.send(x, 1, "a");
        Check.send(x, 0, "aaaaaaaaaaaaaaaa");
        x.pass(2);
        Lines.ends(x, "end 0 sends both before end 1 sends", 1, 5, 16);
        Lines.ends(x, "the third one is damaged", 0, 5, 0);
    }

    private static void noiseEdge(String rates, int quality, int noise, int damaged) {
        ModemLink x = Lines.online("line " + quality + "; rates " + rates + "; noise " + noise + ";");
        Check.send(x, 0, "a");
        x.pass(1);
        Lines.totals(x, "noise " + noise + " at quality " + quality + ", " + rates, 1, damaged);
        Check.same("received", x.pass(1), 1 - damaged);
        Check.same("thrown away", x.total(2), damaged);
    }

    private static void noiseEdges() {
        Check.about("is damaged if the noise ..., plus the number of the rate, is greater than the quality");
        noiseEdge("40 1", 5, 5, 0);
        noiseEdge("40 1", 5, 6, 1);
        noiseEdge("30 1, 40 5", 5, 4, 0);
        noiseEdge("30 1, 40 5", 5, 5, 1);
        noiseEdge("10 1, 20 2, 30 3, 40 4, 50 5", 5, 1, 0);
        noiseEdge("10 1, 20 2, 30 3, 40 4, 50 5", 5, 2, 1);
        noiseEdge("40 1", 9, 9, 0);
        noiseEdge("30 1, 40 9", 9, 8, 0);
        noiseEdge("30 1, 40 9", 9, 9, 1);
        noiseEdge("40 1", 1, 1, 0);
        noiseEdge("40 1", 1, 2, 1);
        noiseEdge("40 1", 1, 0, 0);
    }

    private static void noiseNumbers() {
        Check.about("The k-th frame ... the noise with the number k modulo how many noises there are");
        String[] noises = {"6", "6 0", "0 6 0", "0 0 0 0 0 0 0 0 0 6"};
        for (String row : noises) {
            String[] each = row.split(" ");
            ModemLink x = Lines.online("line 5; rates 80 1; window 7; delay 9 60; noise " + row + ";");
            int damaged = 0;
            for (int k = 0; k < 14; k++) {
                Check.send(x, k % 2, "a");
                x.pass(1);
                damaged += each[k % each.length].equals("6") ? 1 : 0;
                Lines.totals(x, "noise " + row + ", frame " + k, k + 1, damaged);
            }
        }
    }

    private static void noiseOfRepetitions() {
        Check.about("(from 0, both ends and repetitions together, since load)");
        ModemLink x = Lines.online("line 5; rates 80 1; noise 6 0 0;");
        Check.send(x, 0, "a");
        x.pass(4);
        Lines.totals(x, "frame 0, and again as 1", 2, 1, 1, 1);
        Check.send(x, 0, "b");
        x.pass(1);
        Lines.totals(x, "frame 2", 3, 1);
        Check.send(x, 1, "b");
        x.pass(1);
        Lines.totals(x, "frame 3", 4, 2);
    }

    private static void noisesSinceLoad() {
        Check.about("(from 0, both ends and repetitions together, since load)");
        ModemLink x = Lines.online("line 5; rates 80 1; noise 0 6 0;");
        Check.send(x, 0, "a");
        x.pass(1);
        Lines.totals(x, "frame 0", 1, 0);
        x.hangUp();
        x.dial();
        x.pass(4);
        Check.send(x, 0, "a");
        x.pass(1);
        Lines.totals(x, "dialled again, frame 1", 2, 1);
        Check.load(x, "line 5; rates 80 1; noise 0 6 0; train 1 1 1 1;");
        x.dial();
        x.pass(4);
        Check.send(x, 0, "a");
        x.pass(1);
        Lines.totals(x, "loaded again, frame 0", 1, 0);
    }

    private static void damageIsDecidedWhenSent() {
        Check.about("The k-th frame that is sent ... is damaged if the noise ... is greater than the quality");
        ModemLink x = Lines.online("line 5; rates 40 1; noise 6;");
        Check.send(x, 0, "a");
        x.pass(1);
        x.setQuality(6);
        Check.same("damaged when it was sent", x.pass(1), 0);
        x.pass(2);
        x.setQuality(5);
        Check.same("sound when it was sent again", x.pass(1), 1);
        Lines.totals(x, "both", 2, 1, 1);
    }

    private static void timePasses() {
        Check.about("In all cases the time becomes greater by 1");
        ModemLink x = Check.loaded(Lines.HEAD + "train 1 1 1 1; hold 1; retries 0;");
        x.pass(1);
        Lines.sizes(x, "idle", 0, 1, 1, 0);
        x.dial();
        Lines.sizes(x, "dialled", 0, 1);
        x.pass(3);
        Lines.sizes(x, "training", 0, 4, 1, 1);
        x.pass(1);
        Lines.sizes(x, "coming online", 0, 5, 1, 2);
        x.pass(1);
        Lines.sizes(x, "online", 0, 6, 1, 2);
        x.setQuality(0);
        x.pass(1);
        Lines.sizes(x, "losing the carrier", 0, 7, 1, 3);
        x.pass(1);
        Lines.sizes(x, "hung up for the loss", 0, 8, 1, 0);
        x.dial();
        x.pass(1);
        Lines.sizes(x, "hung up in training", 0, 9, 1, 0);
    }

    private static void hangUpEndsTheTick() {
        Check.about("(If the line is hung up, this alone follows of the tick.)");
        ModemLink x = Lines.online("line 5; rates 4 1; noise 9; limit 1;");
        Check.send(x, 0, "a");
        Check.send(x, 1, "a");
        x.pass(4);
        Check.same("tick 7", Lines.frames(x, 0) + " " + Lines.frames(x, 1), "0:1:5 0:1:5");
        Lines.ends(x, "tick 7", 0, 6, 8);
        x.pass(1);
        Check.same("end 1 does not fail", Check.events(x), "3:1:-1:0 8:6:0:0 8:5:-1:-1");
        Lines.totals(x, "nothing is sent", 2, 2, 2, 1, 0, 0, 0, 1);
        Lines.ends(x, "no credit", 0, 6, 8);
        Lines.ends(x, "no credit", 1, 6, 8);
        Lines.sizes(x, "the time", 0, 9, 1, 0);
        x = Lines.online("line 5; rates 4 1; noise 9; limit 1;");
        Check.send(x, 1, "a");
        x.pass(5);
        Check.same("end 1 fails", Check.events(x), "3:1:-1:0 8:6:1:0 8:5:-1:-1");
        Lines.ends(x, "no credit", 0, 6, 20 - 4);
        Lines.ends(x, "no credit", 1, 6, 8);
        Lines.sizes(x, "the time", 0, 9, 1, 0);
    }

    private static void comingOnline() {
        Check.about("When the line comes online, frames that the other end has received are acknowledged and forgotten, all others are to be sent again");
        ModemLink x = Lines.online("line 9; rates 80 1; delay 3 7;");
        Check.send(x, 0, "aaaaaaaabbbbbbbb");
        x.pass(1);
        Check.send(x, 0, "cccccccc");
        Check.send(x, 1, "x");
        x.escape(1);
        x.pass(3);
        x.setQuality(0);
        x.pass(1);
        Check.same("two are received, one is not", Lines.frames(x, 0), "0:8:4 1:8:4 2:8:5");
        Lines.ends(x, "lost", 1, 0, 1, 4, 2, 5, 16, 7, 1);
        x.setQuality(9);
        x.pass(2);
        Check.same("in training still all three", Lines.frames(x, 0), "0:8:4 1:8:4 2:8:5");
        Check.yes("credits are kept in training", x.end(0, 6) > 0 && x.end(1, 6) > 0);
        Check.same("escaped in training", x.end(1, 7), 1);
        x.pass(1);
        Check.same("online", Lines.frames(x, 0), "2:8:5*");
        Check.about("nothing is under way, credits are 0, nobody has escaped, failures and acknowledgements are counted from 0");
        Lines.ends(x, "online", 0, 1, 0, 2, 1, 3, 3, 6, 0, 7, 0);
        Lines.ends(x, "online", 1, 0, 1, 3, 0, 4, 2, 6, 0, 7, 0);
        Lines.sizes(x, "online", 1, 2, 8, 0, 9, 0);
        x.pass(3);
        Lines.sizes(x, "no old acknowledgement arrives", 9, 0);
        Check.same("no old frame arrives", x.end(1, 5), 16);
        x.pass(1);
        Check.same("frame 2 arrives", x.end(1, 5), 24);
        Check.same("the other end sends, too", Check.received(x, 0), "x");
        Check.same("nothing is thrown away", x.total(2), 0);
    }

    private static void lossOfWhatIsUnderWay() {
        Check.about("When the carrier is lost, all that is under way is lost");
        ModemLink x = Lines.online("line 9; rates 80 1; delay 9 60;");
        Check.send(x, 0, "a");
        x.pass(1);
        x.setQuality(0);
        x.pass(1);
        x.setQuality(9);
        x.pass(3);
        Lines.sizes(x, "online again", 0, 9, 1, 2);
        Check.same("tick 13, nine behind tick 4", x.pass(5), 0);
        Check.same("tick 17", x.pass(4), 0);
        Check.same("tick 18, nine behind tick 9", x.pass(1), 1);
        Check.same("the first one never arrived", x.total(2), 0);
        x.setQuality(0);
        x.pass(1);
        x.setQuality(9);
        x.pass(3);
        Check.same("the acknowledgement is lost, the frame is forgotten", Lines.frames(x, 0), "");
        x.pass(20);
        Lines.sizes(x, "no acknowledgement", 9, 0);
    }

    private static void nothingArrives(ModemLink x, String when) {
        int thrownAway = x.total(2);
        int received = x.total(10);
        x.setQuality(9);
        x.dial();
        x.pass(30);
        Lines.sizes(x, when, 1, 2, 9, 0);
        Check.same(when + ": nothing is thrown away", x.total(2), thrownAway);
        Check.same(when + ": nothing is received", x.total(10), received);
        for (int end = 0; end <= 1; end++) {
            Lines.ends(x, when, end, 0, 0, 1, 0, 2, 0, 3, 0, 4, 0);
        }
    }

    private static void hungUpWithFramesUnderWay() {
        Check.about("When the line is hung up, it is idle: queues, frames and what is under way are lost");
        ModemLink x = Lines.online("line 9; rates 80 1; delay 2 5;");
        Check.send(x, 0, "a");
        Check.send(x, 1, "b");
        x.pass(1);
        x.hangUp();
        nothingArrives(x, "frames, by the operation");
        Check.send(x, 0, "a");
        Check.send(x, 1, "b");
        x.pass(3);
        Check.same("received", x.total(10), 2);
        x.hangUp();
        nothingArrives(x, "acknowledgements, by the operation");
        x = Lines.online("line 5; rates 80 1; delay 2 5; noise 9; limit 1; window 7;");
        Check.send(x, 0, "a");
        x.pass(4);
        Check.send(x, 0, "a");
        x.pass(1);
        Check.same("under way", Lines.frames(x, 0), "0:1:4 1:1:8");
        x.pass(1);
        Lines.sizes(x, "a failure", 1, 0);
        nothingArrives(x, "frames, by a failure");
    }

    private static void bothExpectNought() {
        Check.about("When it is dialled, both ends expect number 0");
        ModemLink x = Lines.online("line 9; rates 80 1;");
        Check.send(x, 0, "aaaaaaaaa");
        Check.send(x, 1, "aaaaaaaaaaaaaaaaa");
        x.pass(3);
        Lines.ends(x, "online", 0, 3, 2, 4, 3);
        Lines.ends(x, "online", 1, 3, 3, 4, 2);
        x.hangUp();
        Lines.ends(x, "hung up", 0, 3, 2, 4, 3);
        Lines.ends(x, "hung up", 1, 3, 3, 4, 2);
        x.dial();
        Lines.ends(x, "dialled", 0, 3, 0, 4, 0);
        Lines.ends(x, "dialled", 1, 3, 0, 4, 0);
        x.pass(4);
        Check.send(x, 0, "b");
        Check.send(x, 1, "c");
        x.pass(2);
        Check.same("received by 1", x.end(1, 5), 10);
        Check.same("received by 0", x.end(0, 5), 18);
    }

    private static void hungUpByATick() {
        Check.about("When the line is hung up, it is idle: queues, frames and what is under way are lost; received bytes, dictionaries, credits, escapes and numbers stay");
        ModemLink x = Lines.online("line 9; rates 20 1; hold 0; delay 2 5;");
        Check.send(x, 0, "abcabcab");
        Check.send(x, 1, "xy");
        x.escape(1);
        x.pass(2);
        Check.send(x, 0, "c");
        x.pass(1);
        Check.send(x, 0, "d");
        x.setQuality(0);
        x.pass(1);
        Lines.sizes(x, "hung up", 1, 0);
        Lines.ends(x, "hung up", 0, 0, 0, 1, 0, 2, 0, 3, 2, 4, 0, 5, 0, 6, 36, 7, 0, 8, 3, 9, 0);
        Lines.ends(x, "hung up", 1, 0, 0, 1, 0, 2, 0, 3, 0, 4, 1, 5, 8, 6, 48, 7, 1, 8, 0, 9, 3);
        Check.same("received", Check.received(x, 1), "abcabcab");
        Check.same("writing", Check.words(x, 0, true), "cba");
        Check.same("reading", Check.words(x, 1, false), "bac");
        Check.about("When it is dialled, both ends expect number 0");
        x.dial();
        Lines.ends(x, "dialled", 0, 3, 0, 4, 0, 6, 36, 8, 3);
        Lines.ends(x, "dialled", 1, 3, 0, 4, 0, 5, 8, 6, 48, 7, 1, 9, 3);
        x.setQuality(9);
        x.pass(8);
        Lines.totals(x, "nothing arrives", 2, 0, 0, 0, 0, 0, 1, 1, 2, 24, 8);
    }
}
