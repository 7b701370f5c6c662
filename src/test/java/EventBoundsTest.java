/** The edges of the section "Events". */
final class EventBoundsTest {
    private EventBoundsTest() {
    }

    public static void main(String[] args) {
        latestSixty();
        numberedFromTheOldest();
        cameOnline();
        fellAndFailed();
        rose();
        lostCarrier();
        hungUp();
        markReceived();
        noEvents();
        Check.finish();
    }

    /** A line that came online and was hung up so often; each time is two events, in ticks 4 k + 3 and 4 k + 4. */
    private static ModemLink withCalls(int calls) {
        ModemLink x = Check.loaded(Lines.HEAD + "train 1 1 1 1;");
        for (int k = 0; k < calls; k++) {
            x.dial();
            x.pass(4);
            x.hangUp();
        }
        return x;
    }

    private static void latestSixty() {
        Check.about("Events are kept, the latest 60 of them");
        ModemLink x = withCalls(29);
        x.dial();
        x.pass(4);
        Lines.sizes(x, "59 events", 10, 59);
        Check.same("the oldest", x.event(0, 0), 3);
        Check.same("the latest", x.event(58, 0), 119);
        Check.noSuchElement("event 59 of 59", () -> x.event(59, 0));
        x.hangUp();
        Lines.sizes(x, "60 events", 10, 60);
        Check.same("the oldest", x.event(0, 0), 3);
        Check.same("its kind", x.event(0, 1), 1);
        Check.same("the latest", x.event(59, 0), 120);
        Check.same("its kind", x.event(59, 1), 5);
        Check.noSuchElement("event 60 of 60", () -> x.event(60, 0));
        x.dial();
        x.pass(4);
        Lines.sizes(x, "61 events", 10, 60);
        Check.same("the oldest", x.event(0, 0), 4);
        Check.same("its kind", x.event(0, 1), 5);
        Check.same("the latest", x.event(59, 0), 123);
        Check.same("its kind", x.event(59, 1), 1);
        Check.noSuchElement("event 60 of 61", () -> x.event(60, 0));
        Check.noSuchElement("event -1", () -> x.event(-1, 0));
    }

    private static void numberedFromTheOldest() {
        Check.about("They are numbered from 0, the oldest one that is kept");
        ModemLink x = withCalls(59);
        x.dial();
        x.pass(4);
        Lines.sizes(x, "119 events", 10, 60);
        for (int e = 0; e < 60; e++) {
            int number = 59 + e;
            Check.same("tick of event " + e, x.event(e, 0), 4 * (number / 2) + (number % 2 == 0 ? 3 : 4));
            Check.same("kind of event " + e, x.event(e, 1), number % 2 == 0 ? 1 : 5);
        }
        Check.same("by query", Check.query(x, "first tick > 119"), 0);
        Check.same("by query", Check.query(x, "first tick > 120"), 1);
        Check.same("by query", Check.query(x, "many event < 60"), 60);
        x.hangUp();
        Check.same("120 events", x.event(0, 0), 123);
        x.dial();
        x.pass(4);
        Check.same("121 events", x.event(0, 0), 124);
    }

    private static void cameOnline() {
        Check.about("1 the line came online; its end (NONE if it has none) and the number of the rate then; the rate is the one behind it");
        ModemLink x = Check.loaded("line 6; rates 8 1, 16 4, 24 9; train 1 1 1 1;");
        x.pass(1);
        x.dial();
        x.pass(3);
        Check.same("not yet", x.size(10), 0);
        x.pass(1);
        Check.same("online with rate 1", Check.events(x), "4:1:-1:1");
    }

    private static void fellAndFailed() {
        Check.about("2 it fell, 6 a failure of an end; An event comes when that is done; the rate is the one behind it");
        ModemLink x = Lines.online("line 5; rates 20 1, 30 2; noise 9; limit 2;");
        Check.send(x, 1, "a");
        x.pass(4);
        Check.same("a failure without a fall", Check.events(x), "3:1:-1:1 7:6:1:1");
        x.pass(3);
        Check.same("the failure first, then the fall", Check.events(x), "3:1:-1:1 7:6:1:1 10:6:1:1 10:2:-1:0");
        Check.send(x, 0, "a");
        x.pass(3);
        Check.same("at the lower rate", Check.events(x), "3:1:-1:1 7:6:1:1 10:6:1:1 10:2:-1:0 13:6:1:0");
    }

    private static void rose() {
        Check.about("3 it rose; the rate is the one behind it");
        ModemLink x = Lines.online("line 1; rates 20 1, 30 2, 40 9; patience 1;");
        x.setQuality(8);
        Check.send(x, 0, "a");
        x.pass(3);
        Check.same("risen to rate 1", Check.events(x), "3:1:-1:0 5:7:1:0 6:3:-1:1");
        x.setQuality(9);
        Check.send(x, 1, "a");
        x.pass(3);
        Check.same("risen to rate 2", Check.events(x), "3:1:-1:0 5:7:1:0 6:3:-1:1 8:7:0:1 9:3:-1:2");
    }

    private static void lostCarrier() {
        Check.about("4 the carrier was lost; the rate then (NONE if the line is not online)");
        ModemLink x = Lines.online("line 9; rates 20 1, 30 2;");
        x.setQuality(0);
        Check.same("not yet", Check.events(x), "3:1:-1:1");
        x.pass(1);
        Check.same("lost", Check.events(x), "3:1:-1:1 4:4:-1:-1");
        x.pass(1);
        Check.same("once", x.size(10), 2);
        x.setQuality(9);
        x.pass(3);
        Check.same("online again", Check.events(x), "3:1:-1:1 4:4:-1:-1 8:1:-1:1");
    }

    private static void hungUp() {
        Check.about("5 the line was hung up (of a hang-up NONE)");
        ModemLink x = Lines.online("line 9; rates 20 1, 30 2; retries 0; hold 0;");
        x.hangUp();
        Check.same("by the operation, online", Check.events(x), "3:1:-1:1 4:5:-1:-1");
        x.dial();
        x.hangUp();
        Check.same("by the operation, in training", x.event(2, 0), 4);
        Check.same("its rate", x.event(2, 3), -1);
        x.dial();
        x.setQuality(0);
        x.pass(1);
        Check.same("by a restart", x.event(3, 0), 4);
        Check.same("its kind", x.event(3, 1), 5);
        x.dial();
        x.setQuality(9);
        x.pass(4);
        x.setQuality(0);
        x.pass(1);
        Check.same("by a loss", Check.events(x), "3:1:-1:1 4:5:-1:-1 4:5:-1:-1 4:5:-1:-1 8:1:-1:1 9:4:-1:-1 9:5:-1:-1");
        x = Check.loaded("line 1; rates 20 2; train 1 1 1 1;");
        x.dial();
        x.pass(4);
        Check.same("without a rate", Check.events(x), "3:5:-1:-1");
        x = Lines.online("line 5; rates 20 1; noise 9; limit 1;");
        Check.send(x, 1, "a");
        x.pass(4);
        Check.same("by a failure", Check.events(x), "3:1:-1:0 7:6:1:0 7:5:-1:-1");
    }

    private static void markReceived() {
        Check.about("7 a marked frame was received by an end");
        ModemLink x = Lines.online("line 5; rates 70 1, 80 2; noise 6 0 0 0 0 0 0 0; delay 2 5;");
        Check.send(x, 0, "aaaaaaaaaaaa");
        Check.send(x, 1, "aaaaaaaaaaaa");
        x.pass(3);
        Check.same("of end 0, the receiver, alone", Check.events(x), "3:1:-1:1 6:7:0:1");
        x.pass(5);
        Check.same("then of end 1", Check.events(x), "3:1:-1:1 6:7:0:1 9:6:0:1 11:7:1:1");
        x.pass(10);
        Check.same("not of frames without a mark", x.size(10), 4);
        Check.same("received", x.total(10), 24);
    }

    private static void noEvents() {
        Check.about("Events are kept ... each with its kind: 1 to 7");
        ModemLink x = Check.loaded(Lines.HEAD + "train 1 1 1 1;");
        x.pass(5);
        x.setQuality(0);
        x.dial();
        x.pass(1);
        x.setQuality(9);
        Check.send(x, 0, "a");
        x.escape(0);
        Check.same("of waiting, dialling, restarts, quality, sending", x.size(10), 0);
        Check.noSuchElement("event 0 of none", () -> x.event(0, 0));
        Check.same("by query", Check.query(x, "many 1 = 1"), 0);
        Check.same("by query", Check.query(x, "first 1 = 1"), -1);
        x.pass(4);
        x.escape(1);
        x.resume(1);
        Check.same("of escapes", x.size(10), 1);
    }
}
