/** The calls one by one: wrong inputs, error codes, answers ahead of time, and undo, snapshot and format. */
final class CallTest {
    private CallTest() {
    }

    public static void main(String[] args) {
        numbersOutOfRange();
        placesOutOfRange();
        receivedKept();
        rates();
        nextCosts();
        ticksToFinish();
        receivedBehind();
        leastQuality();
        quotients();
        pass();
        timeLimit();
        dialAndHangUp();
        escapeAndResume();
        send();
        setQuality();
        formats();
        undo();
        undoRestoresAll();
        snapshot();
        Check.finish();
    }

    private static final int[] FAR = {Integer.MIN_VALUE, -2, -1, 60, 1000, Integer.MAX_VALUE};

    private static void numbersOutOfRange() {
        ModemLink x = Lines.online("line 9; rates 20 1;");
        Check.send(x, 0, "abc");
        x.pass(1);
        Check.send(x, 1, "abc");
        x.pass(1);
        for (int far : FAR) {
            Check.noSuchElement("size " + far, () -> x.size(far));
            Check.noSuchElement("total " + far, () -> x.total(far));
            Check.noSuchElement("end 0 " + far, () -> x.end(0, far));
            Check.noSuchElement("end " + far, () -> x.end(far, 0));
            Check.noSuchElement("rate " + far, () -> x.rate(far, 0));
            Check.noSuchElement("rate 0 " + far, () -> x.rate(0, far));
            Check.noSuchElement("frame " + far, () -> x.frame(far, 0, 0));
            Check.noSuchElement("frame 0 " + far, () -> x.frame(0, far, 0));
            Check.noSuchElement("frame 0 0 " + far, () -> x.frame(0, 0, far));
            Check.noSuchElement("received " + far, () -> x.received(far, 0));
            Check.noSuchElement("word " + far, () -> x.word(far, true, 0));
            Check.noSuchElement("event " + far, () -> x.event(far, 0));
            Check.noSuchElement("event 0 " + far, () -> x.event(0, far));
            Check.noSuchElement("nextCost " + far, () -> x.nextCost(far));
            Check.noSuchElement("receivedBehind " + far, () -> x.receivedBehind(far, -1));
            Check.noSuchElement("escape " + far, () -> x.escape(far));
            Check.noSuchElement("resume " + far, () -> x.resume(far));
            Check.noSuchElement("send " + far, () -> x.send(far, -1));
            Check.illegalArgument("rateFor " + far, () -> x.rateFor(far));
            Check.illegalArgument("setQuality " + far, () -> x.setQuality(far));
        }
        Check.noSuchElement("size 12", () -> x.size(12));
        Check.noSuchElement("total 11", () -> x.total(11));
        Check.noSuchElement("end 0 10", () -> x.end(0, 10));
        Check.noSuchElement("end 2", () -> x.end(2, 0));
        Check.noSuchElement("rate 1", () -> x.rate(1, 0));
        Check.noSuchElement("rate 0 2", () -> x.rate(0, 2));
        Check.noSuchElement("frame 2", () -> x.frame(2, 0, 0));
        Check.noSuchElement("frame 0 1", () -> x.frame(0, 1, 0));
        Check.noSuchElement("frame 1 1", () -> x.frame(1, 1, 0));
        Check.noSuchElement("frame 0 0 4", () -> x.frame(0, 0, 4));
        Check.noSuchElement("event 2", () -> x.event(2, 0));
        Check.noSuchElement("event 0 4", () -> x.event(0, 4));
        Check.same("undoCount behind exceptions", x.undoCount(), 6);
    }

    private static void placesOutOfRange() {
        ModemLink x = Lines.online("line 9; rates 20 1;");
        Check.send(x, 0, "ab");
        x.pass(2);
        for (int far : FAR) {
            Check.same("received 1 " + far, x.received(1, far), -1);
            Check.same("word 0 true " + far, x.word(0, true, far), -1);
            Check.same("word 1 false " + far, x.word(1, false, far), -1);
            Check.same("formattedByte " + far, x.formattedByte(far), -1);
        }
        Check.same("received", Check.received(x, 1), "ab");
        Check.same("received 0", x.received(0, 0), -1);
        Check.same("received 2", x.received(1, 2), -1);
        Check.same("word 0 true 0", x.word(0, true, 0), 'b');
        Check.same("word 0 true 1", x.word(0, true, 1), 'a');
        Check.same("word 0 true 2", x.word(0, true, 2), -1);
        Check.same("word 0 false 0", x.word(0, false, 0), -1);
        Check.same("word 1 false 1", x.word(1, false, 1), 'a');
        Check.same("word 1 true 0", x.word(1, true, 0), -1);
    }

    private static void receivedKept() {
        ModemLink x = Lines.online("line 9; rates 80 1; window 7;");
        for (int k = 0; k < 3; k++) {
            StringBuilder text = new StringBuilder();
            for (int b = 0; b < 200; b++) {
                text.append((char) ((k * 200 + b) % 251));
            }
            Check.same("send " + k, Check.send(x, 1, text.toString()), 200);
            Check.same("pass " + k, x.pass(60), 200);
        }
        Check.same("received bytes", x.end(0, 5), 600);
        Check.same("total", x.total(10), 600);
        for (int place = 0; place < 400; place++) {
            Check.same("received " + place, x.received(0, place), place % 251);
        }
        Check.same("received 400", x.received(0, 400), -1);
        Check.same("received 599", x.received(0, 599), -1);
        x.undo();
        Check.same("behind undo", x.received(0, 399), 399 % 251);
        x.undo();
        x.undo();
        Check.same("behind three undos", x.end(0, 5), 200);
        Check.same("behind three undos", x.received(0, 200), -1);
        Check.same("behind three undos", x.received(0, 199), 199);
    }

    private static void rates() {
        ModemLink x = Check.loaded("line 9; rates 4 2, 33 5, 80 9;");
        Check.same("rate 0 0", x.rate(0, 0), 4);
        Check.same("rate 1 0", x.rate(1, 0), 33);
        Check.same("rate 1 1", x.rate(1, 1), 5);
        Check.same("rate 2 1", x.rate(2, 1), 9);
        int[] due = {-1, -1, 0, 0, 0, 1, 1, 1, 1, 2};
        for (int quality = 0; quality <= 9; quality++) {
            Check.same("rateFor " + quality, x.rateFor(quality), due[quality]);
        }
        Check.illegalArgument("rateFor 10", () -> x.rateFor(10));
    }

    private static void nextCosts() {
        ModemLink x = Check.loaded("line 9; rates 40 1; train 1 1 1 1; window 1;");
        x.dial();
        Check.send(x, 0, "abcdefghijk");
        Check.same("not online", x.nextCost(0), 0);
        x.pass(4);
        Check.same("marked", x.nextCost(0), 29);
        Check.same("empty queue", x.nextCost(1), 0);
        x.pass(1);
        Check.same("not marked, and the window is full", x.nextCost(0), 13);
        x.escape(0);
        Check.same("escaped", x.nextCost(0), 13);
        Check.same("twice the same", x.nextCost(0), 13);
        Check.same("writes nothing", Check.words(x, 0, true), "hgfedcba");
        x.setQuality(0);
        x.pass(1);
        Check.same("lost", x.nextCost(0), 0);
    }

    private static void ticksToFinish() {
        // With a window of 1 and a delay of 9 each of 22 frames takes 18 ticks.
        ModemLink x = Check.loaded("line 9; rates 40 1; train 1 1 1 1; window 1; delay 9 60;");
        Check.same("idle", x.ticksToFinish(), -1);
        x.dial();
        Check.same("training, nothing to send", x.ticksToFinish(), 4);
        Check.send(x, 0, "a".repeat(176));
        Check.same("401 ticks", x.ticksToFinish(), -1);
        x.pass(1);
        Check.same("400 ticks", x.ticksToFinish(), 400);
        Check.same("nothing happens by it", x.size(0), 1);
        x.pass(200);
        Check.same("200 ticks", x.ticksToFinish(), 200);
        x.pass(199);
        Check.same("1 tick", x.ticksToFinish(), 1);
        x.pass(1);
        Check.same("0 ticks", x.ticksToFinish(), 0);
        Check.send(x, 0, "b");
        x.setQuality(0);
        Check.same("hung up before", x.ticksToFinish(), -1);
        x.pass(1);
        Check.same("lost and hung up before", x.ticksToFinish(), -1);
        x.setQuality(9);
        Check.same("lost and trained", x.ticksToFinish(), 3 + 19);
        Check.same("undoCount", x.undoCount(), 10);
    }

    private static void receivedBehind() {
        ModemLink x = Check.loaded("line 9; rates 20 1; train 1 1 1 1; window 1; delay 9 60;");
        Check.same("idle", x.receivedBehind(0, 400), 0);
        x.dial();
        Check.send(x, 0, "abcdefghi".repeat(20));
        Check.same("0 ticks", x.receivedBehind(1, 0), 0);
        Check.same("14 ticks", x.receivedBehind(1, 14), 0);
        Check.same("15 ticks", x.receivedBehind(1, 15), 8);
        Check.same("400 ticks", x.receivedBehind(1, 400), 176);
        Check.same("other end", x.receivedBehind(0, 400), 0);
        x.pass(200);
        int now = x.end(1, 5);
        Check.same("0 ticks", x.receivedBehind(1, 0), now);
        Check.same("200 ticks", x.receivedBehind(1, 200), 176);
        Check.illegalArgument("401 ticks", () -> x.receivedBehind(1, 401));
        Check.illegalArgument("-1 ticks", () -> x.receivedBehind(0, -1));
        Check.noSuchElement("end 2", () -> x.receivedBehind(2, 401));
        Check.same("nothing happens by it", x.size(0), 200);
    }

    private static void leastQuality() {
        ModemLink x = Check.loaded("line 0; rates 20 3; noise 5; limit 2; train 1 1 1 1; retries 9;");
        Check.same("idle", x.leastQuality(), -1);
        x.dial();
        Check.same("training, nothing to send", x.leastQuality(), 3);
        Check.send(x, 0, "a");
        Check.same("frames are damaged below 5", x.leastQuality(), 5);
        x.setQuality(9);
        x.pass(7);
        Check.same("finished now", x.ticksToFinish(), 0);
        Check.same("finished at any quality", x.leastQuality(), 0);
        Check.send(x, 1, "a");
        Check.same("online", x.leastQuality(), 5);
        x.escape(1);
        Check.same("escaped", x.leastQuality(), -1);
        Check.same("the quality stays", x.size(2), 9);
    }

    private static void quotients() {
        ModemLink x = Lines.online("line 5; rates 40 1; noise 6 0 0;");
        Check.same("no bytes", x.costPerByte(), 0.0);
        Check.same("no frames", x.damage(), 0.0f);
        Check.send(x, 0, "abc");
        x.pass(1);
        Check.same("frames, but no bytes", x.costPerByte(), 0.0);
        Check.same("one of one", x.damage(), 1.0f);
        x.pass(4);
        Check.same("costs", x.total(9), 28);
        Check.same("28 by 6", x.costPerByte(), 28.0 / 6.0);
        Check.same("one of two", x.damage(), 0.5f);
        Check.send(x, 0, "d");
        x.pass(2);
        Check.same("one of three", x.damage(), 1.0f / 3.0f);
        Check.same("35 by 8", x.costPerByte(), 35.0 / 8.0);
    }

    private static void pass() {
        ModemLink x = Lines.online("line 9; rates 40 1;");
        Check.illegalArgument("pass 0", () -> x.pass(0));
        Check.illegalArgument("pass -1", () -> x.pass(-1));
        Check.illegalArgument("pass 201", () -> x.pass(201));
        Check.illegalArgument("pass most", () -> x.pass(Integer.MAX_VALUE));
        Check.same("time", x.size(0), 4);
        Check.same("undoCount", x.undoCount(), 2);
        Check.send(x, 0, "abc");
        Check.send(x, 1, "abcde");
        Check.same("pass 200 counts both ends", x.pass(200), 8);
        Check.same("pass 1", x.pass(1), 0);
        Check.same("time", x.size(0), 205);
        Check.same("undoCount", x.undoCount(), 6);
    }

    private static void timeLimit() {
        ModemLink x = new ModemLink();
        for (int k = 0; k < 499; k++) {
            x.pass(200);
        }
        Check.same("time", x.size(0), 99800);
        Check.same("one too many", x.pass(200), -2);
        Check.same("undoCount", x.undoCount(), 10);
        Check.same("the last ticks", x.pass(199), 0);
        Check.same("time", x.size(0), 99999);
        Check.same("no more", x.pass(1), -2);
        Check.illegalArgument("exceptions first", () -> x.pass(201));
        x.dial();
        Check.same("ahead of the limit", x.ticksToFinish(), 8);
    }

    private static void dialAndHangUp() {
        ModemLink x = Check.loaded("line 9; rates 40 1; train 1 2 3 20; hold 9;");
        Check.same("hangUp when idle", x.hangUp(), -2);
        Check.same("undoCount", x.undoCount(), 0);
        Check.same("dial", x.dial(), 26);
        Check.same("dial in training", x.dial(), -2);
        Check.send(x, 0, "abc");
        Check.send(x, 1, "de");
        Check.same("hangUp in training", x.hangUp(), 5);
        Check.same("queue", x.end(0, 0) + x.end(1, 0), 0);
        Check.same("event", Check.events(x), "0:5:-1:-1");
        Check.same("hang-ups", x.total(7), 1);
        x.dial();
        x.pass(26);
        Check.same("dial online", x.dial(), -2);
        Check.send(x, 0, "abcdefghij");
        x.pass(1);
        Check.send(x, 0, "klm");
        Check.same("hangUp with frames under way", x.hangUp(), 13);
        x.undo();
        x.pass(1);
        Check.same("two received, not acknowledged, one under way", x.hangUp(), 3);
        x.undo();
        x.setQuality(0);
        x.pass(1);
        Check.same("dial when lost", x.dial(), -2);
        Check.same("hangUp when lost", x.hangUp(), 3);
        Check.same("phase", x.size(1), 0);
    }

    private static void escapeAndResume() {
        ModemLink x = Check.loaded("line 9; rates 40 1; train 1 1 1 1;");
        Check.same("escape when idle", x.escape(0), -2);
        Check.same("resume when idle", x.resume(0), -2);
        x.dial();
        Check.same("escape in training", x.escape(1), -2);
        Check.send(x, 1, "abc");
        x.pass(4);
        Check.same("resume", x.resume(1), -3);
        Check.same("escape", x.escape(1), 3);
        Check.same("escape again", x.escape(1), -3);
        Check.same("escaped", x.end(1, 7), 1);
        Check.same("not the other", x.end(0, 7), 0);
        Check.same("undoCount", x.undoCount(), 4);
        Check.same("resume", x.resume(1), 3);
        Check.same("resumed", x.end(1, 7), 0);
        x.escape(1);
        x.setQuality(0);
        x.pass(1);
        Check.same("resume when lost", x.resume(1), -2);
        x.setQuality(9);
        x.pass(3);
        Check.same("online again", x.size(1), 2);
        Check.same("nobody has escaped", x.end(1, 7), 0);
    }

    private static void send() {
        ModemLink x = Check.loaded("line 9; rates 40 1; train 1 1 1 1;");
        Check.feed(x, Check.bytes("abc"));
        Check.noSuchElement("send(2, 1)", () -> x.send(2, 1));
        Check.noSuchElement("send(-1, 99)", () -> x.send(-1, 99));
        Check.illegalArgument("send(0, -1)", () -> x.send(0, -1));
        Check.illegalArgument("send(0, 21)", () -> x.send(0, 21));
        Check.same("the buffer stays", x.size(11), 20);
        Check.same("idle", x.send(0, 3), -2);
        Check.same("the buffer is empty", x.size(11), 0);
        Check.same("undoCount", x.undoCount(), 0);
        x.dial();
        Check.same("no bytes", x.send(0, 0), 0);
        Check.same("first bytes", Check.send(x, 0, "abc"), 3);
        Check.same("behind the others", Check.send(x, 0, "de"), 5);
        Check.same("too many", Check.send(x, 0, "x".repeat(196)), -3);
        Check.same("the buffer is empty", x.size(11), 0);
        Check.same("the queue stays", x.end(0, 0), 5);
        Check.same("just enough", Check.send(x, 0, "y".repeat(195)), 200);
        Check.same("one too many", Check.send(x, 0, "z"), -3);
        Check.same("the other end", Check.send(x, 1, "z".repeat(201)), -3);
        Check.same("undoCount", x.undoCount(), 5);
        Check.same("pass", x.pass(200), 200);
        Check.same("received", Check.received(x, 1), "abcde" + "y".repeat(195));
        Check.feed(x, Check.bytes("uvw"));
        Check.same("a part of the buffer", x.send(1, 2), 2);
        Check.same("the rest is gone", x.size(11), 0);
        Check.feed(x, Check.bytes("uvw"));
        x.undo();
        Check.same("undo leaves the buffer", x.size(11), 20);
    }

    private static void setQuality() {
        ModemLink x = new ModemLink();
        Check.same("before", x.setQuality(0), 9);
        Check.same("before", x.setQuality(5), 0);
        Check.same("the same", x.setQuality(5), 5);
        Check.illegalArgument("10", () -> x.setQuality(10));
        Check.illegalArgument("-1", () -> x.setQuality(-1));
        Check.same("quality", x.size(2), 5);
        Check.same("undoCount", x.undoCount(), 3);
    }

    private static void formats() {
        ModemLink x = Check.loaded("line 9; rates 20 1, 40 2; train 1 1 1 1; window 7;");
        Check.same("no format yet", x.formattedByte(0), -1);
        Check.same("idle", Check.formatted(x), "idle 0/0/0 0/0/0");
        x.dial();
        x.pass(2);
        Check.send(x, 1, "abcdefghijkl".repeat(9));
        Check.same("training", Check.formatted(x), "training 2 0/0/0 108/0/0");
        x.pass(3);
        Check.same("online", Check.formatted(x), "online 1 0/0/0 100/1/0");
        x.pass(1);
        Check.same("received", Check.formatted(x), "online 1 0/0/8 92/2/0");
        Check.same("length", x.format(), 21);
        Check.same("behind the end", x.formattedByte(21), -1);
        Check.same("last", x.formattedByte(20), '0');
        x.setQuality(0);
        x.pass(1);
        x.saveSnapshot();
        Check.same("as it was then", x.formattedByte(0), 'o');
        Check.same("lost", Check.formatted(x), "lost 0/0/8 92/2/0");
        x.undo();
        x.restoreSnapshot();
        Check.load(x, "line 9; rates 8 1;");
        Check.same("as it was then", x.formattedByte(0), 'l');
        Check.same("as it was then", x.formattedByte(16), '0');
        Check.same("as it was then", x.formattedByte(17), -1);
    }

    private static void undo() {
        ModemLink x = new ModemLink();
        for (int k = 1; k <= 12; k++) {
            x.pass(k);
            Check.same("undoCount " + k, x.undoCount(), Math.min(k, 10));
        }
        int time = 78;
        for (int k = 12; k >= 3; k--) {
            Check.same("undo " + k, x.undo(), k - 3);
            time -= k;
            Check.same("time " + k, x.size(0), time);
        }
        Check.same("undo of nothing", x.undo(), -1);
        Check.same("undoCount", x.undoCount(), 0);
        Check.same("time", x.size(0), 3);
        x.pass(5);
        Check.same("undo again", x.undo(), 0);
        Check.same("time", x.size(0), 3);
    }

    private static void undoRestoresAll() {
        ModemLink x = Lines.online("line 5; rates 20 1, 30 4; noise 5 0 0; delay 2 5; window 5;");
        String[] states = new String[9];
        states[8] = Lines.state(x);
        Check.send(x, 0, "abcabcabcdefghijklmnopq");
        states[7] = Lines.state(x);
        Check.send(x, 1, "zzzzzzzzzzzzzzzz");
        states[6] = Lines.state(x);
        x.pass(3);
        states[5] = Lines.state(x);
        x.escape(0);
        states[4] = Lines.state(x);
        x.pass(6);
        states[3] = Lines.state(x);
        x.resume(0);
        x.pass(4);
        x.undo();
        x.undo();
        Check.same("behind two undos", Lines.state(x), states[3]);
        x.setQuality(0);
        states[2] = Lines.state(x);
        x.pass(2);
        states[1] = Lines.state(x);
        x.hangUp();
        states[0] = Lines.state(x);
        x.dial();
        for (String state : states) {
            x.undo();
            Check.same("state behind undo", Lines.state(x), state);
        }
        Check.same("undoCount", x.undoCount(), 1);
    }

    private static void otherBytesBehindSnapshot() {
        ModemLink x = Lines.online("line 9; rates 40 1;");
        Check.send(x, 0, "abc");
        x.pass(2);
        x.saveSnapshot();
        Check.same("received", Check.received(x, 1), "abc");
        x.undo();
        x.undo();
        Check.send(x, 0, "xyz");
        x.pass(2);
        Check.same("received instead", Check.received(x, 1), "xyz");
        x.restoreSnapshot();
        Check.same("received behind restoreSnapshot", Check.received(x, 1), "abc");
    }

    private static void snapshot() {
        ModemLink x = Lines.online("line 9; rates 20 1;");
        Check.same("no snapshot", x.restoreSnapshot() ? 1 : 0, 0);
        Check.same("nothing changes", x.undoCount(), 2);
        Check.send(x, 0, "abcdefghij");
        x.pass(1);
        x.saveSnapshot();
        String saved = Lines.state(x);
        Check.same("saving is no operation", x.undoCount(), 4);
        x.pass(5);
        x.hangUp();
        Check.feed(x, Check.bytes("x"));
        Check.query(x, "");
        Check.feed(x, Check.bytes("y"));
        Check.same("restored", x.restoreSnapshot() ? 1 : 0, 1);
        Check.same("state", Lines.state(x), saved);
        Check.same("undo history", x.undoCount(), 0);
        Check.same("undo", x.undo(), -1);
        Check.same("the buffer stays", x.size(11), 20);
        Check.same("the error position stays", x.errorPosition(), 0);
        x.pass(3);
        Check.same("undoCount", x.undoCount(), 1);
        Check.same("the snapshot is kept", x.restoreSnapshot() ? 1 : 0, 1);
        Check.same("state", Lines.state(x), saved);
        x.pass(2);
        x.saveSnapshot();
        saved = Lines.state(x);
        x.pass(2);
        x.restoreSnapshot();
        Check.same("the later snapshot counts", Lines.state(x), saved);
        otherBytesBehindSnapshot();
        x.pass(1);
        x.undo();
        x.restoreSnapshot();
        Check.same("undo leaves the snapshot", Lines.state(x), saved);
    }
}
