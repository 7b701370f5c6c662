/** The edges of the promises 20 to 33: the operations, the text of format, undo, the snapshot and queries. */
final class CallBoundsTest {
    private CallBoundsTest() {
    }

    public static void main(String[] args) {
        passTicks();
        passBytes();
        passTheLastTick();
        dialAnswers();
        dialOnlyWhenIdle();
        hangUpAnswers();
        hangUpInEachPhase();
        escape();
        resume();
        sendLength();
        sendAnswers();
        sendBehindTheOthers();
        setQuality();
        formatWords();
        formatNumbers();
        formattedByte();
        formattedAsItWasThen();
        undo();
        saveSnapshot();
        restoreSnapshot();
        restoreSnapshotLeaves();
        queryLength();
        queryAnswers();
        queryOfAllKept();
        Check.finish();
    }

    private static final int LEAST = Integer.MIN_VALUE;
    private static final int MOST = Integer.MAX_VALUE;

    private static void passTicks() {
        Check.about("Promise 20: ticks: 1 to 200; Throws IllegalArgumentException if ticks is out of range");
        ModemLink x = new ModemLink();
        for (int far : new int[] {LEAST, -1, 0, 201, MOST}) {
            Check.illegalArgument("pass " + far, () -> x.pass(far));
        }
        Lines.sizes(x, "no ticks", 0, 0);
        Check.same("pass 1", x.pass(1), 0);
        Lines.sizes(x, "pass 1", 0, 1);
        Check.same("pass 200", x.pass(200), 0);
        Lines.sizes(x, "pass 200", 0, 201);
        Check.same("undoCount", x.undoCount(), 2);
    }

    private static void passBytes() {
        Check.about("Promise 20: Returns the number of bytes that were received in them");
        ModemLink x = Lines.online("line 9; rates 80 1; window 7;");
        Check.send(x, 0, "abc");
        Check.send(x, 1, "abcdefghi");
        Check.same("sent", x.pass(1), 0);
        Check.same("received by both", x.pass(1), 12);
        Check.same("acknowledged", x.pass(1), 0);
        Check.send(x, 0, "a");
        Check.same("in one of them", x.pass(200), 1);
        for (int k = 0; k < 2; k++) {
            Check.send(x, 1, "a".repeat(200));
            Check.same("also those not kept", x.pass(200), 200);
        }
        Check.send(x, 1, "bc");
        Check.same("also those not kept", x.pass(2), 2);
        Check.same("received", x.end(0, 5), 411);
    }

    private static void passTheLastTick() {
        Check.about("Promise 20: -2 if the time would exceed 99999");
        ModemLink x = new ModemLink();
        for (int k = 0; k < 499; k++) {
            x.pass(200);
        }
        Lines.sizes(x, "time", 0, 99800);
        Check.same("to 100000", x.pass(200), -2);
        Lines.sizes(x, "time", 0, 99800);
        Check.same("to 99999", x.pass(199), 0);
        Lines.sizes(x, "time", 0, 99999);
        Check.same("to 100000", x.pass(1), -2);
        Lines.sizes(x, "time", 0, 99999);
        x.undo();
        Check.same("to 99998", x.pass(198), 0);
        Check.same("to 100000", x.pass(2), -2);
        Check.same("to 99999", x.pass(1), 0);
        Lines.sizes(x, "time", 0, 99999);
    }

    private static void dialAnswers() {
        Check.about("Promise 21: training begins with step 0. Returns the ticks that the four steps last");
        int[][] steps = {{1, 1, 1, 1}, {20, 20, 20, 20}, {1, 2, 3, 4}, {7, 1, 1, 1}};
        for (int[] step : steps) {
            ModemLink x = Check.loaded(Lines.HEAD + "train " + step[0] + " " + step[1] + " " + step[2] + " " + step[3] + ";");
            int all = step[0] + step[1] + step[2] + step[3];
            Check.same("dial", x.dial(), all);
            Lines.sizes(x, "dialled", 0, 0, 1, 1, 4, 0, 5, step[0], 6, 0);
            x.pass(all - 1);
            Lines.sizes(x, "one tick less", 1, 1, 4, 3, 5, 1);
            x.pass(1);
            Lines.sizes(x, "online", 1, 2);
        }
    }

    private static void dialOnlyWhenIdle() {
        Check.about("Promise 21: -2 if the line is not idle");
        ModemLink x = Check.loaded(Lines.HEAD + "train 1 1 1 1;");
        Check.same("idle", x.dial(), 4);
        Check.same("training", x.dial(), -2);
        x.pass(4);
        Check.same("online", x.dial(), -2);
        x.setQuality(0);
        x.pass(1);
        Check.same("lost", x.dial(), -2);
        Check.same("undoCount", x.undoCount(), 4);
        x.hangUp();
        Check.same("hung up", x.dial(), 4);
    }

    private static void hangUpAnswers() {
        Check.about("Promise 22: Returns the number of bytes that are lost: in queues and in frames that the other end has not received");
        ModemLink x = Lines.online("line 5; rates 80 1; window 2; delay 2 5; noise 0 0 6 0 0 0 0 0;");
        x.saveSnapshot();
        Check.same("nothing", x.hangUp(), 0);
        x.restoreSnapshot();
        Check.send(x, 0, "aaaaaaaabbbbbbbbcc");
        Check.send(x, 1, "xyz");
        for (int tick = 4; tick < 14; tick++) {
            int all = x.end(0, 5) + x.end(1, 5);
            Check.same("before tick " + tick, x.hangUp(), 21 - all);
            x.undo();
            x.pass(1);
        }
        Check.same("all are received in the end", x.hangUp(), 0);
        Check.same("received by 1", Check.received(x, 1), "aaaaaaaabbbbbbbbcc");
        Check.same("received by 0", Check.received(x, 0), "xyz");
        Check.same("a frame was damaged", x.total(1), 1);
        ModemLink y = Lines.online("line 5; rates 60 1; window 3; delay 2 5; noise 0 0 0 0 6 0 0 0 0;");
        Check.send(y, 0, "a".repeat(150));
        Check.send(y, 1, "b".repeat(100));
        for (int tick = 4; tick < 60; tick++) {
            Check.same("before tick " + tick, y.hangUp(), 250 - y.total(10));
            y.undo();
            y.pass(1);
        }
        Check.same("all are received in the end", y.total(10), 250);
    }

    private static void hangUpInEachPhase() {
        Check.about("Promise 22: -2 if the line is idle");
        ModemLink x = Check.loaded("line 9; rates 40 1; train 1 1 1 1;");
        Check.same("idle", x.hangUp(), -2);
        x.dial();
        Check.same("training", x.hangUp(), 0);
        Check.same("hung up", x.hangUp(), -2);
        x.dial();
        Check.send(x, 1, "ab");
        x.pass(4);
        Check.same("online", x.hangUp(), 2);
        Check.same("hung up", x.hangUp(), -2);
        x.dial();
        x.pass(4);
        Check.send(x, 1, "abc");
        x.pass(1);
        x.setQuality(0);
        x.pass(1);
        Check.same("lost", x.hangUp(), 3);
        Check.same("hung up", x.hangUp(), -2);
        Check.same("hang-ups", x.total(7), 3);
        Lines.sizes(x, "the time stays", 0, 10);
    }

    private static void escape() {
        Check.about("Promise 23: Returns the bytes in its queue; -2 if the line is not online; -3 if it has escaped already");
        for (int end = 0; end <= 1; end++) {
            ModemLink x = Check.loaded("line 9; rates 40 1; train 1 1 1 1;");
            Check.same("idle", x.escape(end), -2);
            x.dial();
            Check.send(x, end, "abc");
            x.pass(3);
            Check.same("training", x.escape(end), -2);
            x.pass(1);
            Check.same("online", x.escape(end), 3);
            Lines.ends(x, "escaped", end, 7, 1, 0, 3);
            Lines.ends(x, "not the other one", 1 - end, 7, 0);
            Check.same("already", x.escape(end), -3);
            Check.same("the other one", x.escape(1 - end), 0);
            x.pass(5);
            Lines.ends(x, "it sends no frames", end, 0, 3, 1, 0);
            x.setQuality(0);
            x.pass(1);
            Check.same("lost", x.escape(end), -2);
            x.setQuality(9);
            x.pass(3);
            Check.same("online again, nobody has escaped", x.escape(end), 3);
        }
        ModemLink x = new ModemLink();
        for (int far : new int[] {LEAST, -1, 2, MOST}) {
            Check.noSuchElement("end " + far, () -> x.escape(far));
        }
    }

    private static void resume() {
        Check.about("Promise 24: Returns the bytes in its queue; -2 if the line is not online; -3 if it has not escaped");
        for (int end = 0; end <= 1; end++) {
            ModemLink x = Check.loaded("line 9; rates 40 1; train 1 1 1 1;");
            Check.same("idle", x.resume(end), -2);
            x.dial();
            Check.same("training", x.resume(end), -2);
            x.pass(4);
            Check.same("it has not escaped", x.resume(end), -3);
            x.escape(1 - end);
            Check.same("the other one has", x.resume(end), -3);
            x.escape(end);
            Check.send(x, end, "ab");
            Check.same("it has", x.resume(end), 2);
            Lines.ends(x, "resumed", end, 7, 0, 0, 2);
            Lines.ends(x, "not the other one", 1 - end, 7, 1);
            Check.same("not any more", x.resume(end), -3);
            x.pass(1);
            Lines.ends(x, "it sends", end, 0, 0, 1, 1);
            x.escape(end);
            x.setQuality(0);
            x.pass(1);
            Check.same("lost", x.resume(end), -2);
            x.hangUp();
            Check.same("hung up", x.resume(end), -2);
            Lines.ends(x, "escapes stay", end, 7, 1);
        }
        ModemLink x = new ModemLink();
        for (int far : new int[] {LEAST, -1, 2, MOST}) {
            Check.noSuchElement("end " + far, () -> x.resume(far));
        }
    }

    private static void sendLength() {
        Check.about("Promise 25: Throws IllegalArgumentException if length is negative or greater than the number of bytes in the buffer (which stays)");
        ModemLink x = new ModemLink();
        x.dial();
        Check.illegalArgument("1 of 0", () -> x.send(0, 1));
        Check.same("0 of 0", x.send(0, 0), 0);
        Check.feed(x, Check.bytes("abc"));
        for (int length : new int[] {LEAST, -1, 21, 200, 201, 600, 601, MOST}) {
            Check.illegalArgument("length " + length, () -> x.send(0, length));
            Check.noSuchElement("no end, length " + length, () -> x.send(2, length));
            Check.same("the buffer stays", x.size(11), 20);
        }
        for (int far : new int[] {LEAST, -1, 2, MOST}) {
            Check.noSuchElement("end " + far, () -> x.send(far, 1));
            Check.same("the buffer stays", x.size(11), 20);
        }
        Check.same("20 of 20", x.send(0, 20), 20);
        Check.same("the buffer is empty", x.size(11), 0);
        Check.feed(x, Check.bytes("abc"));
        Check.same("1 of 20", x.send(1, 1), 1);
        Check.same("the buffer is empty", x.size(11), 0);
        Check.feed(x, Check.bytes("abc"));
        Check.same("0 of 20", x.send(1, 0), 1);
        Check.same("the buffer is empty", x.size(11), 0);
    }

    private static void sendAnswers() {
        Check.about("Promise 25: Returns the bytes in the queue then; -2 if the line is idle; -3 if there would be more than 200");
        ModemLink x = Check.loaded("line 9; rates 40 1; train 1 1 1 1;");
        Check.same("idle", Check.send(x, 0, "a"), -2);
        Check.same("the buffer is empty", x.size(11), 0);
        x.dial();
        Check.same("training", Check.send(x, 0, "a"), 1);
        x.pass(4);
        Check.same("online", Check.send(x, 0, "a"), 2);
        x.setQuality(0);
        x.pass(1);
        Check.same("lost", Check.send(x, 0, "a"), 3);
        Check.same("201", Check.send(x, 0, "a".repeat(198)), -3);
        Check.same("the buffer is empty", x.size(11), 0);
        Check.same("200", Check.send(x, 0, "a".repeat(197)), 200);
        Check.same("the other end: 201", Check.send(x, 1, "a".repeat(201)), -3);
        Check.same("the other end: 200", Check.send(x, 1, "a".repeat(200)), 200);
        Check.same("600", Check.send(x, 1, "a".repeat(600)), -3);
        x.hangUp();
        Check.same("hung up", Check.send(x, 0, "a"), -2);
        Check.same("nothing", x.send(0, 0), -2);
    }

    private static void sendBehindTheOthers() {
        Check.about("Promise 25: the first bytes of the buffer come into the queue of an end, behind the others");
        ModemLink x = Lines.online("line 9; rates 80 1; window 7;");
        Check.feed(x, Check.bytes("abcdefghij"));
        x.send(0, 5);
        Check.send(x, 0, "ABCDEF");
        x.pass(1);
        Check.send(x, 0, "xyz");
        x.pass(10);
        Check.same("received", Check.received(x, 1), "abcdeABCDEFxyz");
        Check.same("not the sender", x.end(0, 5), 0);
    }

    private static void setQuality() {
        Check.about("Promise 26: Returns the quality before. Throws IllegalArgumentException if quality is not 0 to 9");
        ModemLink x = Check.loaded("line 4; rates 8 1;");
        int before = 4;
        for (int quality = 0; quality <= 9; quality++) {
            Check.same("setQuality " + quality, x.setQuality(quality), before);
            Lines.sizes(x, "quality", 2, quality);
            before = quality;
        }
        for (int far : new int[] {LEAST, -1, 10, MOST}) {
            Check.illegalArgument("setQuality " + far, () -> x.setQuality(far));
        }
        Lines.sizes(x, "quality", 2, 9);
        x.dial();
        Lines.sizes(x, "dial leaves it", 2, 9);
    }

    private static void formatWords() {
        Check.about("Promise 27: the word 'idle', 'training', 'online' or 'lost', then ' ' and the rate if it is online, the step if it is training");
        ModemLink x = Check.loaded("line 9; rates 10 1, 20 2, 30 3, 40 4, 50 5; train 1 1 1 1; hold 1;");
        Check.same("idle", Check.formatted(x), "idle 0/0/0 0/0/0");
        x.dial();
        for (int step = 0; step < 4; step++) {
            Check.same("training", Check.formatted(x), "training " + step + " 0/0/0 0/0/0");
            x.pass(1);
        }
        Check.same("online", Check.formatted(x), "online 4 0/0/0 0/0/0");
        x.setQuality(0);
        x.pass(1);
        Check.same("lost", Check.formatted(x), "lost 0/0/0 0/0/0");
        x.setQuality(1);
        x.pass(1);
        Check.same("training again", Check.formatted(x), "training 2 0/0/0 0/0/0");
        x.pass(2);
        Check.same("online", Check.formatted(x), "online 0 0/0/0 0/0/0");
        x.hangUp();
        Check.same("idle", Check.formatted(x), "idle 0/0/0 0/0/0");
        Check.same("length", x.format(), 16);
    }

    private static void formatNumbers() {
        Check.about("Promise 27: for each end ' ', the bytes in its queue, '/', the frames without acknowledgement, '/', the bytes received. Numbers have no leading zeros");
        ModemLink x = Lines.online("line 9; rates 80 1; window 7;");
        Check.send(x, 0, "a".repeat(200));
        Check.send(x, 1, "b".repeat(9));
        Check.same("before", Check.formatted(x), "online 0 200/0/0 9/0/0");
        x.pass(1);
        Check.same("6 frames of 15 and 12, 2 frames", Check.formatted(x), "online 0 152/6/0 0/2/0");
        x.pass(1);
        Check.same("received", Check.formatted(x), "online 0 144/7/9 0/2/48");
        x.pass(50);
        Check.send(x, 0, "a".repeat(200));
        x.pass(50);
        Check.send(x, 0, "a");
        x.pass(50);
        Check.same("bytes not kept, too", Check.formatted(x), "online 0 0/0/9 0/0/401");
        x = Lines.online("line 5; rates 40 1; noise 6;");
        Check.send(x, 1, "a");
        x.pass(1);
        x.escape(1);
        x.pass(3);
        Check.same("to be sent again", Check.formatted(x), "online 0 0/0/0 0/1/0");
        x.hangUp();
        Check.same("hung up", Check.formatted(x), "idle 0/0/0 0/0/0");
    }

    private static void formattedByte() {
        Check.about("Promise 28: NONE if index is out of range or there was no such call");
        ModemLink x = new ModemLink();
        Check.same("no call", x.formattedByte(0), -1);
        Check.same("no call", x.formattedByte(-1), -1);
        Check.same("format", x.format(), 16);
        Check.same("the first", x.formattedByte(0), 'i');
        Check.same("the last", x.formattedByte(15), '0');
        for (int far : new int[] {LEAST, -1, 16, 17, MOST}) {
            Check.same("index " + far, x.formattedByte(far), -1);
        }
        x.dial();
        Check.same("a longer text", x.format(), 22);
        Check.same("the last", x.formattedByte(21), '0');
        Check.same("behind it", x.formattedByte(22), -1);
        x.hangUp();
        Check.same("a shorter text", x.format(), 16);
        Check.same("nothing of the longer one", x.formattedByte(16), -1);
    }

    private static void formattedAsItWasThen() {
        Check.about("Promise 28: the text of the most recent call of format, as it was then (also behind load, undo and restoreSnapshot)");
        ModemLink x = new ModemLink();
        x.saveSnapshot();
        x.dial();
        x.format();
        x.pass(8);
        Check.same("behind pass", x.formattedByte(0), 't');
        x.undo();
        x.undo();
        Check.same("behind undo", x.formattedByte(0), 't');
        x.restoreSnapshot();
        Check.same("behind restoreSnapshot", x.formattedByte(0), 't');
        Check.load(x, "line x");
        Check.same("behind load with an error", x.formattedByte(0), 't');
        Check.load(x, Lines.HEAD);
        Check.same("behind load", x.formattedByte(0), 't');
        Check.same("behind load", x.formattedByte(21), '0');
        x.format();
        Check.same("anew", x.formattedByte(0), 'i');
    }

    private static void undo() {
        Check.about("Promises 29, 30: the number of operations that can still be undone; NONE if there was nothing to undo");
        ModemLink x = new ModemLink();
        Check.same("nothing", x.undoCount(), 0);
        Check.same("nothing", x.undo(), -1);
        x.pass(1);
        Check.same("one", x.undoCount(), 1);
        Check.same("none left", x.undo(), 0);
        Check.same("nothing", x.undo(), -1);
        Lines.sizes(x, "nothing changes", 0, 0);
        for (int k = 0; k < 11; k++) {
            x.pass(1);
        }
        Check.same("ten of eleven", x.undoCount(), 10);
        Check.same("nine left", x.undo(), 9);
        x.pass(5);
        x.pass(5);
        Check.same("ten again", x.undoCount(), 10);
        for (int left = 9; left >= 0; left--) {
            Check.same("left", x.undo(), left);
        }
        Check.same("nothing", x.undo(), -1);
        Lines.sizes(x, "the first two stay", 0, 2);
    }

    private static void saveSnapshot() {
        Check.about("Promise 31: Saves a snapshot of everything that undoing restores. It replaces an earlier snapshot");
        ModemLink x = Lines.online("line 5; rates 20 1, 30 2; noise 6 0 0 0; limit 1;");
        Check.send(x, 0, Lines.different(1, 30));
        Check.send(x, 1, Lines.different(70, 30));
        for (int tick = 4; tick < 16; tick++) {
            x.saveSnapshot();
            String saved = Lines.state(x);
            int operations = x.undoCount();
            x.saveSnapshot();
            Check.same("not an operation", x.undoCount(), operations);
            Check.same("changes nothing", Lines.state(x), saved);
            x.pass(1);
            x.setQuality(0);
            x.pass(9);
            x.dial();
            Check.same("restoreSnapshot", x.restoreSnapshot() ? 1 : 0, 1);
            Check.same("the state of tick " + tick, Lines.state(x), saved);
            x.pass(1);
        }
        x.saveSnapshot();
        x.undo();
        Lines.sizes(x, "undo", 0, 15);
        x.restoreSnapshot();
        Lines.sizes(x, "undo leaves the snapshot", 0, 16);
        x = Lines.online("line 9; rates 80 1;");
        Check.send(x, 0, "abc");
        x.pass(2);
        x.saveSnapshot();
        x.undo();
        x.undo();
        Check.send(x, 0, "uvwxyz");
        x.pass(2);
        Check.same("other bytes", Check.received(x, 1), "uvwxyz");
        x.restoreSnapshot();
        Check.same("the bytes of the snapshot", Check.received(x, 1), "abc");
        x = Lines.online(Lines.HEAD);
        x.saveSnapshot();
        x.undo();
        x.hangUp();
        Check.same("another event", Check.events(x), "0:5:-1:-1");
        x.restoreSnapshot();
        Check.same("the event of the snapshot", Check.events(x), "3:1:-1:0");
    }

    private static void restoreSnapshot() {
        Check.about("Promise 32: Restores the snapshot and clears the undo history. The snapshot is kept. Returns true; false if there is no snapshot (nothing changes)");
        ModemLink x = new ModemLink();
        x.pass(1);
        x.feed(1, 2, 3, 4, 5);
        String before = Lines.everything(x);
        Check.same("no snapshot", x.restoreSnapshot() ? 1 : 0, 0);
        Check.same("nothing changes", Lines.everything(x), before);
        x.saveSnapshot();
        x.pass(1);
        x.pass(1);
        Check.same("operations", x.undoCount(), 3);
        Check.same("first", x.restoreSnapshot() ? 1 : 0, 1);
        Check.same("no operations", x.undoCount(), 0);
        Check.same("undo", x.undo(), -1);
        Lines.sizes(x, "restored", 0, 1);
        x.pass(7);
        Check.same("one operation", x.undoCount(), 1);
        Check.same("second", x.restoreSnapshot() ? 1 : 0, 1);
        Lines.sizes(x, "restored", 0, 1);
        Check.same("no operations", x.undoCount(), 0);
        x.pass(2);
        Check.same("undo", x.undo(), 0);
        Lines.sizes(x, "back to the snapshot", 0, 1);
        x.query(0);
        Check.load(x, Lines.HEAD);
        Check.same("discarded by load", x.restoreSnapshot() ? 1 : 0, 0);
    }

    private static void restoreSnapshotLeaves() {
        Check.about("Promise 31: everything that undoing restores (not the buffer, the error position and the text of format)");
        ModemLink x = new ModemLink();
        x.format();
        x.saveSnapshot();
        x.dial();
        Check.query(x, "many (");
        x.feed(1, 2, 3, 4, 5);
        x.feed(1, 2, 3, 4, 5);
        x.format();
        x.restoreSnapshot();
        Lines.sizes(x, "restored", 1, 0, 11, 40);
        Check.same("the error position", x.errorPosition(), 6);
        Check.same("the text of format", x.formattedByte(0), 't');
    }

    private static void queryLength() {
        Check.about("Promise 33: Throws IllegalArgumentException if length is negative, greater than 200, or greater than the number of bytes in the buffer (nothing changes)");
        ModemLink x = new ModemLink();
        Check.illegalArgument("1 of 0", () -> x.query(1));
        Check.same("0 of 0", x.query(0), ModemLink.HIDDEN - 1);
        Check.same("its position", x.errorPosition(), 0);
        Check.feed(x, Check.bytes("many 1 = 1"));
        for (int length : new int[] {LEAST, -1, 21, 200, 201, MOST}) {
            Check.illegalArgument("length " + length, () -> x.query(length));
            Check.same("the buffer stays", x.size(11), 20);
            Check.same("the error position stays", x.errorPosition(), 0);
        }
        Check.same("20 of 20", x.query(20), 0);
        Check.feed(x, Check.bytes("many 1 = 1" + " ".repeat(190)));
        Check.illegalArgument("201 of 200", () -> x.query(201));
        Check.same("200 of 200", x.query(200), 0);
        Check.same("the buffer is empty", x.size(11), 0);
        Check.feed(x, Check.bytes("many 1 = 1" + " ".repeat(590)));
        Check.illegalArgument("201 of 600", () -> x.query(201));
        Check.illegalArgument("600 of 600", () -> x.query(600));
        Check.same("the buffer stays", x.size(11), 600);
        Check.same("200 of 600", x.query(200), 0);
        Check.same("the buffer is empty", x.size(11), 0);
        Check.feed(x, Check.bytes("many 1 = 1"));
        Check.same("9 of 20", x.query(9), ModemLink.HIDDEN - 1);
        Check.same("its position", x.errorPosition(), 9);
        Check.same("the buffer is empty", x.size(11), 0);
        Check.same("an error at the last byte", Check.query(x, "many 1 = 1" + " ".repeat(189) + "!"), ModemLink.HIDDEN - 1);
        Check.same("its position", x.errorPosition(), 199);
    }

    private static void queryAnswers() {
        Check.about("Promise 33: Returns for 'many' the number of events for which the test holds; for 'first' the smallest such event, or NONE; HIDDEN minus the error code");
        ModemLink x = Check.loaded(Lines.HEAD + "train 1 1 1 1;");
        Check.same("many of none", Check.query(x, "many 1 = 1"), 0);
        Check.same("first of none", Check.query(x, "first 1 = 1"), -1);
        for (int k = 0; k < 3; k++) {
            x.dial();
            x.pass(4);
            x.hangUp();
        }
        Check.same("many, all", Check.query(x, "many 1 = 1"), 6);
        Check.same("many, some", Check.query(x, "many kind = 5"), 3);
        Check.same("many, none", Check.query(x, "many kind = 2"), 0);
        Check.same("first, all", Check.query(x, "first 1 = 1"), 0);
        Check.same("first, some", Check.query(x, "first kind = 5"), 1);
        Check.same("first, the last", Check.query(x, "first event > 4"), 5);
        Check.same("first, none", Check.query(x, "first kind = 2"), -1);
        Check.same("code 1", Check.query(x, "many"), -1000000001);
        Check.same("code 2", Check.query(x, "many 1 = 100000"), -1000000002);
        Check.same("code 3", Check.query(x, "many ((((((( 1 = 1"), -1000000003);
    }

    private static void queryOfAllKept() {
        Check.about("Promise 33: evaluates it for every event that is kept, in ascending order");
        ModemLink x = Check.loaded(Lines.HEAD + "train 1 1 1 1;");
        for (int k = 0; k < 31; k++) {
            x.dial();
            x.pass(4);
            x.hangUp();
        }
        Check.same("all 60", Check.query(x, "many 1 = 1"), 60);
        Check.same("all 60, negated", Check.query(x, "many not 1 = 2"), 60);
        Check.same("none, negated", Check.query(x, "many not 1 = 1"), 0);
        Check.same("the last one", Check.query(x, "first event = 59"), 59);
        Check.same("no event 60", Check.query(x, "first event = 60"), -1);
        Check.same("the oldest kept one", Check.query(x, "first tick = 7"), 0);
        Check.same("one that is not kept", Check.query(x, "first tick < 7"), -1);
        Check.same("half of them", Check.query(x, "many kind = 1"), 30);
        Check.same("event 31 to 33", Check.query(x, "many event > 30 and event < 34"), 3);
        Check.same("first of many", Check.query(x, "first event > 30 and event < 34"), 31);
    }
}
