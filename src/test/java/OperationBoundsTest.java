/** The edges of the section "Operations": what is recorded, what is refused, and what undoing restores. */
final class OperationBoundsTest {
    private OperationBoundsTest() {
    }

    public static void main(String[] args) {
        eachIsRecorded();
        recordedWithoutChange();
        otherCallsAreNotRecorded();
        errorCodesChangeNothing();
        exceptionsChangeNothing();
        exceptionsBeforeErrorCodes();
        exceptionsInOrder();
        errorCodesInOrder();
        tenCanBeUndone();
        mostRecentFirst();
        undoOfEach();
        bytesAndEventsComeBack();
        whatUndoLeaves();
        Check.finish();
    }

    private static void eachIsRecorded() {
        Check.about("pass, dial, hangUp, escape, resume, send and setQuality are operations");
        ModemLink x = Check.loaded("line 9; rates 40 1; train 1 1 1 1;");
        x.dial();
        Check.same("dial", x.undoCount(), 1);
        x.pass(4);
        Check.same("pass", x.undoCount(), 2);
        Check.send(x, 0, "a");
        Check.same("send", x.undoCount(), 3);
        x.escape(0);
        Check.same("escape", x.undoCount(), 4);
        x.resume(0);
        Check.same("resume", x.undoCount(), 5);
        x.setQuality(8);
        Check.same("setQuality", x.undoCount(), 6);
        x.hangUp();
        Check.same("hangUp", x.undoCount(), 7);
    }

    private static void recordedWithoutChange() {
        Check.about("Every successful call of an operation is recorded, even if it changes nothing");
        ModemLink x = Lines.online("line 9; rates 40 1;");
        String before = Lines.state(x);
        x.setQuality(9);
        Check.same("setQuality", x.undoCount(), 3);
        x.send(1, 0);
        Check.same("send of nothing", x.undoCount(), 4);
        Check.same("state", Lines.state(x), before);
        Check.same("undo of send", x.undo(), 3);
        Check.same("undo of setQuality", x.undo(), 2);
        Check.same("state", Lines.state(x), before);
        Check.same("undo of pass", x.undo(), 1);
        Lines.sizes(x, "undo of pass", 0, 0, 1, 1);
    }

    private static void otherCallsAreNotRecorded() {
        Check.about("pass, dial, hangUp, escape, resume, send and setQuality are operations");
        ModemLink x = Lines.online("line 9; rates 40 1;");
        Check.send(x, 0, "abc");
        x.pass(1);
        String before = Lines.state(x);
        Check.same("before", x.undoCount(), 4);
        x.feed(1, 2, 3, 4, 5);
        x.query(0);
        Check.query(x, "many 1 = 1");
        Check.load(x, "line 9; rates");
        x.format();
        x.formattedByte(0);
        x.saveSnapshot();
        x.ticksToFinish();
        x.receivedBehind(0, 400);
        x.leastQuality();
        x.nextCost(0);
        x.rateFor(9);
        Check.same("behind other calls", x.undoCount(), 4);
        Check.same("state", Lines.state(x), before);
    }

    private static void refused(ModemLink x, String call, Check.Call made, int code) {
        String before = Lines.everything(x);
        Check.same(call, made.answer(), code);
        Check.same("behind " + call, Lines.everything(x), before);
    }

    private static void refusedSend(ModemLink x, int end, int length, int code) {
        String before = Lines.state(x);
        int operations = x.undoCount();
        Check.same("send", Check.send(x, end, "x".repeat(length)), code);
        Check.same("behind send", Lines.state(x), before);
        Check.same("operations behind send", x.undoCount(), operations);
        Check.same("buffer behind send", x.size(11), 0);
    }

    private static void errorCodesChangeNothing() {
        Check.about("A call that returns a negative error code ... changes nothing (send: but the buffer)");
        ModemLink x = Check.loaded("line 9; rates 40 1, 50 2; train 2 1 1 1; hold 9;");
        Check.query(x, "many (");
        refused(x, "hangUp when idle", () -> x.hangUp(), -2);
        refused(x, "escape when idle", () -> x.escape(0), -2);
        refused(x, "resume when idle", () -> x.resume(0), -2);
        refusedSend(x, 0, 1, -2);
        refusedSend(x, 1, 0, -2);
        x.dial();
        x.pass(1);
        Check.send(x, 1, "ab");
        refused(x, "dial in training", () -> x.dial(), -2);
        refused(x, "escape in training", () -> x.escape(1), -2);
        refused(x, "resume in training", () -> x.resume(1), -2);
        refusedSend(x, 1, 199, -3);
        x.pass(5);
        Check.send(x, 0, "a".repeat(200));
        x.escape(1);
        refused(x, "dial online", () -> x.dial(), -2);
        refused(x, "escape again", () -> x.escape(1), -3);
        refused(x, "resume of an end that has not escaped", () -> x.resume(0), -3);
        refusedSend(x, 0, 1, -3);
        x.pass(1);
        x.setQuality(0);
        x.pass(1);
        refused(x, "dial when lost", () -> x.dial(), -2);
        refused(x, "escape when lost", () -> x.escape(0), -2);
        refused(x, "resume when lost", () -> x.resume(1), -2);
        refusedSend(x, 0, 201, -3);
        x.hangUp();
        refused(x, "resume when hung up", () -> x.resume(1), -2);
    }

    private static void throwsNothingElse(ModemLink x, String call, Check.Call made, String due) {
        String before = Lines.everything(x);
        Check.same(call, Check.outcome(made), due);
        Check.same("behind " + call, Lines.everything(x), before);
    }

    private static void exceptionsChangeNothing() {
        Check.about("A call that ... throws an exception changes nothing");
        ModemLink x = Lines.online("line 9; rates 40 1;");
        Check.query(x, "many (");
        Check.send(x, 0, "abc");
        x.pass(1);
        Check.feed(x, Check.bytes(Lines.HEAD));
        throwsNothingElse(x, "pass(0)", () -> x.pass(0), "IllegalArgumentException");
        throwsNothingElse(x, "pass(201)", () -> x.pass(201), "IllegalArgumentException");
        throwsNothingElse(x, "escape(2)", () -> x.escape(2), "NoSuchElementException");
        throwsNothingElse(x, "resume(-1)", () -> x.resume(-1), "NoSuchElementException");
        throwsNothingElse(x, "send(2, 1)", () -> x.send(2, 1), "NoSuchElementException");
        throwsNothingElse(x, "send(0, -1)", () -> x.send(0, -1), "IllegalArgumentException");
        throwsNothingElse(x, "send(0, 21)", () -> x.send(0, 21), "IllegalArgumentException");
        throwsNothingElse(x, "setQuality(10)", () -> x.setQuality(10), "IllegalArgumentException");
        throwsNothingElse(x, "setQuality(-1)", () -> x.setQuality(-1), "IllegalArgumentException");
        throwsNothingElse(x, "load(21)", () -> x.load(21), "IllegalArgumentException");
        throwsNothingElse(x, "load(-1)", () -> x.load(-1), "IllegalArgumentException");
        throwsNothingElse(x, "query(21)", () -> x.query(21), "IllegalArgumentException");
        throwsNothingElse(x, "query(-1)", () -> x.query(-1), "IllegalArgumentException");
        throwsNothingElse(x, "rateFor(10)", () -> x.rateFor(10), "IllegalArgumentException");
        throwsNothingElse(x, "receivedBehind(0, 401)", () -> x.receivedBehind(0, 401), "IllegalArgumentException");
        throwsNothingElse(x, "receivedBehind(2, 0)", () -> x.receivedBehind(2, 0), "NoSuchElementException");
        Check.same("the buffer is as it was", x.load(18), 1);
    }

    private static void exceptionsBeforeErrorCodes() {
        Check.about("the exceptions are checked before the error codes");
        ModemLink x = new ModemLink();
        Check.noSuchElement("escape(2) when idle", () -> x.escape(2));
        Check.noSuchElement("resume(2) when idle", () -> x.resume(2));
        Check.noSuchElement("send(2, 0) when idle", () -> x.send(2, 0));
        Check.illegalArgument("send(0, 1) when idle", () -> x.send(0, 1));
        Check.illegalArgument("send(0, -1) when idle", () -> x.send(0, -1));
        x.dial();
        Check.send(x, 0, "a".repeat(200));
        x.feed(1, 2, 3, 4, 5);
        Check.illegalArgument("send(0, 21) when the queue is full", () -> x.send(0, 21));
        Check.noSuchElement("send(2, 20) when the queue is full", () -> x.send(2, 20));
        Check.same("the buffer stays", x.size(11), 20);
        Check.same("send(0, 20) when the queue is full", x.send(0, 20), -3);
        Check.same("the buffer is empty", x.size(11), 0);
        ModemLink y = new ModemLink();
        for (int k = 0; k < 499; k++) {
            y.pass(200);
        }
        y.pass(199);
        Lines.sizes(y, "the last tick", 0, 99999);
        Check.same("pass(1)", y.pass(1), -2);
        Check.same("pass(200)", y.pass(200), -2);
        Check.illegalArgument("pass(0)", () -> y.pass(0));
        Check.illegalArgument("pass(201)", () -> y.pass(201));
    }

    private static void exceptionsInOrder() {
        Check.about("Throws NoSuchElementException if there is no such end (checked first)");
        ModemLink x = new ModemLink();
        Check.noSuchElement("send(2, -1)", () -> x.send(2, -1));
        Check.noSuchElement("send(-1, 1)", () -> x.send(-1, 1));
        Check.illegalArgument("send(1, 1)", () -> x.send(1, 1));
        Check.noSuchElement("receivedBehind(2, -1)", () -> x.receivedBehind(2, -1));
        Check.noSuchElement("receivedBehind(-1, 401)", () -> x.receivedBehind(-1, 401));
        Check.illegalArgument("receivedBehind(1, 401)", () -> x.receivedBehind(1, 401));
    }

    private static void errorCodesInOrder() {
        Check.about("and these in the order in which they are listed");
        ModemLink x = Lines.online("line 9; rates 40 1;");
        x.escape(0);
        x.hangUp();
        Lines.ends(x, "hung up", 0, 7, 1);
        Check.same("escape of an end that has escaped, not online", x.escape(0), -2);
        Check.same("resume of an end that has not escaped, not online", x.resume(1), -2);
        Check.same("send of too many when idle", Check.send(x, 0, "a".repeat(201)), -2);
    }

    private static void tenCanBeUndone() {
        Check.about("The 10 most recent operations can be undone");
        for (int count : new int[] {0, 1, 9, 10, 11, 25}) {
            ModemLink x = new ModemLink();
            for (int k = 0; k < count; k++) {
                x.pass(1);
                Check.same("undoCount", x.undoCount(), Math.min(k + 1, 10));
            }
            int can = Math.min(count, 10);
            for (int left = can - 1; left >= 0; left--) {
                Check.same("undo of " + count, x.undo(), left);
                Check.same("undoCount of " + count, x.undoCount(), left);
            }
            Check.same("no more of " + count, x.undo(), -1);
            Lines.sizes(x, "behind " + count, 0, count - can);
        }
    }

    private static void mostRecentFirst() {
        Check.about("the most recent one first");
        ModemLink x = new ModemLink();
        x.setQuality(3);
        x.pass(7);
        x.dial();
        x.setQuality(5);
        x.undo();
        Lines.sizes(x, "setQuality", 0, 7, 1, 1, 2, 3);
        x.undo();
        Lines.sizes(x, "dial", 0, 7, 1, 0, 2, 3);
        x.pass(5);
        x.undo();
        Lines.sizes(x, "an operation behind undo", 0, 7, 1, 0, 2, 3);
        x.undo();
        Lines.sizes(x, "pass", 0, 0, 1, 0, 2, 3);
        x.undo();
        Lines.sizes(x, "setQuality", 0, 0, 1, 0, 2, 9);
    }

    private interface Operation {
        void on(ModemLink x);
    }

    private static void undone(ModemLink x, String call, Operation operation) {
        String before = Lines.state(x);
        operation.on(x);
        Check.yes(call + " changes the state", !Lines.state(x).equals(before));
        x.undo();
        Check.same("behind undo of " + call, Lines.state(x), before);
        operation.on(x);
    }

    private static void undoOfEach() {
        Check.about("Undoing restores everything that the operation changed");
        ModemLink x = Check.loaded("line 5; rates 20 1, 30 2, 40 6; train 1 1 1 1; noise 6; patience 3; limit 2;");
        undone(x, "dial", y -> y.dial());
        undone(x, "send in training", y -> Check.send(y, 0, Lines.different(1, 30)));
        undone(x, "coming online", y -> y.pass(4));
        undone(x, "send", y -> Check.send(y, 1, Lines.different(50, 40)));
        for (int tick = 4; tick < 8; tick++) {
            undone(x, "tick " + tick, y -> y.pass(1));
        }
        Check.same("a fall was among them", x.total(4), 1);
        undone(x, "setQuality", y -> y.setQuality(8));
        for (int tick = 8; tick < 18; tick++) {
            undone(x, "tick " + tick, y -> y.pass(1));
        }
        Check.yes("a rise was among them", x.total(5) > 0);
        undone(x, "escape", y -> y.escape(1));
        undone(x, "resume", y -> y.resume(1));
        undone(x, "many ticks", y -> y.pass(20));
        Check.send(x, 0, "abc");
        x.pass(1);
        undone(x, "setQuality", y -> y.setQuality(0));
        undone(x, "loss", y -> y.pass(1));
        undone(x, "a longer loss", y -> y.pass(1));
        undone(x, "hangUp", y -> y.hangUp());
        undone(x, "dial", y -> y.dial());
        undone(x, "restart", y -> y.pass(1));
        undone(x, "hung up in training", y -> y.pass(2));
    }

    /** Nine operations that write other bytes and events to every place that holds some. */
    private static void detour(ModemLink x, int tick) {
        x.setQuality(9);
        Check.send(x, 0, Lines.different(100 + tick, 100));
        Check.send(x, 1, Lines.different(150 + tick, 100));
        x.pass(60);
        x.hangUp();
        x.dial();
        Check.send(x, tick % 2, Lines.different(200 + tick, 150));
        x.pass(90);
        x.setQuality(0);
    }

    /** Two lines do the same, one of them with a detour before each tick, from which it comes back. */
    private static void backFromDetours(boolean bySnapshot, int callsBefore) {
        ModemLink x = Check.loaded("line 5; rates 20 1, 30 2; train 1 1 1 1; noise 6 0 0 0 6 0 0 0; delay 3 7; window 7; limit 3;");
        ModemLink y = Check.loaded("line 5; rates 20 1, 30 2; train 1 1 1 1; noise 6 0 0 0 6 0 0 0; delay 3 7; window 7; limit 3;");
        for (ModemLink each : new ModemLink[] {x, y}) {
            for (int k = 0; k < callsBefore; k++) {
                each.dial();
                each.pass(4);
                each.hangUp();
            }
            each.dial();
            each.pass(4);
            Check.send(each, 0, Lines.different(1, 40));
            Check.send(each, 1, Lines.different(60, 30));
        }
        for (int tick = 0; tick < 40; tick++) {
            if (bySnapshot) {
                x.saveSnapshot();
                detour(x, tick);
                x.restoreSnapshot();
            } else {
                detour(x, tick);
                for (int k = 0; k < 9; k++) {
                    x.undo();
                }
            }
            Check.same("back in tick " + tick, Lines.state(x), Lines.state(y));
            x.pass(1);
            y.pass(1);
            Check.same("behind tick " + tick, Lines.state(x), Lines.state(y));
        }
        Check.same("received by 1", Check.received(x, 1), Lines.different(1, 40));
        Check.same("received by 0", Check.received(x, 0), Lines.different(60, 30));
    }

    private static void bytesAndEventsComeBack() {
        Check.about("Undoing restores everything that the operation changed");
        backFromDetours(false, 0);
        backFromDetours(false, 28);
        backFromDetours(false, 45);
        Check.about("Saves a snapshot of everything that undoing restores");
        backFromDetours(true, 0);
        backFromDetours(true, 28);
        backFromDetours(true, 45);
    }

    private static void whatUndoLeaves() {
        Check.about("but not the buffer, the error position and the text of format");
        ModemLink x = Lines.online("line 9; rates 40 1;");
        Check.feed(x, Check.bytes("abc"));
        x.send(0, 3);
        Check.same("send empties the buffer", x.size(11), 0);
        x.undo();
        Check.same("undo does not fill it", x.size(11), 0);
        x.pass(1);
        x.feed(1, 2, 3, 4, 5);
        x.undo();
        Check.same("undo does not empty it", x.size(11), 20);
        x.pass(1);
        Check.query(x, "many (");
        x.undo();
        Check.same("errorPosition", x.errorPosition(), 0);
        x.pass(1);
        x.query(0);
        Check.query(x, "many (");
        x.undo();
        Check.same("errorPosition", x.errorPosition(), 6);
        x.hangUp();
        x.format();
        x.undo();
        Check.same("text of format", x.formattedByte(0), 'i');
        x.format();
        Check.same("format anew", x.formattedByte(0), 'o');
    }
}
