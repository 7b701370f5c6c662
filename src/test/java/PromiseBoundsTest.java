/** The edges of the promises 1 to 19: a new object, the buffer, the texts, and what can be asked of a line. */
final class PromiseBoundsTest {
    private PromiseBoundsTest() {
    }

    public static void main(String[] args) {
        newObject();
        feedIsFull();
        mostSignificantFirst();
        loadReplacesEverything();
        loadWithAnError();
        loadLength();
        errorPosition();
        sizesByPhase();
        numbersInRange();
        totalsCounted();
        rates();
        frames();
        received();
        words();
        events();
        rateFor();
        nextCost();
        finishedNow();
        finishedWithin400();
        hungUpBefore();
        receivedBehind();
        aheadOfTheLastTick();
        leastQuality();
        costPerByte();
        damage();
        Check.finish();
    }

    private static final int LEAST = Integer.MIN_VALUE;
    private static final int MOST = Integer.MAX_VALUE;

    private static void newObject() {
        Check.about("Promise 1: Creates a line as by the text \"line 9; rates 8 1;\"");
        ModemLink x = new ModemLink();
        ModemLink y = Check.loaded("line 9; rates 8 1;");
        Check.same("everything", Lines.everything(x), Lines.everything(y));
        Lines.sizes(x, "new", 0, 0, 1, 0, 2, 9, 3, -1, 4, -1, 5, -1, 6, -1, 7, -1, 8, 0, 9, 0, 10, 0, 11, 0);
        Lines.totals(x, "new", 0, 0, 0, 0, 0, 0, 0, 0, 0, 0, 0);
        for (int end = 0; end <= 1; end++) {
            Lines.ends(x, "new", end, 0, 0, 1, 0, 2, 0, 3, 0, 4, 0, 5, 0, 6, 0, 7, 0, 8, 0, 9, 0);
        }
        Check.same("speed", x.rate(0, 0), 8);
        Check.same("need", x.rate(0, 1), 1);
        Check.noSuchElement("a second rate", () -> x.rate(1, 0));
        for (ModemLink each : new ModemLink[] {x, y}) {
            Check.same("four steps of 2", each.dial(), 8);
            each.setQuality(0);
            each.pass(2);
            Lines.sizes(each, "two retries", 1, 1, 6, 2);
            each.saveSnapshot();
            each.pass(1);
            Lines.sizes(each, "no third", 1, 0);
            each.restoreSnapshot();
            each.setQuality(1);
            each.pass(8);
            Lines.sizes(each, "online at quality 1", 1, 2, 3, 0);
            Check.send(each, 0, "a");
            Check.same("delay", each.pass(2), 1);
            Check.same("noise", each.total(1), 0);
            each.setQuality(0);
            each.pass(5);
            Lines.sizes(each, "a hold of 5", 1, 3, 7, 5);
            each.pass(1);
            Lines.sizes(each, "not of 6", 1, 0);
        }
        Check.same("everything", Lines.everything(x), Lines.everything(y));
    }

    private static void feedIsFull() {
        Check.about("Promise 2: Returns the number of bytes in the buffer; NONE if it would exceed 600, and then nothing is appended");
        ModemLink x = new ModemLink();
        for (int k = 1; k <= 29; k++) {
            Check.same("feed", x.feed(0x61616161, 0x61616161, 0x61616161, 0x61616161, 0x61616161), 20 * k);
        }
        Check.same("580", x.size(11), 580);
        Check.same("600", x.feed(0x62626262, 0x62626262, 0x62626262, 0x62626262, 0x62626262), 600);
        Check.same("620", x.feed(0x63636363, 0x63636363, 0x63636363, 0x63636363, 0x63636363), -1);
        Check.same("still 600", x.size(11), 600);
        Check.same("once more", x.feed(1, 2, 3, 4, 5), -1);
        Check.illegalArgument("601", () -> x.load(601));
        Check.same("600 are one word", x.load(600), -11);
        Check.same("empty", x.size(11), 0);
        Check.same("again", x.feed(1, 2, 3, 4, 5), 20);
        ModemLink y = new ModemLink();
        Check.same("a text of 600 bytes", Check.load(y, Lines.HEAD + " ".repeat(581) + "x"), -11);
        Check.same("its error", y.errorPosition(), 599);
        Check.same("a right text of 600 bytes", Check.load(y, Lines.HEAD + " ".repeat(575) + "hold 1;"), 1);
    }

    private static void mostSignificantFirst() {
        Check.about("Promise 2: the four bytes of each parameter, the most significant byte first");
        ModemLink x = Lines.online("line 9; rates 80 1;");
        x.feed(0x00010203, 0x7F80FF04, LEAST, MOST, -1);
        x.send(0, 20);
        x.pass(9);
        int[] due = {0, 1, 2, 3, 127, 128, 255, 4, 128, 0, 0, 0, 127, 255, 255, 255, 255, 255, 255, 255};
        for (int place = 0; place < due.length; place++) {
            Check.same("byte " + place, x.received(1, place), due[place]);
        }
        Check.same("no more", x.received(1, 20), -1);
    }

    private static void loadReplacesEverything() {
        Check.about("Promise 3: which replaces everything (the line is idle, the time is 0, queues are empty and nothing is received); the undo history and the snapshot are discarded");
        String text = "line 5; rates 20 1, 30 2; train 1 1 1 1; noise 6 0 0; delay 3 7;";
        String fresh = Lines.everything(Check.loaded(text));
        for (int ticks = 1; ticks <= 12; ticks++) {
            ModemLink x = Check.loaded(text);
            x.dial();
            Check.send(x, 0, "abcdefghijklmnop");
            Check.send(x, 1, "abcdefghijklmnop");
            x.pass(ticks);
            x.escape(ticks % 2);
            x.saveSnapshot();
            x.setQuality(ticks % 3 == 0 ? 0 : 9);
            x.pass(1);
            Check.same("load", Check.load(x, text), 2);
            Check.same("everything", Lines.everything(x), fresh);
            Check.same("undo", x.undo(), -1);
            Check.same("restoreSnapshot", x.restoreSnapshot() ? 1 : 0, 0);
            Check.same("everything", Lines.everything(x), fresh);
            likeAFreshOne(x, Check.loaded(text));
        }
        ModemLink x = Check.loaded(text);
        for (int k = 0; k < 35; k++) {
            x.dial();
            x.pass(4);
            x.hangUp();
        }
        Lines.sizes(x, "more events than are kept", 10, 60);
        Check.load(x, text);
        Check.same("everything", Lines.everything(x), fresh);
        likeAFreshOne(x, Check.loaded(text));
    }

    private static void likeAFreshOne(ModemLink x, ModemLink y) {
        for (ModemLink each : new ModemLink[] {x, y}) {
            each.dial();
            Check.send(each, 0, "uvwxyzuvwxyz");
        }
        for (int tick = 0; tick < 40; tick++) {
            for (ModemLink each : new ModemLink[] {x, y}) {
                each.pass(1);
                each.saveSnapshot();
                each.undo();
                each.hangUp();
                each.restoreSnapshot();
            }
            Check.same("like a fresh one", Lines.everything(x), Lines.everything(y));
        }
        Check.same("received", Check.received(x, 1), "uvwxyzuvwxyz");
    }

    private static void loadWithAnError() {
        Check.about("Promise 3: -10 minus the error code if the text has an error (then only the buffer and the error position change)");
        ModemLink x = Lines.online("line 5; rates 20 1, 30 2; noise 6 0 0;");
        Check.send(x, 0, "abcdefghijklmnop");
        x.pass(2);
        x.saveSnapshot();
        x.pass(1);
        String before = Lines.state(x);
        String[] texts = {"line 3; rates 40 1; train 9 9 9 9; retries 9; hold 9; window 1; delay 9 60; limit 5; patience 50; noise 9 9; !",
            "line 3; rates 40 10;", "line 3; rates 40 1, 50 2, 60 3, 70 4, 80 5,", "line 3; rates 40 1, 30 2;"};
        int[] positions = {texts[0].length() - 1, 17, texts[2].length() - 1, 20};
        for (int k = 0; k < texts.length; k++) {
            Check.same("load of " + texts[k], Check.load(x, texts[k]), -11 - k);
            Check.same("its position", x.errorPosition(), positions[k]);
            Check.same("the buffer", x.size(11), 0);
            Check.same("the state", Lines.state(x), before);
            Check.same("the speed", x.rate(0, 0), 20);
            Check.same("the need", x.rate(1, 1), 2);
            Check.noSuchElement("a third rate", () -> x.rate(2, 0));
            Check.same("undoCount", x.undoCount(), 5);
        }
        // What the rejected text set would show in the next ticks.
        ModemLink y = Lines.online("line 5; rates 20 1, 30 2; noise 6 0 0;");
        Check.send(y, 0, "abcdefghijklmnop");
        y.pass(3);
        for (int tick = 0; tick < 12; tick++) {
            x.pass(1);
            y.pass(1);
            Check.same("the same line", Lines.state(x), Lines.state(y));
        }
        Check.same("the snapshot is kept", x.restoreSnapshot() ? 1 : 0, 1);
        Lines.sizes(x, "the snapshot is kept", 0, 6);
    }

    private static void loadLength() {
        Check.about("Promise 3: Throws IllegalArgumentException if length is negative or greater than the number of bytes in the buffer (nothing changes)");
        ModemLink x = new ModemLink();
        Check.same("0 of 0", x.load(0), -11);
        Check.same("its position", x.errorPosition(), 0);
        Check.illegalArgument("1 of 0", () -> x.load(1));
        Check.illegalArgument("-1 of 0", () -> x.load(-1));
        Check.feed(x, Check.bytes("line 4; rates 8 1;  "));
        for (int length : new int[] {LEAST, -1, 21, 600, 601, MOST}) {
            Check.illegalArgument("load(" + length + ") of 20", () -> x.load(length));
            Check.same("the buffer stays", x.size(11), 20);
            Check.same("the error position stays", x.errorPosition(), 0);
        }
        Check.same("20 of 20", x.load(20), 1);
        Lines.sizes(x, "loaded", 2, 4, 11, 0);
        Check.feed(x, Check.bytes("line 5; rates 8 1;  "));
        Check.same("18 of 20", x.load(18), 1);
        Lines.sizes(x, "the buffer is empty, also of what was not read", 2, 5, 11, 0);
        Check.feed(x, Check.bytes("line 6; rates 8 1;  "));
        Check.same("17 of 20", x.load(17), -11);
        Check.same("its position", x.errorPosition(), 17);
        Lines.sizes(x, "the buffer is empty", 2, 5, 11, 0);
        Check.feed(x, Check.bytes("line 6; rates 8 1;  "));
        Check.same("0 of 20", x.load(0), -11);
        Lines.sizes(x, "the buffer is empty", 2, 5, 11, 0);
    }

    private static void errorPosition() {
        Check.about("Promise 4: for the most recent call of load or query that read the buffer; NONE if that text had no error, or if there was no such call");
        ModemLink x = new ModemLink();
        Check.same("no call", x.errorPosition(), -1);
        Check.illegalArgument("load(1)", () -> x.load(1));
        Check.same("no call that read", x.errorPosition(), -1);
        Check.query(x, "many (1 = 1");
        Check.same("query", x.errorPosition(), 11);
        Check.illegalArgument("query(1)", () -> x.query(1));
        Check.illegalArgument("load(-1)", () -> x.load(-1));
        Check.same("calls that did not read", x.errorPosition(), 11);
        x.feed(1, 2, 3, 4, 5);
        x.dial();
        x.send(0, 3);
        Check.same("send", x.errorPosition(), 11);
        Check.query(x, "many 1 = 1");
        Check.same("a right query", x.errorPosition(), -1);
        Check.load(x, "line x");
        Check.same("load", x.errorPosition(), 5);
        Check.load(x, Lines.HEAD);
        Check.same("a right load", x.errorPosition(), -1);
        Check.load(x, "!");
        Check.same("the first byte", x.errorPosition(), 0);
        Check.query(x, "first 1 = 1");
        Check.same("a right query behind it", x.errorPosition(), -1);
    }

    private static void sizesByPhase() {
        Check.about("Promise 5: 3 the rate (NONE if the line is not online), 4, 5, 6 (NONE if it is not training), 7 (NONE if the carrier is not lost), 8, 9 (0 if the line is not online)");
        ModemLink x = Check.loaded("line 5; rates 40 1; train 2 1 1 1; noise 0 6 0 0;");
        Lines.sizes(x, "idle", 0, 0, 1, 0, 2, 5, 3, -1, 4, -1, 5, -1, 6, -1, 7, -1, 8, 0, 9, 0, 10, 0, 11, 0);
        x.dial();
        Lines.sizes(x, "training", 1, 1, 3, -1, 4, 0, 5, 2, 6, 0, 7, -1, 8, 0, 9, 0);
        x.pass(5);
        Lines.sizes(x, "online", 0, 5, 1, 2, 3, 0, 4, -1, 5, -1, 6, -1, 7, -1, 8, 0, 9, 0, 10, 1);
        Check.send(x, 0, "a");
        x.pass(3);
        Lines.sizes(x, "an acknowledgement", 8, 0, 9, 1);
        Check.send(x, 0, "a");
        x.pass(3);
        Lines.sizes(x, "no failure yet", 8, 0, 9, 1);
        x.pass(1);
        Lines.sizes(x, "a failure", 8, 1, 9, 0);
        x.saveSnapshot();
        x.setQuality(0);
        x.pass(1);
        Lines.sizes(x, "lost", 1, 3, 3, -1, 4, -1, 5, -1, 6, -1, 7, 1, 8, 0, 9, 0);
        x.setQuality(5);
        x.pass(1);
        Lines.sizes(x, "training again", 1, 1, 3, -1, 4, 2, 5, 1, 6, 0, 7, -1, 8, 0, 9, 0);
        x.restoreSnapshot();
        x.pass(2);
        Lines.sizes(x, "an acknowledgement", 8, 0, 9, 1);
        x.feed(1, 2, 3, 4, 5);
        x.hangUp();
        Lines.sizes(x, "hung up", 1, 0, 2, 5, 3, -1, 4, -1, 5, -1, 6, -1, 7, -1, 8, 0, 9, 0, 11, 20);
        x.dial();
        Lines.sizes(x, "dialled", 1, 1, 8, 0, 9, 0);
        x.setQuality(0);
        x.pass(3);
        Lines.sizes(x, "hung up in training", 1, 0, 2, 0, 4, -1, 5, -1, 6, -1);
    }

    private static void numbersInRange() {
        Check.about("Promises 5, 6, 7: Throws NoSuchElementException if what is out of range");
        ModemLink x = Lines.online("line 9; rates 40 1;");
        for (int what = 0; what <= 12; what++) {
            int k = what;
            Check.same("size " + k, Check.outcome(() -> x.size(k)).startsWith("No") ? 1 : 0, k > 11 ? 1 : 0);
            Check.same("total " + k, Check.outcome(() -> x.total(k)).startsWith("No") ? 1 : 0, k > 10 ? 1 : 0);
            Check.same("end 0 " + k, Check.outcome(() -> x.end(0, k)).startsWith("No") ? 1 : 0, k > 9 ? 1 : 0);
            Check.same("end 1 " + k, Check.outcome(() -> x.end(1, k)).startsWith("No") ? 1 : 0, k > 9 ? 1 : 0);
            Check.noSuchElement("end 2 " + k, () -> x.end(2, k));
            Check.noSuchElement("end -1 " + k, () -> x.end(-1, k));
        }
        for (int far : new int[] {LEAST, -1, 13, MOST}) {
            Check.noSuchElement("size " + far, () -> x.size(far));
            Check.noSuchElement("total " + far, () -> x.total(far));
            Check.noSuchElement("end 0 " + far, () -> x.end(0, far));
            Check.noSuchElement("end " + far, () -> x.end(far, 0));
        }
    }

    private static void totalsCounted() {
        Check.about("Promise 6: Returns a number that is counted since load");
        ModemLink x = Lines.online("line 5; rates 20 1, 40 2; noise 6 0 0 0 0 0 0 0; limit 1; patience 2; hold 1;");
        Check.send(x, 0, "aaaaaaaaaa");
        x.pass(3);
        Lines.totals(x, "tick 6", 2, 1, 2, 0, 0, 0, 0, 0, 1, 21, 0);
        x.pass(1);
        Lines.totals(x, "tick 7", 4, 1, 2, 1, 1, 0, 0, 0, 1, 42, 0);
        x.pass(2);
        Lines.totals(x, "tick 9", 4, 1, 2, 1, 1, 1, 0, 0, 1, 42, 10);
        x.setQuality(0);
        x.pass(2);
        Lines.totals(x, "hung up", 4, 1, 2, 1, 1, 1, 1, 1, 1, 42, 10);
        x.dial();
        x.setQuality(9);
        x.pass(4);
        Check.send(x, 1, "b");
        x.pass(2);
        Lines.totals(x, "dialled again", 5, 1, 2, 1, 1, 1, 1, 1, 2, 50, 11);
        Check.load(x, Lines.HEAD);
        Lines.totals(x, "loaded", 0, 0, 0, 0, 0, 0, 0, 0, 0, 0, 0);
    }

    private static void rates() {
        Check.about("Promise 8: Throws NoSuchElementException if there is no such rate or what is out of range");
        ModemLink x = Check.loaded("line 9; rates 8 1, 80 9;");
        Check.same("speed 0", x.rate(0, 0), 8);
        Check.same("need 0", x.rate(0, 1), 1);
        Check.same("speed 1", x.rate(1, 0), 80);
        Check.same("need 1", x.rate(1, 1), 9);
        for (int far : new int[] {LEAST, -1, 2, 5, MOST}) {
            Check.noSuchElement("rate " + far, () -> x.rate(far, 0));
            Check.noSuchElement("rate " + far, () -> x.rate(far, 1));
            Check.noSuchElement("rate 0 " + far, () -> x.rate(0, far));
            Check.noSuchElement("rate 1 " + far, () -> x.rate(1, far));
        }
        // The rates of an earlier text are gone.
        Check.load(x, "line 9; rates 4 1, 5 2, 6 3, 7 4, 8 5;");
        Check.same("the fifth", x.rate(4, 0), 8);
        Check.noSuchElement("the sixth", () -> x.rate(5, 0));
        Check.load(x, Lines.HEAD);
        Check.noSuchElement("the second", () -> x.rate(1, 0));
    }

    private static void frames() {
        Check.about("Promise 9: by its place, from 0, in the order of their numbers (those to be sent again, too)");
        ModemLink x = Lines.online("line 5; rates 20 1; noise 0 6 0 0 0 0 0 0;");
        Check.noSuchElement("no frame", () -> x.frame(0, 0, 0));
        Check.send(x, 0, "aaaaaaaabbbbbbbbccc");
        x.pass(1);
        Check.same("tick 4", Lines.frames(x, 0), "0:8:4");
        int[] due = {0, 8, 4, 0};
        for (int what = 0; what < 4; what++) {
            Check.same("frame 0 0 " + what, x.frame(0, 0, what), due[what]);
        }
        Check.noSuchElement("frame 0 1", () -> x.frame(0, 1, 0));
        x.pass(1);
        Check.same("tick 5", Lines.frames(x, 0), "0:8:4 1:8:5 2:3:5");
        x.pass(1);
        Check.same("tick 6, place 0 is frame 1", Lines.frames(x, 0), "1:8:5 2:3:5");
        Check.noSuchElement("frame 0 2", () -> x.frame(0, 2, 0));
        x.escape(0);
        x.pass(2);
        Check.same("tick 8", Lines.frames(x, 0), "1:8:5* 2:3:5*");
        int[] again = {2, 3, 5, 1};
        for (int what = 0; what < 4; what++) {
            Check.same("frame 0 1 " + what, x.frame(0, 1, what), again[what]);
        }
        x.resume(0);
        x.setQuality(0);
        x.pass(1);
        Check.same("lost", Lines.frames(x, 0), "1:8:5* 2:3:5*");
        for (int far : new int[] {LEAST, -1, 4, MOST}) {
            Check.noSuchElement("frame 0 0 " + far, () -> x.frame(0, 0, far));
            Check.noSuchElement("frame 0 " + far, () -> x.frame(0, far, 0));
            Check.noSuchElement("frame 1 " + far, () -> x.frame(1, far, 0));
            Check.noSuchElement("frame " + far, () -> x.frame(far, 0, 0));
        }
        Check.noSuchElement("frame 0 2 when lost", () -> x.frame(0, 2, 0));
        Check.noSuchElement("frame 1 0", () -> x.frame(1, 0, 0));
        x.hangUp();
        Check.noSuchElement("frame 0 0 when hung up", () -> x.frame(0, 0, 0));
    }

    private static void received() {
        Check.about("Promise 10: the byte (0 to 255) at a place of those that an end has received and that are kept; NONE if there is none");
        ModemLink x = Lines.online("line 9; rates 80 1;");
        Check.same("nothing yet", x.received(0, 0), -1);
        x.feed(0x00FF7F80, 0, 0, 0, 0);
        x.send(1, 4);
        x.pass(2);
        int[] due = {0, 255, 127, 128};
        for (int place = 0; place < 4; place++) {
            Check.same("place " + place, x.received(0, place), due[place]);
        }
        for (int far : new int[] {LEAST, -1, 4, 399, 400, MOST}) {
            Check.same("place " + far, x.received(0, far), -1);
            Check.same("of end 1", x.received(1, far), -1);
            Check.noSuchElement("end 2", () -> x.received(2, far));
            Check.noSuchElement("end -1", () -> x.received(-1, far));
        }
        Check.same("of end 1", x.received(1, 0), -1);
        x.hangUp();
        Check.same("hung up", x.received(0, 3), 128);
        x.dial();
        Check.same("dialled", x.received(0, 3), 128);
    }

    private static void words() {
        Check.about("Promise 11: the byte (0 to 255) at a place of a dictionary of an end, from the front; NONE if there is none");
        ModemLink x = Lines.online("line 9; rates 80 1;");
        x.feed(0x00FF7F80, 0x01020304, 0x05000000, 0, 0);
        x.send(1, 4);
        x.pass(2);
        int[] due = {128, 127, 255, 0};
        for (int place = 0; place < 4; place++) {
            Check.same("writing " + place, x.word(1, true, place), due[place]);
            Check.same("reading " + place, x.word(0, false, place), due[place]);
            Check.same("reading of the sender", x.word(1, false, place), -1);
            Check.same("writing of the receiver", x.word(0, true, place), -1);
        }
        for (int far : new int[] {LEAST, -1, 4, 7, 8, MOST}) {
            Check.same("writing " + far, x.word(1, true, far), -1);
            Check.same("reading " + far, x.word(0, false, far), -1);
            Check.noSuchElement("end 2", () -> x.word(2, true, far));
            Check.noSuchElement("end -1", () -> x.word(-1, false, far));
        }
        Check.send(x, 1, "abcdefgh");
        x.pass(2);
        Check.same("the eighth", x.word(1, true, 7), 'a');
        Check.same("no ninth", x.word(1, true, 8), -1);
        Check.same("the eighth", x.word(0, false, 7), 'a');
        Check.same("no ninth", x.word(0, false, 8), -1);
        // A marked frame of one byte makes the dictionaries short again.
        x.setQuality(0);
        x.pass(1);
        x.setQuality(9);
        x.pass(3);
        Check.send(x, 1, "z");
        x.pass(2);
        Check.same("one", x.word(1, true, 0), 'z');
        Check.same("no second", x.word(1, true, 1), -1);
        Check.same("no second", x.word(0, false, 1), -1);
    }

    private static void events() {
        Check.about("Promise 12: Throws NoSuchElementException if there is no such event or what is out of range");
        ModemLink x = Lines.online("line 9; rates 40 1;");
        Check.same("tick", x.event(0, 0), 3);
        Check.same("kind", x.event(0, 1), 1);
        Check.same("end", x.event(0, 2), -1);
        Check.same("rate", x.event(0, 3), 0);
        for (int far : new int[] {LEAST, -1, 4, MOST}) {
            Check.noSuchElement("event 0 " + far, () -> x.event(0, far));
        }
        for (int far : new int[] {LEAST, -1, 1, 59, 60, MOST}) {
            Check.noSuchElement("event " + far, () -> x.event(far, 0));
        }
        x.undo();
        Check.noSuchElement("event 0 behind undo", () -> x.event(0, 0));
    }

    private static void rateFor() {
        Check.about("Promise 13: Returns the greatest rate whose need is at most a quality; NONE if there is none");
        ModemLink x = Check.loaded("line 9; rates 8 2, 9 3, 10 5, 11 8, 12 9;");
        int[] due = {-1, -1, 0, 1, 1, 2, 2, 2, 3, 4};
        for (int quality = 0; quality <= 9; quality++) {
            Check.same("quality " + quality, x.rateFor(quality), due[quality]);
        }
        for (int far : new int[] {LEAST, -1, 10, MOST}) {
            Check.illegalArgument("quality " + far, () -> x.rateFor(far));
        }
        Lines.sizes(x, "the quality stays", 2, 9);
        Check.load(x, "line 9; rates 8 9;");
        Check.same("quality 8", x.rateFor(8), -1);
        Check.same("quality 9", x.rateFor(9), 0);
    }

    private static void nextCost() {
        Check.about("Promise 14: what the next new frame of an end would cost, if it was made and sent now, ahead of all that is to be sent again; 0 if its queue is empty or the line is not online");
        ModemLink x = Check.loaded("line 5; rates 20 1; train 1 1 1 1; window 1; noise 6 0 0 0 0;");
        Check.same("idle", x.nextCost(0), 0);
        x.dial();
        Check.send(x, 0, "abcdefghi");
        Check.same("training", x.nextCost(0), 0);
        x.pass(4);
        Check.same("eight bytes, marked", x.nextCost(0), 29);
        Check.same("an empty queue", x.nextCost(1), 0);
        x.pass(1);
        Check.same("the credit is too small", x.nextCost(0), 29);
        x.pass(1);
        Check.same("one byte, and the window is full", x.nextCost(0), 7);
        x.escape(0);
        x.pass(3);
        Check.same("to be sent again", Lines.frames(x, 0), "0:8:5*");
        Check.same("marked behind a failure, ahead of it", x.nextCost(0), 8);
        Check.send(x, 0, "iiiiiiij");
        Check.same("the first eight of nine", x.nextCost(0), 5 + 3 + 7);
        x.setQuality(0);
        x.pass(1);
        Check.same("lost", x.nextCost(0), 0);
        x.setQuality(5);
        x.pass(3);
        Check.same("online again", x.nextCost(0), 15);
        x.hangUp();
        Check.same("hung up", x.nextCost(0), 0);
        for (int far : new int[] {LEAST, -1, 2, MOST}) {
            Check.noSuchElement("end " + far, () -> x.nextCost(far));
        }
    }

    private static void finishedNow() {
        Check.about("Promise 15: behind which both queues are empty and no end has a frame without acknowledgement, while the line is online (0 if it is so now)");
        ModemLink x = Check.loaded("line 9; rates 40 1; train 1 1 1 1;");
        Check.same("idle", x.ticksToFinish(), -1);
        x.dial();
        Check.same("training", x.ticksToFinish(), 4);
        x.pass(3);
        Check.same("the last tick of training", x.ticksToFinish(), 1);
        x.pass(1);
        Check.same("online", x.ticksToFinish(), 0);
        for (int end = 0; end <= 1; end++) {
            Check.send(x, end, "a");
            Check.same("a byte in the queue", x.ticksToFinish(), 3);
            x.pass(1);
            Check.same("a frame sent", x.ticksToFinish(), 2);
            x.pass(1);
            Check.same("a frame received", x.ticksToFinish(), 1);
            x.pass(1);
            Check.same("a frame acknowledged", x.ticksToFinish(), 0);
        }
        x.setQuality(0);
        Check.same("so now, whatever comes", x.ticksToFinish(), 0);
        x.pass(1);
        Check.same("lost", x.ticksToFinish(), -1);
        x.setQuality(9);
        Check.same("to be found", x.ticksToFinish(), 3);
    }

    private static void finishedWithin400() {
        Check.about("Promise 15: NONE if ... it is not so within 400 ticks");
        // A frame takes 18 ticks with a window of 1 and a delay of 9; 22 of them take 396.
        for (int end = 0; end <= 1; end++) {
            ModemLink x = Lines.online("line 9; rates 40 1; window 1; delay 9 60;");
            Check.send(x, end, "a".repeat(176));
            Check.same("396 and the tick of the last one", x.ticksToFinish(), 397);
            x.hangUp();
            x.dial();
            Check.send(x, end, "a".repeat(176));
            Check.same("401", x.ticksToFinish(), -1);
            x.pass(1);
            Check.same("400", x.ticksToFinish(), 400);
            x.pass(1);
            Check.same("399", x.ticksToFinish(), 399);
            x.undo();
            x.undo();
            Check.same("401 again", x.ticksToFinish(), -1);
        }
    }

    private static void hungUpBefore() {
        Check.about("Promise 15: NONE if the line is hung up before that");
        ModemLink x = Check.loaded("line 0; rates 8 1; train 1 1 1 1;");
        x.dial();
        Check.same("restarts", x.ticksToFinish(), -1);
        x.setQuality(1);
        Check.same("none", x.ticksToFinish(), 4);
        x = Check.loaded("line 1; rates 8 2; train 1 1 1 1;");
        x.dial();
        Check.same("no rate", x.ticksToFinish(), -1);
        x.setQuality(2);
        Check.same("a rate", x.ticksToFinish(), 4);
        x = Lines.online("line 5; rates 40 1; noise 6 6 0 0; limit 2;");
        Check.send(x, 0, "a");
        Check.same("two failures", x.ticksToFinish(), -1);
        x.setQuality(6);
        Check.same("none", x.ticksToFinish(), 3);
        x = Lines.online("line 5; rates 40 1; noise 6 6 0 0; limit 3;");
        Check.send(x, 0, "a");
        Check.same("two failures of three", x.ticksToFinish(), 9);
        x = Lines.online("line 9; rates 40 1;");
        Check.send(x, 0, "a");
        x.escape(0);
        Check.same("escaped for more than 400 ticks", x.ticksToFinish(), -1);
        x.escape(1);
        x.resume(0);
        Check.same("the other end has escaped", x.ticksToFinish(), 3);
    }

    private static void receivedBehind() {
        Check.about("Promise 16: ticks: 0 to 400; the bytes that an end would have received behind so many ticks");
        ModemLink x = Lines.online("line 9; rates 40 1; window 1; delay 9 60;");
        Check.send(x, 0, "a".repeat(199));
        Check.same("0", x.receivedBehind(1, 0), 0);
        Check.same("9", x.receivedBehind(1, 9), 0);
        Check.same("10", x.receivedBehind(1, 10), 8);
        Check.same("27", x.receivedBehind(1, 27), 8);
        Check.same("28", x.receivedBehind(1, 28), 16);
        Check.same("387", x.receivedBehind(1, 387), 168);
        Check.same("388", x.receivedBehind(1, 388), 176);
        Check.same("400", x.receivedBehind(1, 400), 176);
        Check.same("of end 0", x.receivedBehind(0, 400), 0);
        x.pass(6);
        Check.same("400", x.receivedBehind(1, 400), 184);
        Check.same("399", x.receivedBehind(1, 399), 176);
        x.pass(4);
        Check.same("0, those received before, too", x.receivedBehind(1, 0), 8);
        for (int far : new int[] {LEAST, -1, 401, MOST}) {
            Check.illegalArgument("ticks " + far, () -> x.receivedBehind(1, far));
            Check.noSuchElement("no end, ticks " + far, () -> x.receivedBehind(2, far));
            Check.noSuchElement("end " + far, () -> x.receivedBehind(far, 0));
        }
        x.setQuality(0);
        Check.same("the carrier is lost", x.receivedBehind(1, 400), 8);
        Lines.sizes(x, "nothing happens by it", 0, 14, 1, 2);
        // Bytes that are not kept are counted.
        ModemLink y = Lines.online("line 9; rates 80 1; window 7;");
        Check.send(y, 1, "a".repeat(200));
        y.pass(60);
        Check.send(y, 1, "a".repeat(200));
        y.pass(60);
        Check.send(y, 1, "a");
        Check.same("401 bytes", y.receivedBehind(0, 2), 401);
        Check.same("400 bytes", y.receivedBehind(0, 1), 400);
    }

    private static void aheadOfTheLastTick() {
        Check.about("Promises 15, 16: if ticks pass and nothing else is done");
        ModemLink x = Check.loaded("line 9; rates 40 1; train 1 1 1 1;");
        for (int k = 0; k < 499; k++) {
            x.pass(200);
        }
        x.dial();
        Check.send(x, 0, "a");
        x.pass(199);
        Check.send(x, 0, "b");
        Lines.sizes(x, "the last tick", 0, 99999);
        Check.same("ticksToFinish", x.ticksToFinish(), 3);
        Check.same("receivedBehind 1", x.receivedBehind(1, 1), 1);
        Check.same("receivedBehind 2", x.receivedBehind(1, 2), 2);
        Check.same("leastQuality", x.leastQuality(), 1);
        Check.same("pass", x.pass(1), -2);
    }

    private static void leastQuality() {
        Check.about("Promise 17: the least quality (0 to 9) with which, set now, ticksToFinish is not NONE; NONE if there is none");
        ModemLink x = Lines.online("line 9; rates 8 9;");
        Check.same("0: finished now", x.leastQuality(), 0);
        Check.send(x, 0, "a");
        Check.same("1: any carrier", x.leastQuality(), 1);
        x.setQuality(0);
        x.pass(1);
        Check.same("9: the need of the rate", x.leastQuality(), 9);
        Lines.sizes(x, "the quality stays", 1, 3, 2, 0);
        x = Lines.online("line 9; rates 8 1; noise 9;");
        Check.send(x, 1, "a");
        Check.same("9: the noise", x.leastQuality(), 9);
        x.escape(1);
        Check.same("none: escaped", x.leastQuality(), -1);
        x.hangUp();
        Check.same("none: idle", x.leastQuality(), -1);
        x.dial();
        Check.same("1: training with an empty queue", x.leastQuality(), 1);
        x = Lines.online("line 9; rates 8 1, 16 9; noise 9;");
        Check.send(x, 1, "a");
        Check.same("9: it falls to a rate that works", x.leastQuality(), 9);
        x = Lines.online("line 9; rates 40 1; window 1; delay 9 60;");
        Check.send(x, 0, "a".repeat(184));
        Check.same("none: 415 ticks", x.leastQuality(), -1);
        x.pass(15);
        Check.same("1: 400 ticks", x.leastQuality(), 1);
        x.undo();
        x.pass(14);
        Check.same("none: 401 ticks", x.leastQuality(), -1);
    }

    private static void costPerByte() {
        Check.about("Promise 18: the costs of all frames that were sent divided by twice the bytes that were received, as doubles; 0 without such bytes");
        ModemLink x = Lines.online("line 5; rates 40 1; noise 6 0 0 0;");
        Check.same("new", x.costPerByte(), 0.0);
        Check.send(x, 0, "a");
        x.pass(1);
        Check.same("costs without bytes", x.costPerByte(), 0.0);
        x.pass(4);
        Check.same("16 by 2", x.costPerByte(), 8.0);
        Check.send(x, 1, "ab");
        x.pass(2);
        Check.same("27 by 6", x.costPerByte(), 4.5);
        Check.send(x, 1, "cdefgab");
        x.pass(2);
        Check.same("27 and 25 by 20", x.costPerByte(), (27.0 + 4 + 5 * 3 + 2) / 20.0);
    }

    private static void damage() {
        Check.about("Promise 19: the damaged frames divided by the frames that were sent, as floats; 0 without any");
        ModemLink x = Lines.online("line 5; rates 80 1; noise 6 0 0; window 7; delay 9 60;");
        Check.same("none", x.damage(), 0.0f);
        float[] due = {1.0f, 1.0f / 2.0f, 1.0f / 3.0f, 2.0f / 4.0f, 2.0f / 5.0f, 2.0f / 6.0f, 3.0f / 7.0f};
        for (int k = 0; k < due.length; k++) {
            Check.send(x, 0, "a");
            x.pass(1);
            Check.same("of " + (k + 1), x.damage(), due[k]);
        }
        x = Lines.online("line 9; rates 40 1;");
        Check.send(x, 0, "a");
        x.pass(1);
        Check.same("none of one", x.damage(), 0.0f);
    }
}
