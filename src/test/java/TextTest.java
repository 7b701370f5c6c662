/** Promises 1 to 4 and 33: a new object, the buffer, the texts of load and query and their errors. */
final class TextTest {
    private static final String HEAD = "line 9; rates 8 1;";

    private TextTest() {
    }

    public static void main(String[] args) {
        newObject();
        feed();
        loadReplacesAll();
        loadLengths();
        tokens();
        loadErrors();
        clauseErrors();
        rateErrors();
        defaultsAndLastClauses();
        queryAnswers();
        queryErrors();
        queryOpen();
        queryLengths();
        errorPositions();
        Check.finish();
    }

    private static void newObject() {
        ModemLink x = new ModemLink();
        int[] sizes = {0, 0, 9, -1, -1, -1, -1, -1, 0, 0, 0, 0};
        for (int what = 0; what < sizes.length; what++) {
            Check.same("new: size " + what, x.size(what), sizes[what]);
        }
        for (int what = 0; what <= 10; what++) {
            Check.same("new: total " + what, x.total(what), 0);
        }
        for (int what = 0; what <= 9; what++) {
            Check.same("new: end 0 " + what, x.end(0, what), 0);
            Check.same("new: end 1 " + what, x.end(1, what), 0);
        }
        Check.same("new: speed", x.rate(0, 0), 8);
        Check.same("new: need", x.rate(0, 1), 1);
        Check.noSuchElement("new: rate(1, 0)", () -> x.rate(1, 0));
        Check.same("new: errorPosition", x.errorPosition(), -1);
        Check.same("new: undoCount", x.undoCount(), 0);
        Check.same("new: undo", x.undo(), -1);
        Check.same("new: restoreSnapshot", x.restoreSnapshot() ? 1 : 0, 0);
        Check.same("new: formattedByte", x.formattedByte(0), -1);
        Check.same("new: ticksToFinish", x.ticksToFinish(), -1);
        Check.same("new: format", Check.formatted(x), "idle 0/0/0 0/0/0");
        Check.same("new: dial", x.dial(), 8);
    }

    private static void feed() {
        ModemLink x = Check.loaded(HEAD + " window 7;");
        x.dial();
        x.pass(8);
        for (int k = 1; k <= 30; k++) {
            Check.same("feed " + k, x.feed(-1, 0x80FF00FE, 0x01020304, 0x7FFFFFFF, 0xC0000000), 20 * k);
        }
        Check.same("feed of byte 601", x.feed(1, 2, 3, 4, 5), -1);
        Check.same("size 11", x.size(11), 600);
        Check.same("send", x.send(0, 20), 20);
        Check.same("size 11 behind send", x.size(11), 0);
        x.pass(100);
        int[] due = {255, 255, 255, 255, 128, 255, 0, 254, 1, 2, 3, 4, 127, 255, 255, 255, 192, 0, 0, 0, -1};
        for (int k = 0; k < due.length; k++) {
            Check.same("received byte " + k, x.received(1, k), due[k]);
        }
    }

    private static void loadReplacesAll() {
        ModemLink x = Check.loaded("line 9; rates 20 1, 40 2; train 1 1 1 1; noise 9;");
        x.dial();
        x.pass(4);
        Check.send(x, 0, "abc");
        x.pass(5);
        x.saveSnapshot();
        Check.same("format before load", x.format(), Check.formatted(x).length());
        int first = x.formattedByte(0);
        Check.same("load with an error", Check.load(x, "line 9; rates 8 1; x"), -11);
        Check.same("undoCount behind an error", x.undoCount(), 4);
        Check.same("time behind an error", x.size(0), 9);
        Check.same("load", Check.load(x, "line 3; rates 10 2, 12 4, 14 9;"), 3);
        Check.same("text of format stays", x.formattedByte(0), first);
        Check.same("undoCount behind load", x.undoCount(), 0);
        Check.same("undo behind load", x.undo(), -1);
        Check.same("snapshot behind load", x.restoreSnapshot() ? 1 : 0, 0);
        Check.same("format behind load", Check.formatted(x), "idle 0/0/0 0/0/0");
        Check.same("time behind load", x.size(0), 0);
        Check.same("quality behind load", x.size(2), 3);
        Check.same("events behind load", x.size(10), 0);
        Check.same("rate 2 0", x.rate(2, 0), 14);
        Check.same("rate 2 1", x.rate(2, 1), 9);
        for (int what = 0; what <= 10; what++) {
            Check.same("total behind load " + what, x.total(what), 0);
        }
        for (int what = 0; what <= 9; what++) {
            Check.same("end behind load " + what, x.end(0, what), 0);
        }
        Check.same("word behind load", x.word(0, true, 0), -1);
        Check.same("dial behind load", x.dial(), 8);
    }

    private static void loadLengths() {
        ModemLink x = new ModemLink();
        int length = Check.feed(x, Check.bytes("line 4; rates 9 1;"));
        Check.illegalArgument("load(-1)", () -> x.load(-1));
        Check.illegalArgument("load(21)", () -> x.load(21));
        Check.illegalArgument("load(most)", () -> x.load(Integer.MAX_VALUE));
        Check.illegalArgument("load(least)", () -> x.load(Integer.MIN_VALUE));
        Check.same("buffer behind exceptions", x.size(11), 20);
        Check.same("load", x.load(length), 1);
        Check.same("buffer behind load", x.size(11), 0);
        Check.same("quality", x.size(2), 4);
        Check.feed(x, Check.bytes(HEAD));
        Check.same("load of less", x.load(17), -11);
        Check.same("its position", x.errorPosition(), 17);
        Check.same("buffer behind an error", x.size(11), 0);
        Check.same("load(0)", x.load(0), -11);
        Check.same("its position", x.errorPosition(), 0);
    }

    private static void tokens() {
        loads("line9;rates8 1;", 1);
        loads("\n line\n0009 ;\nrates 00000000000000000000080 1 ;  \n", 1);
        loads("line 0; rates 4 1, 5 2, 6 3, 7 4, 80 9;", 5);
        fails("line 9\r; rates 8 1;", 1, 6);
        fails("line 9;\trates 8 1;", 1, 7);
        fails("Line 9; rates 8 1;", 1, 0);
        fails("lin 9; rates 8 1;", 1, 0);
        fails("linex 9; rates 8 1;", 1, 0);
        fails("li ne 9; rates 8 1;", 1, 0);
        fails("xine 9; rates 8 1;", 1, 0);
        fails("linez 9; rates 8 1;", 1, 0);
        fails("alinea 9; rates 8 1;", 1, 0);
        fails("line`9; rates 8 1;", 1, 4);
        fails("line{9; rates 8 1;", 1, 4);
        fails("line 9/; rates 8 1;", 1, 6);
        fails("line 9:; rates 8 1;", 1, 6);
        fails("line 9; rates 8 1; \u00e9", 1, 19);
        fails("line 9; rates 8 1; \u0000", 1, 19);
        fails("line -1; rates 8 1;", 1, 5);
    }

    private static void loadErrors() {
        fails("", 1, 0);
        fails("   ", 1, 3);
        fails("line", 1, 4);
        fails("line ;", 1, 5);
        fails("line 10; rates 8 1;", 2, 5);
        fails("line 99999999999999999999999; rates 8 1;", 2, 5);
        fails("line 4294967296; rates 8 1;", 2, 5);
        fails("line 9 rates 8 1;", 1, 7);
        fails("line 9; rate 8 1;", 1, 8);
        fails("line 9;", 1, 7);
        fails("line 9; rates", 1, 13);
        fails("line 9; rates ;", 1, 14);
        fails("line 9; rates 8 ;", 1, 16);
        fails("line 9; rates 8 1", 1, 17);
        fails("line 9; rates 8 1, ;", 1, 19);
        fails("line 9; rates 8 1 9;", 1, 18);
        fails(HEAD + ";", 1, 18);
        fails(HEAD + "9", 1, 18);
        fails(HEAD + "line", 1, 18);
        fails(HEAD + "trains 1 1 1 1;", 1, 18);
    }

    private static void clauseErrors() {
        loads(HEAD + "train 1 20 1 20;retries 0;retries 9;hold 0;hold 50;window 1;window 7;limit 1;limit 5;", 1);
        loads(HEAD + "patience 1;patience 50;delay 1 3;delay 9 60;delay 9 19;noise 0;noise 9 9 9 9 9 9 9 9 9 9;", 1);
        fails(HEAD + "train 1 1 1;", 1, 29);
        fails(HEAD + "train 1 1 1 1 1;", 1, 32);
        fails(HEAD + "train 0 1 1 1;", 2, 24);
        fails(HEAD + "train 1 1 1 21;", 2, 30);
        fails(HEAD + "retries;", 1, 25);
        fails(HEAD + "retries 10;", 2, 26);
        fails(HEAD + "hold 51;", 2, 23);
        fails(HEAD + "window 0;", 2, 25);
        fails(HEAD + "window 8;", 2, 25);
        fails(HEAD + "limit 0;", 2, 24);
        fails(HEAD + "limit 6;", 2, 24);
        fails(HEAD + "patience 0;", 2, 27);
        fails(HEAD + "patience 51;", 2, 27);
        fails(HEAD + "patience 5", 1, 28);
        fails(HEAD + "delay 0 9;", 2, 24);
        fails(HEAD + "delay 10 9;", 2, 24);
        fails(HEAD + "delay 1;", 1, 25);
        fails(HEAD + "delay 1 2;", 4, 26);
        fails(HEAD + "delay 9 18;", 4, 26);
        fails(HEAD + "delay 9 0;", 4, 26);
        fails(HEAD + "delay 9 61;", 2, 26);
        fails(HEAD + "delay 1 3", 1, 27);
        fails(HEAD + "noise;", 1, 23);
        fails(HEAD + "noise 10;", 2, 24);
        fails(HEAD + "noise 1 10;", 2, 26);
        fails(HEAD + "noise 1 x;", 1, 26);
        fails(HEAD + "noise 1, 2;", 1, 25);
        fails(HEAD + "noise 0 1 2 3 4 5 6 7 8 9 0;", 3, 44);
        fails(HEAD + "noise 0 1 2 3 4 5 6 7 8 9 10;", 2, 44);
        fails(HEAD + "noise 0 1 2 3 4 5 6 7 8 9", 1, 43);
    }

    private static void rateErrors() {
        fails("line 9; rates 3 1;", 2, 14);
        fails("line 9; rates 81 1;", 2, 14);
        fails("line 9; rates 8 0;", 2, 16);
        fails("line 9; rates 8 10;", 2, 16);
        fails("line 9; rates 8 1, 8 2;", 4, 19);
        fails("line 9; rates 8 2, 9 2;", 4, 21);
        fails("line 9; rates 8 2, 9 1;", 4, 21);
        fails("line 9; rates 8 1, 3 2;", 2, 19);
        fails("line 9; rates 8 1, 9 0;", 2, 21);
        fails("line 9; rates 80 1, 81 2;", 2, 20);
        fails("line 9; rates 4 1, 5 2, 6 3, 7 4, 8 5, 9 6;", 3, 37);
        fails("line 9; rates 4 1, 5 2, 6 3, 7 4, 8 5,", 3, 37);
        fails("line 9; rates 4 1, 5 2, 6 3, 7 4, 8 5 9 6;", 1, 38);
    }

    private static void loads(String text, int rates) {
        ModemLink x = new ModemLink();
        Check.same("load of " + text, Check.load(x, text), rates);
        Check.same("errorPosition of " + text, x.errorPosition(), -1);
    }

    private static void fails(String text, int code, int position) {
        ModemLink x = new ModemLink();
        Check.same("load of " + text, Check.load(x, text), -10 - code);
        Check.same("errorPosition of " + text, x.errorPosition(), position);
        Check.same("nothing changes by " + text, x.rate(0, 0), 8);
        Check.same("the buffer is empty behind " + text, x.size(11), 0);
    }

    private static void defaultsAndLastClauses() {
        ModemLink x = Check.loaded(HEAD + "train 9 9 9 9; train 1 2 3 4;");
        Check.same("the last train counts", x.dial(), 10);
        Check.same("step 0", x.size(5), 1);
        x.pass(1);
        Check.same("step 1", x.size(5), 2);
        x.pass(2);
        Check.same("step 2", x.size(5), 3);
        x.pass(3);
        Check.same("step 3", x.size(5), 4);
        // A second load must not see the clauses of the first one.
        Check.load(x, HEAD);
        Check.same("lengths without a clause", x.dial(), 8);
        Check.load(x, "line 9; rates 4 1, 9 2; noise 9 9; noise 0;");
        Check.same("two rates", x.rate(1, 1), 2);
        Check.load(x, HEAD);
        Check.noSuchElement("one rate again", () -> x.rate(1, 0));
    }

    /** Events: 0 online (tick 3, rate 1), 1 mark received (tick 5, end 1, rate 1), 2 carrier lost (8), 3 hung up (9). */
    private static ModemLink withEvents() {
        ModemLink x = Check.loaded("line 9; rates 8 1, 16 7; train 1 1 1 1; hold 1;");
        x.dial();
        x.pass(4);
        Check.send(x, 0, "aaaaaaaaaa");
        x.pass(4);
        x.setQuality(0);
        x.pass(2);
        Check.same("events", Check.events(x), "3:1:-1:1 5:7:1:1 8:4:-1:-1 9:5:-1:-1");
        return x;
    }

    private static void queryAnswers() {
        ModemLink x = withEvents();
        answers(x, "many 1 = 1", 4);
        answers(x, "many 1=2", 0);
        answers(x, "first 1 = 2", -1);
        answers(x, "first 1 = 1", 0);
        answers(x, "many event < 2", 2);
        answers(x, "first event > 2", 3);
        answers(x, "first tick = 8", 2);
        answers(x, "many tick > 3", 3);
        answers(x, "first kind = 7", 1);
        answers(x, "many end = 0", 3);
        answers(x, "first end = 2", 1);
        answers(x, "many rate = 2", 2);
        answers(x, "many rate = 0", 2);
        answers(x, "many rate > end", 1);
        answers(x, "many 5 < tick", 2);
        answers(x, "many 99999 > tick", 4);
        answers(x, "many 00000000000000000000 < tick", 4);
        answers(x, "many event=0 or event=1 and kind=5", 1);
        answers(x, "many kind=5 and event=1 or event=0", 1);
        answers(x, "many (event=0 or event=3) and kind=5", 1);
        answers(x, "many not event=0 and event<3", 2);
        answers(x, "many not (event=0 and event<3)", 3);
        answers(x, "many not not event=0", 1);
        answers(x, "many ((event=0)or((event=1)))", 2);
        answers(x, "first not event=0 or event=0", 0);
        answers(new ModemLink(), "many 1 = 1", 0);
        answers(new ModemLink(), "first not 1 = 2", -1);
        Check.same("undoCount behind queries", x.undoCount(), 6);
    }

    private static void answers(ModemLink x, String query, int due) {
        Check.same(query, Check.query(x, query), due);
        Check.same("errorPosition of " + query, x.errorPosition(), -1);
        Check.same("the buffer is empty behind " + query, x.size(11), 0);
    }

    private static void queryErrors() {
        queryFails("", 1, 0);
        queryFails("any 1 = 1", 1, 0);
        queryFails("many", 1, 4);
        queryFails("many many", 1, 5);
        queryFails("many 1", 1, 6);
        queryFails("many 1 = ", 1, 9);
        queryFails("many 1 < < 1", 1, 9);
        queryFails("many 1 1", 1, 7);
        queryFails("many 1 < 2 < 3", 1, 11);
        queryFails("many 1 = 1 and", 1, 14);
        queryFails("many 1 = 1 or or", 1, 14);
        queryFails("many 1 = 1 not", 1, 11);
        queryFails("many 1 = 1)", 1, 10);
        queryFails("many (1 = 1", 1, 11);
        queryFails("many (1 = 1 1", 1, 12);
        queryFails("many () 1", 1, 6);
        queryFails("many (tick) < 1", 1, 10);
        queryFails("many ticks < 1", 1, 5);
        queryFails("many 1 = not", 1, 9);
        queryFails("many not", 1, 8);
        queryFails("many 100000 = 1", 2, 5);
        queryFails("many 1 = 100000", 2, 9);
        queryFails("many 1 = 99999999999999999999", 2, 9);
        queryFails("many 1 100000", 1, 7);
        queryFails("many 1 ! 1", 1, 7);
        queryFails("many 1 = 1;", 1, 10);
    }

    private static void queryOpen() {
        ModemLink x = withEvents();
        answers(x, "many not not not not not not event=0", 1);
        answers(x, "many ((((((event=0))))))", 1);
        answers(x, "many not(not(not(event=0)))", 3);
        answers(x, "many ((((((event=0)))))) or not not not not not not event=1", 2);
        answers(x, "many (((((not event=0 and not event=1)))))", 2);
        queryFails("many not not not not not not not event=0", 3, 29);
        queryFails("many (((((((event=0)))))))", 3, 11);
        queryFails("many not(not(not((event=0))))", 3, 17);
        queryFails("many not(not(not(not", 3, 17);
        queryFails("many ((((((event=0 (", 1, 19);
    }

    private static void queryFails(String text, int code, int position) {
        ModemLink x = new ModemLink();
        Check.same(text, Check.query(x, text), ModemLink.HIDDEN - code);
        Check.same("errorPosition of " + text, x.errorPosition(), position);
        Check.same("the buffer is empty behind " + text, x.size(11), 0);
    }

    private static void queryLengths() {
        ModemLink x = withEvents();
        Check.feed(x, Check.bytes("many 1 = 1"));
        Check.illegalArgument("query(-1)", () -> x.query(-1));
        Check.illegalArgument("query(21)", () -> x.query(21));
        Check.same("buffer behind exceptions", x.size(11), 20);
        Check.same("query", x.query(10), 4);
        Check.feed(x, Check.bytes("many 1 = 1" + " ".repeat(200)));
        Check.illegalArgument("query(201)", () -> x.query(201));
        Check.same("buffer behind query(201)", x.size(11), 220);
        Check.same("query(200)", x.query(200), 4);
        Check.same("buffer behind query(200)", x.size(11), 0);
    }

    private static void errorPositions() {
        ModemLink x = new ModemLink();
        Check.load(x, "line 12;");
        Check.same("of load", x.errorPosition(), 5);
        Check.illegalArgument("load(1)", () -> x.load(1));
        Check.illegalArgument("query(1)", () -> x.query(1));
        Check.same("behind exceptions", x.errorPosition(), 5);
        x.dial();
        x.undo();
        x.saveSnapshot();
        x.restoreSnapshot();
        Check.same("behind other calls", x.errorPosition(), 5);
        Check.query(x, "many 1 & 1");
        Check.same("of query", x.errorPosition(), 7);
        Check.query(x, "many 1 = 1");
        Check.same("of a right query", x.errorPosition(), -1);
        Check.query(x, "x");
        Check.load(x, HEAD);
        Check.same("of a right load", x.errorPosition(), -1);
    }
}
