/** The edges of the section "The line": every range that it names, on both sides. */
final class LineBoundsTest {
    private LineBoundsTest() {
    }

    public static void main(String[] args) {
        twoEnds();
        qualities();
        noCarrierAtNought();
        timeFromNought();
        oneToFiveRates();
        speeds();
        needs();
        greaterThanBefore();
        phases();
        fourSteps();
        stepLengths();
        shortAndLongSteps();
        Check.finish();
    }

    private static void accepts(String text) {
        ModemLink x = new ModemLink();
        Check.yes("load of " + text, Check.load(x, text) > 0);
        Check.same("errorPosition of " + text, x.errorPosition(), -1);
    }

    private static void refuses(String text, int code, int position) {
        ModemLink x = new ModemLink();
        Check.same("load of " + text, Check.load(x, text), -10 - code);
        Check.same("errorPosition of " + text, x.errorPosition(), position);
    }

    private static void twoEnds() {
        Check.about("The line has two ends, 0 and 1");
        ModemLink x = Lines.online("line 9; rates 40 1;");
        for (int end = 0; end <= 1; end++) {
            Check.same("send " + end, Check.send(x, end, "ab"), 2);
            Check.same("nextCost " + end, x.nextCost(end), 11);
            Check.same("escape " + end, x.escape(end), 2);
            Check.same("resume " + end, x.resume(end), 2);
        }
        x.pass(2);
        for (int end = 0; end <= 1; end++) {
            Check.same("frame " + end, x.frame(end, 0, 1), 2);
            Check.same("end " + end, x.end(end, 5), 2);
            Check.same("received " + end, x.received(end, 0), 'a');
            Check.same("word " + end, x.word(end, true, 0), 'b');
            Check.same("word " + end, x.word(end, false, 1), 'a');
            Check.same("receivedBehind " + end, x.receivedBehind(end, 0), 2);
        }
        for (int no : new int[] {-1, 2}) {
            Check.noSuchElement("end " + no, () -> x.end(no, 0));
            Check.noSuchElement("frame " + no, () -> x.frame(no, 0, 0));
            Check.noSuchElement("received " + no, () -> x.received(no, 0));
            Check.noSuchElement("word " + no, () -> x.word(no, true, 0));
            Check.noSuchElement("nextCost " + no, () -> x.nextCost(no));
            Check.noSuchElement("receivedBehind " + no, () -> x.receivedBehind(no, 0));
            Check.noSuchElement("escape " + no, () -> x.escape(no));
            Check.noSuchElement("resume " + no, () -> x.resume(no));
            Check.noSuchElement("send " + no, () -> x.send(no, 0));
        }
    }

    private static void qualities() {
        Check.about("a quality (0 to 9; at 0 there is no carrier)");
        accepts("line 0; rates 8 1;");
        accepts("line 9; rates 8 1;");
        refuses("line 10; rates 8 1;", 2, 5);
        ModemLink x = new ModemLink();
        Check.illegalArgument("setQuality -1", () -> x.setQuality(-1));
        Check.same("setQuality 0", x.setQuality(0), 9);
        Check.same("setQuality 9", x.setQuality(9), 0);
        Check.illegalArgument("setQuality 10", () -> x.setQuality(10));
        Check.illegalArgument("rateFor -1", () -> x.rateFor(-1));
        Check.same("rateFor 0", x.rateFor(0), -1);
        Check.same("rateFor 9", x.rateFor(9), 0);
        Check.illegalArgument("rateFor 10", () -> x.rateFor(10));
    }

    private static void noCarrierAtNought() {
        Check.about("a quality (0 to 9; at 0 there is no carrier)");
        ModemLink x = Check.loaded("line 1; rates 8 1; train 1 1 1 1;");
        x.dial();
        x.pass(5);
        Lines.sizes(x, "online at quality 1", 0, 5, 1, 2);
        x.setQuality(0);
        x.pass(1);
        Lines.sizes(x, "lost at quality 0", 1, 3);
        x.pass(1);
        Lines.sizes(x, "lost longer at quality 0", 1, 3, 7, 2);
        x.setQuality(1);
        x.pass(1);
        Lines.sizes(x, "found at quality 1", 1, 1, 4, 2);
        x.pass(1);
        Lines.sizes(x, "trained at quality 1", 4, 3, 6, 0);
        x.setQuality(0);
        x.pass(1);
        Lines.sizes(x, "begun again at quality 0", 4, 3, 6, 1);
    }

    private static void timeFromNought() {
        Check.about("Time is counted in ticks from 0");
        ModemLink x = new ModemLink();
        Lines.sizes(x, "new", 0, 0);
        x.pass(1);
        Lines.sizes(x, "behind a tick", 0, 1);
        Check.load(x, Lines.HEAD);
        Lines.sizes(x, "loaded", 0, 0);
    }

    private static void oneToFiveRates() {
        Check.about("There are 1 to 5 rates, numbered from 0");
        refuses("line 9; rates;", 1, 13);
        String[] texts = {"4 1", "4 1, 5 2", "4 1, 5 2, 6 3", "4 1, 5 2, 6 3, 7 4", "4 1, 5 2, 6 3, 7 4, 8 5"};
        for (int count = 1; count <= 5; count++) {
            ModemLink x = new ModemLink();
            Check.same("rates " + texts[count - 1], Check.load(x, "line 9; rates " + texts[count - 1] + ";"), count);
            for (int rate = 0; rate < count; rate++) {
                Check.same("speed " + rate + " of " + count, x.rate(rate, 0), 4 + rate);
                Check.same("need " + rate + " of " + count, x.rate(rate, 1), 1 + rate);
            }
            int behind = count;
            Check.noSuchElement("rate " + count + " of " + count, () -> x.rate(behind, 0));
            Check.noSuchElement("rate -1 of " + count, () -> x.rate(-1, 0));
        }
        refuses("line 9; rates 4 1, 5 2, 6 3, 7 4, 8 5, 9 6;", 3, 37);
    }

    private static void speeds() {
        Check.about("each with a speed (4 to 80)");
        refuses("line 9; rates 3 1;", 2, 14);
        accepts("line 9; rates 4 1;");
        accepts("line 9; rates 80 1;");
        refuses("line 9; rates 81 1;", 2, 14);
        accepts("line 9; rates 4 1, 80 2;");
        refuses("line 9; rates 4 1, 81 2;", 2, 19);
    }

    private static void needs() {
        Check.about("and a need (1 to 9)");
        refuses("line 9; rates 8 0;", 2, 16);
        accepts("line 9; rates 8 1;");
        accepts("line 9; rates 8 9;");
        refuses("line 9; rates 8 10;", 2, 16);
        accepts("line 9; rates 8 1, 9 9;");
        refuses("line 9; rates 8 1, 9 10;", 2, 21);
    }

    private static void greaterThanBefore() {
        Check.about("both are greater for each rate than for the one before");
        accepts("line 9; rates 8 1, 9 2;");
        refuses("line 9; rates 8 1, 8 2;", 4, 19);
        refuses("line 9; rates 8 1, 7 2;", 4, 19);
        refuses("line 9; rates 8 2, 9 2;", 4, 21);
        refuses("line 9; rates 8 2, 9 1;", 4, 21);
        accepts("line 9; rates 8 1, 10 4, 11 5;");
        refuses("line 9; rates 8 1, 10 4, 10 5;", 4, 25);
        refuses("line 9; rates 8 1, 10 4, 9 5;", 4, 25);
        refuses("line 9; rates 8 1, 10 4, 11 4;", 4, 28);
        refuses("line 9; rates 8 1, 10 4, 11 3;", 4, 28);
        accepts("line 9; rates 4 1, 5 2, 6 3, 79 8, 80 9;");
        refuses("line 9; rates 4 1, 5 2, 6 3, 80 8, 80 9;", 4, 35);
        refuses("line 9; rates 4 1, 5 2, 6 3, 79 9, 80 9;", 4, 38);
    }

    private static void phases() {
        Check.about("The phases of the line are 0 idle, 1 training, 2 online, 3 carrier lost. It is idle at first");
        ModemLink x = Check.loaded("line 9; rates 8 1; train 1 1 1 1; hold 1;");
        Lines.sizes(x, "at first", 1, 0);
        x.pass(1);
        Lines.sizes(x, "nothing but time passes", 0, 1, 1, 0, 10, 0);
        x.dial();
        Lines.sizes(x, "dialled", 1, 1);
        x.pass(3);
        Lines.sizes(x, "before the last tick of training", 1, 1);
        x.pass(1);
        Lines.sizes(x, "behind it", 1, 2);
        x.setQuality(0);
        Lines.sizes(x, "no tick yet", 1, 2);
        x.pass(1);
        Lines.sizes(x, "lost", 1, 3);
        x.pass(1);
        Lines.sizes(x, "hung up", 1, 0);
    }

    private static void fourSteps() {
        Check.about("Training has four steps, 0 to 3");
        accepts(Lines.HEAD + "train 1 1 1 1;");
        refuses(Lines.HEAD + "train 1 1 1;", 1, 29);
        refuses(Lines.HEAD + "train 1 1 1 1 1;", 1, 32);
        ModemLink x = Check.loaded(Lines.HEAD + "train 1 1 1 1;");
        Check.same("dial", x.dial(), 4);
        for (int step = 0; step <= 3; step++) {
            Lines.sizes(x, "step " + step, 1, 1, 4, step, 5, 1);
            x.pass(1);
        }
        Lines.sizes(x, "behind step 3", 1, 2, 4, -1, 5, -1);
    }

    private static void stepLengths() {
        Check.about("each with a length (1 to 20 ticks)");
        for (int step = 0; step < 4; step++) {
            for (int length : new int[] {0, 1, 20, 21}) {
                StringBuilder text = new StringBuilder(Lines.HEAD + "train");
                for (int other = 0; other < 4; other++) {
                    text.append(' ').append(other == step ? length : 7);
                }
                text.append(';');
                if (length == 0 || length == 21) {
                    refuses(text.toString(), 2, Lines.HEAD.length() + 6 + 2 * step);
                } else {
                    Check.same("dial of " + text, Check.loaded(text.toString()).dial(), 21 + length);
                }
            }
        }
    }

    private static void shortAndLongSteps() {
        Check.about("each with a length (1 to 20 ticks)");
        ModemLink x = Check.loaded(Lines.HEAD + "train 1 20 1 20;");
        Check.same("dial", x.dial(), 42);
        Lines.sizes(x, "step 0", 4, 0, 5, 1);
        x.pass(1);
        Lines.sizes(x, "step 1", 4, 1, 5, 20);
        x.pass(19);
        Lines.sizes(x, "its last tick", 4, 1, 5, 1);
        x.pass(1);
        Lines.sizes(x, "step 2", 4, 2, 5, 1);
        x.pass(1);
        Lines.sizes(x, "step 3", 4, 3, 5, 20);
        x.pass(19);
        Lines.sizes(x, "its last tick", 1, 1, 4, 3, 5, 1);
        x.pass(1);
        Lines.sizes(x, "online", 0, 42, 1, 2);
    }
}
