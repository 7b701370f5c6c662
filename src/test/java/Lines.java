import java.util.ArrayList;
import java.util.List;

/** What the tests of the line share: lines that are online, and all that can be asked of a line as one text. */
final class Lines {
    static final String HEAD = "line 9; rates 8 1;";

    private Lines() {
    }

    /** A line that came online in tick 3: the first tick in which frames are sent is tick 4. */
    static ModemLink online(String text) {
        ModemLink x = Check.loaded(text + " train 1 1 1 1;");
        x.dial();
        x.pass(4);
        Check.same("online by " + text, x.size(1), 2);
        return x;
    }

    static void sizes(ModemLink x, String when, int... whatAndDue) {
        for (int k = 0; k < whatAndDue.length; k += 2) {
            Check.same(when + ": size " + whatAndDue[k], x.size(whatAndDue[k]), whatAndDue[k + 1]);
        }
    }

    static void totals(ModemLink x, String when, int... due) {
        for (int what = 0; what < due.length; what++) {
            Check.same(when + ": total " + what, x.total(what), due[what]);
        }
    }

    static void ends(ModemLink x, String when, int end, int... whatAndDue) {
        for (int k = 0; k < whatAndDue.length; k += 2) {
            Check.same(when + ": end " + end + " " + whatAndDue[k], x.end(end, whatAndDue[k]), whatAndDue[k + 1]);
        }
    }

    /** The frames without acknowledgement, each as number:bytes:tick, with a star if it is to be sent again. */
    static String frames(ModemLink x, int end) {
        List<String> frames = new ArrayList<>();
        for (int place = 0; place < x.end(end, 1) + x.end(end, 2); place++) {
            frames.add(x.frame(end, place, 0) + ":" + x.frame(end, place, 1) + ":" + x.frame(end, place, 2)
                + (x.frame(end, place, 3) == 1 ? "*" : ""));
        }
        return String.join(" ", frames);
    }

    /** All that undoing restores, as far as it can be asked. */
    static String state(ModemLink x) {
        StringBuilder text = new StringBuilder();
        for (int what = 0; what <= 10; what++) {
            text.append(x.size(what)).append(',').append(x.total(what)).append(' ');
        }
        for (int end = 0; end < 2; end++) {
            for (int what = 0; what <= 9; what++) {
                text.append(x.end(end, what)).append(',');
            }
            text.append(frames(x, end)).append(' ');
            text.append(Check.words(x, end, true)).append(' ').append(Check.words(x, end, false)).append(' ');
            text.append(Check.received(x, end)).append(' ').append(x.nextCost(end)).append(',');
            text.append(x.receivedBehind(end, 9)).append(' ');
        }
        text.append(Check.events(x)).append(' ').append(x.ticksToFinish()).append(' ').append(x.leastQuality());
        return text.append(' ').append(x.costPerByte()).append(' ').append(x.damage()).toString();
    }

    /** The state, and what undoing does not restore, but for the text of format. */
    static String everything(ModemLink x) {
        return state(x) + " " + x.undoCount() + " " + x.size(11) + " " + x.errorPosition();
    }

    /** A text of different bytes, so that each costs 3. */
    static String different(int from, int count) {
        StringBuilder text = new StringBuilder();
        for (int k = 0; k < count; k++) {
            text.append((char) ((from + k) % 251));
        }
        return text.toString();
    }
}
