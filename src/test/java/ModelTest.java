import java.util.StringJoiner;

/** Long runs of calls on a ModemLink and on the Model, which must always answer the same. */
final class ModelTest {
    private static long seed;
    private static ModemLink x;
    private static Model m;
    private static String run;

    private ModelTest() {
    }

    /** A number from 0 to below most, by a fixed rule, so that every run of the test is the same. */
    private static int pick(int most) {
        seed = seed * 6364136223846793005L + 1442695040888963407L;
        return (int) ((seed >>> 33) % most);
    }

    private static int pick(int least, int most) {
        return least + pick(most - least + 1);
    }

    public static void main(String[] args) {
        int runs = args.length > 0 ? Integer.parseInt(args[0]) : 300;
        int first = args.length > 1 ? Integer.parseInt(args[1]) : 1;
        for (int r = first; r < first + runs; r++) {
            seed = r * 7919L;
            run = "run " + r;
            x = new ModemLink();
            m = new Model();
            for (int step = 0; step < 120; step++) {
                run = "run " + r + " step " + step;
                if (step == 0 ? pick(10) > 0 : pick(60) == 0) {
                    text(setup(), true);
                } else {
                    call();
                }
                if (step % 10 == 9) {
                    compareAll();
                }
            }
        }
        Check.finish();
    }

    private static void same(String call, Check.Call one, Check.Call other) {
        Check.same(run + ": " + call, Check.outcome(one), Check.outcome(other));
    }

    private static void feed(byte[] bytes) {
        for (int at = 0; at < bytes.length; at += 20) {
            int[] v = new int[5];
            for (int k = 0; k < 20; k++) {
                v[k / 4] = v[k / 4] << 8 | (at + k < bytes.length ? bytes[at + k] & 255 : ' ');
            }
            same("feed", () -> x.feed(v[0], v[1], v[2], v[3], v[4]), () -> m.feed(v[0], v[1], v[2], v[3], v[4]));
        }
    }

    private static void emptyBuffer() {
        same("query(0)", () -> x.query(0), () -> m.query(0));
    }

    private static void text(String text, boolean load) {
        emptyBuffer();
        String changed = pick(6) == 0 ? spoil(text) : text;
        byte[] bytes = Check.bytes(changed);
        feed(bytes);
        int length = pick(20) == 0 ? pick(bytes.length + 1) : bytes.length;
        if (load) {
            same("load " + changed, () -> x.load(length), () -> m.load(length));
        } else {
            same("query " + changed, () -> x.query(length), () -> m.query(length));
        }
        same("errorPosition of " + changed, () -> x.errorPosition(), () -> m.errorPosition);
    }

    /** A token or a byte of the text is left out, doubled or replaced. */
    private static String spoil(String text) {
        String[] others = {"", ";", ",", "0", "10", "81", "7", "100000", "not", "(", ")", "many", "end", "rates", "noise", "<", "~", "and", "\n", "A", "\u00e9", "99999999999999999999"};
        String other = others[pick(others.length)];
        if (pick(2) == 0) {
            String[] tokens = text.split(" ");
            int at = pick(tokens.length);
            tokens[at] = pick(3) == 0 ? tokens[at] + " " + tokens[at] : other;
            return String.join(" ", tokens);
        }
        int at = pick(text.length() + 1);
        return text.substring(0, at) + other + text.substring(at);
    }

    private static String setup() {
        StringBuilder text = new StringBuilder("line " + (pick(4) == 0 ? pick(0, 9) : pick(5, 9)) + " ; rates ");
        int speed = 4;
        int need = 0;
        int rates = pick(1, 5);
        for (int r = 0; r < rates; r++) {
            speed += pick(r == 0 ? 0 : 1, pick(2) == 0 ? 4 : 19);
            need += pick(3) == 0 && need < 4 ? 2 : 1;
            text.append(r == 0 ? "" : " , ").append(speed).append(' ').append(need);
        }
        text.append(" ;");
        int clauses = pick(9);
        for (int c = 0; c < clauses; c++) {
            text.append(' ').append(clause()).append(" ;");
        }
        if (pick(40) == 0) {
            text.append(" noise 1 2 3 4 5 6 7 8 9 0 ").append(pick(2) == 0 ? "5" : "10").append(" ;");
        }
        return text.toString();
    }

    private static String clause() {
        switch (pick(8)) {
            case 0: return "train " + pick(1, 4) + " " + pick(1, 4) + " " + pick(1, 4) + " " + pick(1, pick(1, 20));
            case 1: return "retries " + pick(0, 9);
            case 2: return "hold " + pick(0, pick(2) == 0 ? 3 : 50);
            case 3: return "window " + pick(1, 7);
            case 4: {
                int delay = pick(1, pick(1, 9));
                return "delay " + delay + " " + pick(2 * delay + (pick(30) == 0 ? 0 : 1), pick(3) == 0 ? 60 : 2 * delay + 4);
            }
            case 5: return "limit " + pick(1, 5);
            case 6: return "patience " + pick(1, pick(1, 50));
            default: {
                StringJoiner noises = new StringJoiner(" ", "noise ", "");
                int count = pick(1, 10);
                for (int k = 0; k < count; k++) {
                    noises.add(String.valueOf(pick(3) == 0 ? pick(10) : pick(4)));
                }
                return noises.toString();
            }
        }
    }

    private static String test(int depth) {
        switch (pick(depth <= 0 ? 2 : 8)) {
            case 2: case 3: return test(depth - 1) + " and " + test(depth - 1);
            case 4: return test(depth - 1) + " or " + test(depth - 1);
            case 5: return "not " + test(depth - 1);
            case 6: case 7: return "( " + test(depth - 1) + " )";
            default: return value() + " " + "<=>".charAt(pick(3)) + " " + value();
        }
    }

    private static String value() {
        String[] words = {"event", "tick", "kind", "end", "rate", "kind", "end", "rate"};
        return pick(3) > 0 ? words[pick(words.length)] : String.valueOf(pick(3) == 0 ? pick(300) : pick(8));
    }

    private static void sendSome() {
        emptyBuffer();
        byte[] bytes = new byte[pick(pick(3) == 0 ? 221 : 30)];
        int kinds = pick(1, 14);
        for (int k = 0; k < bytes.length; k++) {
            bytes[k] = (byte) (pick(kinds) * 37 + 200);
        }
        feed(bytes);
        int end = pick(2);
        same("send " + end + " " + bytes.length, () -> x.send(end, bytes.length), () -> m.send(end, bytes.length));
    }

    private static void call() {
        int end = pick(40) == 0 ? pick(-1, 2) : pick(2);
        int some = pick(30) == 0 ? pick(-1, 430) : pick(1, 12);
        boolean writing = pick(2) == 0;
        if (x.size(1) == 0 && pick(2) == 0) {
            same("dial", () -> x.dial(), () -> m.dial());
            return;
        }
        if (pick(25) == 0) {
            breakCarrier();
            return;
        }
        switch (pick(24)) {
            case 0: case 1: case 2: case 3: case 4: case 5:
                same("pass " + some, () -> x.pass(some), () -> m.pass(some));
                break;
            case 6: case 7: case 8:
                same("dial", () -> x.dial(), () -> m.dial());
                break;
            case 9: case 10: case 11: case 12:
                sendSome();
                break;
            case 13:
                if (pick(6) == 0) {
                    same("hangUp", () -> x.hangUp(), () -> m.hangUp());
                } else {
                    same("pass", () -> x.pass(30), () -> m.pass(30));
                }
                break;
            case 14:
                same("escape " + end, () -> x.escape(end), () -> m.escape(end, true));
                break;
            case 15:
                same("resume " + end, () -> x.resume(end), () -> m.escape(end, false));
                break;
            case 16: case 17: {
                int quality = pick(40) == 0 ? pick(-1, 10) : pick(4) == 0 ? pick(10) : pick(5, 9);
                same("setQuality " + quality, () -> x.setQuality(quality), () -> m.setQuality(quality));
                break;
            }
            case 18:
                same("undo", () -> x.undo(), () -> m.undo());
                break;
            case 19:
                if (pick(3) == 0) {
                    same("restoreSnapshot", () -> x.restoreSnapshot() ? 1 : 0, () -> m.restoreSnapshot());
                } else {
                    x.saveSnapshot();
                    m.saveSnapshot();
                }
                break;
            case 20:
                text((pick(2) == 0 ? "many " : "first ") + test(5), false);
                break;
            case 21:
                same("ticksToFinish", () -> x.ticksToFinish(), () -> m.ticksToFinish());
                same("leastQuality", () -> x.leastQuality(), () -> m.leastQuality());
                break;
            case 22:
                same("receivedBehind " + end + " " + some, () -> x.receivedBehind(end, some), () -> m.receivedBehind(end, some));
                same("nextCost " + end, () -> x.nextCost(end), () -> m.nextCost(end));
                break;
            default:
                same("word", () -> x.word(end, writing, some), () -> m.word(end, writing, some));
                same("rate " + end, () -> x.rate(some, end), () -> m.rate(some, end));
                same("rateFor " + some, () -> x.rateFor(some), () -> m.rateFor(some));
                same("format", () -> x.format(), () -> m.format());
                break;
        }
    }

    private static void breakCarrier() {
        int ticks = pick(1, pick(1, 8));
        int quality = pick(1, 9);
        same("setQuality 0", () -> x.setQuality(0), () -> m.setQuality(0));
        same("pass " + ticks, () -> x.pass(ticks), () -> m.pass(ticks));
        same("setQuality " + quality, () -> x.setQuality(quality), () -> m.setQuality(quality));
    }

    private static void compareAll() {
        for (int k = -1; k <= 12; k++) {
            int what = k;
            same("size " + k, () -> x.size(what), () -> m.size(what));
            same("total " + k, () -> x.total(what), () -> m.total(what));
        }
        for (int e = 0; e < 2; e++) {
            compareEnd(e);
        }
        for (int k = -1; k <= 60; k++) {
            for (int w = -1; w <= 4; w++) {
                int event = k;
                int what = w;
                same("event " + k + " " + w, () -> x.event(event, what), () -> m.event(event, what));
            }
        }
        for (int k = -1; k <= 30; k++) {
            int index = k;
            same("formattedByte " + k, () -> x.formattedByte(index), () -> m.formattedByte(index));
        }
        Check.same(run + ": costPerByte", x.costPerByte(), m.costPerByte());
        Check.same(run + ": damage", x.damage(), m.damage());
        Check.same(run + ": undoCount", x.undoCount(), m.past.size());
    }

    private static void compareEnd(int end) {
        for (int k = -1; k <= 10; k++) {
            int what = k;
            same("end " + end + " " + k, () -> x.end(end, what), () -> m.end(end, what));
        }
        for (int p = -1; p <= 7; p++) {
            int place = p;
            for (int w = -1; w <= 4; w++) {
                int what = w;
                same("frame " + end + " " + p + " " + w, () -> x.frame(end, place, what), () -> m.frame(end, place, what));
            }
        }
        for (int p = -1; p <= 8; p++) {
            int place = p;
            same("word " + end + " " + p, () -> x.word(end, true, place), () -> m.word(end, true, place));
            same("word " + end + " " + p, () -> x.word(end, false, place), () -> m.word(end, false, place));
        }
        for (int p = -1; p <= 401; p += 3) {
            int place = p;
            same("received " + end + " " + p, () -> x.received(end, place), () -> m.received(end, place));
        }
    }
}
