import java.util.ArrayDeque;
import java.util.ArrayList;
import java.util.Deque;
import java.util.HashMap;
import java.util.List;
import java.util.Map;
import java.util.NoSuchElementException;

/** A second ModemLink, written from the document with lists and deep copies, to compare the first one with. */
final class Model {
    static final int NONE = -1;

    static final class Fault extends RuntimeException {
        private static final long serialVersionUID = 1L;
        final int code;
        final int position;

        Fault(int code, int position) {
            this.code = code;
            this.position = position;
        }
    }

    record Token(String text, int position) {
        boolean isNumber() {
            return !text.isEmpty() && Character.isDigit(text.charAt(0));
        }

        boolean isAbove(int most) {
            String digits = text.replaceFirst("^0+(?=.)", "");
            return digits.length() > 6 || Integer.parseInt(digits) > most;
        }

        int number() {
            return Integer.parseInt(text.replaceFirst("^0+(?=.)", ""));
        }
    }

    record Event(int tick, int kind, int end, int rate) {
    }

    static final class Frame {
        int number;
        List<Integer> bytes;
        int sentTick;

        Frame copy() {
            Frame f = new Frame();
            f.number = number;
            f.bytes = bytes;
            f.sentTick = sentTick;
            return f;
        }
    }

    record Item(int due, boolean ack, int to, int number, boolean damaged, boolean marked, List<Integer> bytes) {
    }

    static final class Side {
        List<Integer> queue = new ArrayList<>();
        List<Integer> got = new ArrayList<>();
        List<Frame> open = new ArrayList<>();
        List<Frame> again = new ArrayList<>();
        List<Integer> writing = new ArrayList<>();
        List<Integer> reading = new ArrayList<>();
        int next;
        int expects;
        int credit;
        boolean escaped;
        boolean first;

        Side copy() {
            Side s = new Side();
            s.queue.addAll(queue);
            s.got.addAll(got);
            open.forEach(f -> s.open.add(f.copy()));
            again.forEach(f -> s.again.add(f.copy()));
            s.writing.addAll(writing);
            s.reading.addAll(reading);
            s.next = next;
            s.expects = expects;
            s.credit = credit;
            s.escaped = escaped;
            s.first = first;
            return s;
        }

        List<Frame> all() {
            List<Frame> all = new ArrayList<>(open);
            all.addAll(again);
            all.sort((a, b) -> a.number - b.number);
            return all;
        }
    }

    static final class Config {
        int quality;
        List<int[]> rates = new ArrayList<>();
        int[] train = {2, 2, 2, 2};
        List<Integer> noise = List.of(0);
        Map<String, Integer> single = new HashMap<>(Map.of("retries", 2, "hold", 5, "window", 4, "limit", 2, "patience", 8));
        int delay = 1;
        int timeout = 3;

        int best(int quality) {
            int best = NONE;
            for (int r = 0; r < rates.size(); r++) {
                if (rates.get(r)[1] <= quality) {
                    best = r;
                }
            }
            return best;
        }
    }

    static final class State {
        Config config;
        Side[] sides = {new Side(), new Side()};
        List<Item> air = new ArrayList<>();
        List<Event> events = new ArrayList<>();
        int[] total = new int[11];
        int time;
        String phase = "idle";
        int quality;
        int rate;
        int step;
        int left;
        int restarts;
        int loss;
        int failures;
        int acks;

        State copy() {
            State s = new State();
            s.config = config;
            s.sides[0] = sides[0].copy();
            s.sides[1] = sides[1].copy();
            s.air.addAll(air);
            s.events.addAll(events);
            s.total = total.clone();
            s.time = time;
            s.phase = phase;
            s.quality = quality;
            s.rate = rate;
            s.step = step;
            s.left = left;
            s.restarts = restarts;
            s.loss = loss;
            s.failures = failures;
            s.acks = acks;
            return s;
        }

        void event(int kind, int end) {
            events.add(new Event(time, kind, end, phase.equals("online") ? rate : NONE));
            if (events.size() > 60) {
                events.remove(0);
            }
        }

        void hangUp() {
            phase = "idle";
            for (Side s : sides) {
                s.queue.clear();
                s.open.clear();
                s.again.clear();
            }
            air.clear();
            total[7]++;
            event(5, NONE);
        }

        void tick() {
            String before = phase;
            if (before.equals("training")) {
                training();
            } else if (before.equals("lost")) {
                if (quality == 0) {
                    loss++;
                    if (loss > config.single.get("hold")) {
                        hangUp();
                    }
                } else {
                    phase = "training";
                    step = 2;
                    left = config.train[2];
                    restarts = 0;
                }
            } else if (before.equals("online")) {
                if (quality == 0) {
                    phase = "lost";
                    loss = 1;
                    air.clear();
                    total[6]++;
                    event(4, NONE);
                    if (loss > config.single.get("hold")) {
                        hangUp();
                    }
                } else {
                    arrivals();
                    timers();
                    if (phase.equals("online")) {
                        rises();
                        sending();
                    }
                }
            }
            time++;
        }

        void training() {
            if (quality == 0) {
                left = config.train[step];
                restarts++;
                if (restarts > config.single.get("retries")) {
                    hangUp();
                }
                return;
            }
            left--;
            if (left == 0) {
                step++;
                if (step < 4) {
                    left = config.train[step];
                    return;
                }
                int best = config.best(quality);
                if (best == NONE) {
                    hangUp();
                } else {
                    online(best);
                }
            }
        }

        void online(int best) {
            rate = best;
            phase = "online";
            failures = 0;
            acks = 0;
            air.clear();
            total[8]++;
            for (int e = 0; e < 2; e++) {
                Side s = sides[e];
                int expected = sides[1 - e].expects;
                List<Frame> all = s.all();
                all.removeIf(f -> f.number < expected);
                s.open.clear();
                s.again = all;
                s.credit = 0;
                s.escaped = false;
                s.first = true;
            }
            event(1, NONE);
        }

        void arrivals() {
            List<Item> due = new ArrayList<>();
            for (Item i : air) {
                if (i.due == time) {
                    due.add(i);
                }
            }
            air.removeAll(due);
            for (Item i : due) {
                Side to = sides[i.to];
                if (i.ack) {
                    to.open.removeIf(f -> f.number == i.number);
                    to.again.removeIf(f -> f.number == i.number);
                    failures = 0;
                    acks++;
                } else if (i.damaged || i.number != to.expects) {
                    total[2]++;
                } else {
                    if (i.marked) {
                        to.reading.clear();
                    }
                    for (int b : i.bytes) {
                        price(to.reading, b);
                        to.got.add(b);
                        total[10]++;
                    }
                    to.expects++;
                    air.add(new Item(time + config.delay, true, 1 - i.to, i.number, false, false, null));
                    if (i.marked) {
                        event(7, i.to);
                    }
                }
            }
        }

        void timers() {
            for (int e = 0; e < 2 && phase.equals("online"); e++) {
                Side s = sides[e];
                if (s.open.isEmpty() || s.open.get(0).sentTick > time - config.timeout) {
                    continue;
                }
                s.again = s.all();
                s.open.clear();
                s.first = true;
                failures++;
                acks = 0;
                total[3]++;
                event(6, e);
                if (failures == config.single.get("limit")) {
                    if (rate == 0) {
                        hangUp();
                    } else {
                        rate--;
                        failures = 0;
                        total[4]++;
                        event(2, NONE);
                    }
                }
            }
        }

        void rises() {
            if (acks >= config.single.get("patience") && rate + 1 < config.rates.size()
                && config.rates.get(rate + 1)[1] <= quality) {
                rate++;
                acks = 0;
                total[5]++;
                event(3, NONE);
            }
        }

        void sending() {
            for (int e = 0; e < 2; e++) {
                Side s = sides[e];
                int speed = config.rates.get(rate)[0];
                s.credit += speed;
                if (s.credit > speed + 28) {
                    s.credit = speed + 28;
                }
                while (!s.escaped) {
                    Frame f;
                    boolean fresh = s.again.isEmpty();
                    if (!fresh) {
                        f = s.again.get(0);
                    } else if (s.open.size() < config.single.get("window") && !s.queue.isEmpty()) {
                        f = new Frame();
                        f.number = s.next;
                        f.bytes = new ArrayList<>(s.queue.subList(0, Math.min(8, s.queue.size())));
                    } else {
                        break;
                    }
                    List<Integer> dictionary = new ArrayList<>(s.writing);
                    int cost = cost(s, dictionary, f.bytes);
                    if (cost > s.credit) {
                        break;
                    }
                    s.credit -= cost;
                    s.writing = dictionary;
                    if (fresh) {
                        s.next++;
                        s.queue.subList(0, f.bytes.size()).clear();
                    } else {
                        s.again.remove(0);
                    }
                    f.sentTick = time;
                    s.open.add(f);
                    boolean damaged = config.noise.get(total[0] % config.noise.size()) + rate > quality;
                    air.add(new Item(time + config.delay, false, 1 - e, f.number, damaged, s.first, f.bytes));
                    s.first = false;
                    total[0]++;
                    total[1] += damaged ? 1 : 0;
                    total[9] += cost;
                }
            }
        }

        int cost(Side s, List<Integer> dictionary, List<Integer> bytes) {
            int cost = 4;
            if (s.first) {
                cost = 5;
                dictionary.clear();
            }
            for (int b : bytes) {
                cost += price(dictionary, b);
            }
            return cost;
        }

        static int price(List<Integer> dictionary, int b) {
            boolean known = dictionary.remove((Integer) b);
            dictionary.add(0, b);
            if (dictionary.size() > 8) {
                dictionary.remove(8);
            }
            return known ? 1 : 3;
        }

        boolean done() {
            return phase.equals("online") && sides[0].queue.isEmpty() && sides[1].queue.isEmpty()
                && sides[0].all().isEmpty() && sides[1].all().isEmpty();
        }
    }

    State now = new State();
    State saved = null;
    Deque<State> past = new ArrayDeque<>();
    List<Integer> buffer = new ArrayList<>();
    int errorPosition = NONE;
    String text = "";

    Model() {
        Config c = new Config();
        c.quality = 9;
        c.rates.add(new int[] {8, 1});
        start(c);
    }

    void start(Config c) {
        now = new State();
        now.config = c;
        now.quality = c.quality;
    }

    int feed(int a, int b, int c, int d, int e) {
        if (buffer.size() > 580) {
            return NONE;
        }
        for (int v : new int[] {a, b, c, d, e}) {
            for (int shift = 24; shift >= 0; shift -= 8) {
                buffer.add(v >>> shift & 255);
            }
        }
        return buffer.size();
    }

    // --- texts

    List<Token> tokens = new ArrayList<>();
    int at;

    void scan(int length) {
        tokens.clear();
        at = 0;
        StringBuilder all = new StringBuilder();
        for (int i = 0; i < length; i++) {
            all.append((char) (int) buffer.get(i));
        }
        java.util.regex.Matcher m = java.util.regex.Pattern.compile("[a-z]+|[0-9]+|[^ \\n]", java.util.regex.Pattern.DOTALL).matcher(all);
        while (m.find()) {
            tokens.add(new Token(m.group(), m.start()));
        }
        tokens.add(new Token("", length));
        buffer.clear();
    }

    Token peek() {
        return tokens.get(at);
    }

    boolean sees(String text) {
        return peek().text.equals(text);
    }

    void fail(int code) {
        throw new Fault(code, peek().position);
    }

    void need(String text) {
        if (!sees(text)) {
            fail(1);
        }
        at++;
    }

    int number(int least, int most) {
        Token t = peek();
        if (!t.isNumber()) {
            fail(1);
        }
        if (t.isAbove(most) || t.number() < least) {
            fail(2);
        }
        at++;
        return t.number();
    }

    int load(int length) {
        if (length < 0 || length > buffer.size()) {
            throw new IllegalArgumentException();
        }
        scan(length);
        try {
            Config c = readConfig();
            start(c);
            errorPosition = NONE;
            past.clear();
            saved = null;
            return c.rates.size();
        } catch (Fault f) {
            errorPosition = f.position;
            return -10 - f.code;
        }
    }

    Config readConfig() {
        Config c = new Config();
        need("line");
        c.quality = number(0, 9);
        need(";");
        need("rates");
        do {
            int[] last = c.rates.isEmpty() ? new int[] {0, 0} : c.rates.get(c.rates.size() - 1);
            int[] rate = new int[2];
            rate[0] = number(4, 80);
            if (rate[0] <= last[0]) {
                at--;
                fail(4);
            }
            rate[1] = number(1, 9);
            if (rate[1] <= last[1]) {
                at--;
                fail(4);
            }
            c.rates.add(rate);
            if (sees(",") && c.rates.size() == 5) {
                fail(3);
            }
        } while (sees(",") && at++ >= 0);
        need(";");
        while (!sees("")) {
            readClause(c);
        }
        return c;
    }

    static final Map<String, int[]> RANGES = Map.of("retries", new int[] {0, 9}, "hold", new int[] {0, 50},
        "window", new int[] {1, 7}, "limit", new int[] {1, 5}, "patience", new int[] {1, 50});

    void readClause(Config c) {
        String kind = peek().text;
        if (RANGES.containsKey(kind)) {
            at++;
            c.single.put(kind, number(RANGES.get(kind)[0], RANGES.get(kind)[1]));
        } else if (kind.equals("train")) {
            at++;
            for (int i = 0; i < 4; i++) {
                c.train[i] = number(1, 20);
            }
        } else if (kind.equals("delay")) {
            at++;
            c.delay = number(1, 9);
            c.timeout = number(0, 60);
            if (c.timeout <= 2 * c.delay) {
                at--;
                fail(4);
            }
        } else if (kind.equals("noise")) {
            at++;
            List<Integer> noise = new ArrayList<>();
            do {
                noise.add(number(0, 9));
                if (noise.size() == 11) {
                    at--;
                    fail(3);
                }
            } while (peek().isNumber());
            c.noise = noise;
        } else {
            fail(1);
        }
        need(";");
    }

    int query(int length) {
        if (length < 0 || length > 200 || length > buffer.size()) {
            throw new IllegalArgumentException();
        }
        scan(length);
        try {
            boolean many = sees("many");
            if (!many && !sees("first")) {
                fail(1);
            }
            at++;
            int begin = at;
            test(null, 0, 0);
            if (!sees("")) {
                fail(1);
            }
            int count = 0;
            int first = NONE;
            for (int e = 0; e < now.events.size(); e++) {
                at = begin;
                if (test(now.events.get(e), e, 0)) {
                    count++;
                    first = first == NONE ? e : first;
                }
            }
            errorPosition = NONE;
            return many ? count : first;
        } catch (Fault f) {
            errorPosition = f.position;
            return -1000000000 - f.code;
        }
    }

    boolean test(Event e, int index, int open) {
        boolean holds = conjunction(e, index, open);
        while (sees("or")) {
            at++;
            boolean other = conjunction(e, index, open);
            holds = holds || other;
        }
        return holds;
    }

    boolean conjunction(Event e, int index, int open) {
        boolean holds = factor(e, index, open);
        while (sees("and")) {
            at++;
            boolean other = factor(e, index, open);
            holds = holds && other;
        }
        return holds;
    }

    boolean factor(Event e, int index, int open) {
        if (sees("not") || sees("(")) {
            if (open == 6) {
                fail(3);
            }
            if (tokens.get(at++).text.equals("not")) {
                return !factor(e, index, open + 1);
            }
            boolean holds = test(e, index, open + 1);
            need(")");
            return holds;
        }
        int left = value(e, index);
        String sign = peek().text;
        if (!sign.equals("<") && !sign.equals("=") && !sign.equals(">")) {
            fail(1);
        }
        at++;
        int right = value(e, index);
        return sign.equals("<") ? left < right : sign.equals("=") ? left == right : left > right;
    }

    int value(Event e, int index) {
        if (peek().isNumber()) {
            return number(0, 99999);
        }
        Event known = e == null ? new Event(0, 0, 0, 0) : e;
        int value = 0;
        switch (peek().text) {
            case "event": value = index; break;
            case "tick": value = known.tick; break;
            case "kind": value = known.kind; break;
            case "end": value = known.end + 1; break;
            case "rate": value = known.rate + 1; break;
            default: fail(1);
        }
        at++;
        return value;
    }

    // --- looking

    int size(int what) {
        boolean online = now.phase.equals("online");
        boolean training = now.phase.equals("training");
        int[] all = {now.time, List.of("idle", "training", "online", "lost").indexOf(now.phase), now.quality,
            online ? now.rate : NONE, training ? now.step : NONE, training ? now.left : NONE,
            training ? now.restarts : NONE, now.phase.equals("lost") ? now.loss : NONE, online ? now.failures : 0,
            online ? now.acks : 0, now.events.size(), buffer.size()};
        return pick(all, what);
    }

    static int pick(int[] all, int what) {
        if (what < 0 || what >= all.length) {
            throw new NoSuchElementException();
        }
        return all[what];
    }

    int total(int what) {
        return pick(now.total, what);
    }

    Side side(int end) {
        if (end != 0 && end != 1) {
            throw new NoSuchElementException();
        }
        return now.sides[end];
    }

    int end(int end, int what) {
        Side s = side(end);
        return pick(new int[] {s.queue.size(), s.open.size(), s.again.size(), s.next, s.expects, s.got.size(), s.credit,
            s.escaped ? 1 : 0, s.writing.size(), s.reading.size()}, what);
    }

    int rate(int rate, int what) {
        if (rate < 0 || rate >= now.config.rates.size()) {
            throw new NoSuchElementException();
        }
        return pick(now.config.rates.get(rate), what);
    }

    int frame(int end, int place, int what) {
        Side s = side(end);
        List<Frame> all = s.all();
        if (place < 0 || place >= all.size()) {
            throw new NoSuchElementException();
        }
        Frame f = all.get(place);
        return pick(new int[] {f.number, f.bytes.size(), f.sentTick, s.again.contains(f) ? 1 : 0}, what);
    }

    static int at(List<Integer> list, int place, int most) {
        return place >= 0 && place < list.size() && place < most ? list.get(place) : NONE;
    }

    int received(int end, int place) {
        return at(side(end).got, place, 400);
    }

    int word(int end, boolean writing, int place) {
        return at(writing ? side(end).writing : side(end).reading, place, 8);
    }

    int event(int event, int what) {
        if (event < 0 || event >= now.events.size()) {
            throw new NoSuchElementException();
        }
        Event e = now.events.get(event);
        return pick(new int[] {e.tick, e.kind, e.end, e.rate}, what);
    }

    int rateFor(int quality) {
        if (quality < 0 || quality > 9) {
            throw new IllegalArgumentException();
        }
        return now.config.best(quality);
    }

    int nextCost(int end) {
        Side s = side(end);
        if (s.queue.isEmpty() || !now.phase.equals("online")) {
            return 0;
        }
        return now.cost(s, new ArrayList<>(s.writing), s.queue.subList(0, Math.min(8, s.queue.size())));
    }

    static int finish(State s) {
        for (int t = 0; t <= 400; t++) {
            if (s.done()) {
                return t;
            }
            if (s.phase.equals("idle")) {
                return NONE;
            }
            s.tick();
        }
        return NONE;
    }

    int ticksToFinish() {
        return finish(now.copy());
    }

    int receivedBehind(int end, int ticks) {
        side(end);
        if (ticks < 0 || ticks > 400) {
            throw new IllegalArgumentException();
        }
        State s = now.copy();
        for (int t = 0; t < ticks; t++) {
            s.tick();
        }
        return s.sides[end].got.size();
    }

    int leastQuality() {
        for (int q = 0; q <= 9; q++) {
            State s = now.copy();
            s.quality = q;
            if (finish(s) != NONE) {
                return q;
            }
        }
        return NONE;
    }

    double costPerByte() {
        return now.total[10] == 0 ? 0 : (double) now.total[9] / (2.0 * now.total[10]);
    }

    float damage() {
        return now.total[0] == 0 ? 0 : (float) now.total[1] / (float) now.total[0];
    }

    // --- operations

    void record() {
        past.addFirst(now.copy());
        if (past.size() > 10) {
            past.removeLast();
        }
    }

    int pass(int ticks) {
        if (ticks < 1 || ticks > 200) {
            throw new IllegalArgumentException();
        }
        if (now.time + ticks > 99999) {
            return -2;
        }
        record();
        int before = now.total[10];
        for (int t = 0; t < ticks; t++) {
            now.tick();
        }
        return now.total[10] - before;
    }

    int dial() {
        if (!now.phase.equals("idle")) {
            return -2;
        }
        record();
        now.phase = "training";
        now.step = 0;
        now.left = now.config.train[0];
        now.restarts = 0;
        int sum = 0;
        for (int length : now.config.train) {
            sum += length;
        }
        for (Side s : now.sides) {
            s.next = 0;
            s.expects = 0;
        }
        return sum;
    }

    int hangUp() {
        if (now.phase.equals("idle")) {
            return -2;
        }
        record();
        int lost = 0;
        for (int e = 0; e < 2; e++) {
            lost += now.sides[e].queue.size();
            for (Frame f : now.sides[e].all()) {
                lost += f.number >= now.sides[1 - e].expects ? f.bytes.size() : 0;
            }
        }
        now.hangUp();
        return lost;
    }

    int escape(int end, boolean to) {
        side(end);
        if (!now.phase.equals("online")) {
            return -2;
        }
        if (side(end).escaped == to) {
            return -3;
        }
        record();
        side(end).escaped = to;
        return side(end).queue.size();
    }

    int send(int end, int length) {
        side(end);
        if (length < 0 || length > buffer.size()) {
            throw new IllegalArgumentException();
        }
        List<Integer> sent = new ArrayList<>(buffer.subList(0, length));
        buffer.clear();
        if (now.phase.equals("idle")) {
            return -2;
        }
        if (side(end).queue.size() + length > 200) {
            return -3;
        }
        record();
        side(end).queue.addAll(sent);
        return side(end).queue.size();
    }

    int setQuality(int quality) {
        if (quality < 0 || quality > 9) {
            throw new IllegalArgumentException();
        }
        record();
        int before = now.quality;
        now.quality = quality;
        return before;
    }

    int format() {
        text = now.phase;
        if (text.equals("online")) {
            text += " " + now.rate;
        } else if (text.equals("training")) {
            text += " " + now.step;
        }
        for (Side s : now.sides) {
            text += " " + s.queue.size() + "/" + s.all().size() + "/" + s.got.size();
        }
        return text.length();
    }

    int formattedByte(int index) {
        return index >= 0 && index < text.length() ? text.charAt(index) : NONE;
    }

    int undo() {
        if (past.isEmpty()) {
            return NONE;
        }
        now = past.removeFirst();
        return past.size();
    }

    void saveSnapshot() {
        saved = now.copy();
    }

    int restoreSnapshot() {
        if (saved == null) {
            return 0;
        }
        now = saved.copy();
        past.clear();
        return 1;
    }
}
