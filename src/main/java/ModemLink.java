import java.util.NoSuchElementException;

/** Two modems on one line: training, rates, frames in a window, small dictionaries, escapes and hang-ups. */
public final class ModemLink {
    public static final int NONE = -1;
    public static final int HIDDEN = -1000000000;

    private static final int BUFFER_MOST = 600;
    private static final int QUERY_MOST = 200;
    private static final int UNDO_MOST = 10;
    private static final int PASS_MOST = 200;
    private static final int TIME_MOST = 99999;
    private static final int AHEAD_MOST = 400;
    private static final int QUALITY_MOST = 9;
    private static final int QUEUE_MOST = 200;
    private static final int RECEIVED_MOST = 400;
    private static final int RATES_MOST = 5;
    private static final int NOISES_MOST = 10;
    private static final int STEPS = 4;
    private static final int WORDS_MOST = 8;
    private static final int WINDOW_MOST = 7;
    private static final int FRAME_BYTES = 8;
    private static final int EVENTS_MOST = 60;
    private static final int OPEN_MOST = 6;
    private static final int CREDIT_OVER_SPEED = 28;
    // A frame stays under way for less than half a timeout, so an end has at most 14 copies and 7
    // acknowledgements under way. A power of two, so that a ring of it needs no division.
    private static final int WIRE_MOST = 64;

    private static final int IDLE = 0;
    private static final int TRAINING = 1;
    private static final int ONLINE = 2;
    private static final int LOST = 3;

    private static final int CAME_ONLINE = 1;
    private static final int FELL = 2;
    private static final int ROSE = 3;
    private static final int LOST_CARRIER = 4;
    private static final int HUNG_UP = 5;
    private static final int FAILED = 6;
    private static final int MARK_RECEIVED = 7;

    private static final int SENT_FRAMES = 0;
    private static final int DAMAGED_FRAMES = 1;
    private static final int THROWN_AWAY = 2;
    private static final int FAILURES = 3;
    private static final int FALLS = 4;
    private static final int RISES = 5;
    private static final int LOSSES = 6;
    private static final int HANG_UPS = 7;
    private static final int TIMES_ONLINE = 8;
    private static final int COSTS = 9;
    private static final int RECEIVED_BYTES = 10;
    private static final int TOTALS = 11;

    private static final int WRONG_TOKEN = 1;
    private static final int OUT_OF_RANGE = 2;
    private static final int TOO_MANY = 3;
    private static final int NOT_GREATER = 4;

    private static final int WRONG_PHASE = -2;
    private static final int REFUSED = -3;

    private final Setup setup;
    private final Setup draft;
    private final Line line;
    private final Line trial;
    private final Line snapshot;
    private boolean hasSnapshot;
    private final Line[] past;
    private int pastCount;
    private int pastNext;
    private final int[] buffer;
    private int bufferCount;
    private int faultPosition;
    private final Tokens tokens;
    private final SetupReader setupReader;
    private final QueryReader queryReader;
    private final StringBuilder text;

    public ModemLink() {
        setup = new Setup();
        setup.setDefaults();
        draft = new Setup();
        line = new Line(setup);
        trial = new Line(setup);
        snapshot = new Line(setup);
        past = new Line[UNDO_MOST];
        for (int place = 0; place < past.length; place++) {
            past[place] = new Line(setup);
        }
        buffer = new int[BUFFER_MOST];
        faultPosition = NONE;
        tokens = new Tokens(buffer);
        setupReader = new SetupReader(tokens);
        queryReader = new QueryReader(tokens, line.log);
        text = new StringBuilder();
        line.begin();
    }

    public int feed(int a, int b, int c, int d, int e) {
        if (bufferCount + 20 > BUFFER_MOST) {
            return NONE;
        }
        append(a);
        append(b);
        append(c);
        append(d);
        append(e);
        return bufferCount;
    }

    private void append(int four) {
        for (int shift = 24; shift >= 0 && bufferCount < BUFFER_MOST; shift -= 8) {
            buffer[bufferCount] = four >> shift & 255;
            bufferCount++;
        }
    }

    public int load(int length) throws IllegalArgumentException {
        checkLength(length, BUFFER_MOST);
        tokens.open(length);
        setupReader.readText(draft);
        closeText();
        if (tokens.error != 0) {
            return -10 - tokens.error;
        }
        setup.copyFrom(draft);
        line.begin();
        hasSnapshot = false;
        pastCount = 0;
        return setup.rateCount;
    }

    private void checkLength(int length, int most) {
        if (length < 0 || length > most || length > bufferCount) {
            throw new IllegalArgumentException("no such length");
        }
    }

    private void closeText() {
        bufferCount = 0;
        faultPosition = tokens.error == 0 ? NONE : tokens.start;
    }

    public int errorPosition() {
        return faultPosition;
    }

    public int size(int what) throws NoSuchElementException {
        boolean training = line.phase == TRAINING;
        boolean online = line.phase == ONLINE;
        switch (what) {
            case 0: return line.time;
            case 1: return line.phase;
            case 2: return line.quality;
            case 3: return online ? line.rate : NONE;
            case 4: return training ? line.step : NONE;
            case 5: return training ? line.stepLeft : NONE;
            case 6: return training ? line.restarts : NONE;
            case 7: return line.phase == LOST ? line.loss : NONE;
            case 8: return online ? line.failures : 0;
            case 9: return online ? line.acknowledged : 0;
            case 10: return line.log.count;
            case 11: return bufferCount;
            default: throw new NoSuchElementException("no such number of the line");
        }
    }

    public int total(int what) throws NoSuchElementException {
        if (what < 0 || what >= TOTALS) {
            throw new NoSuchElementException("no such total");
        }
        return line.totals[what];
    }

    public int end(int end, int what) throws NoSuchElementException {
        checkEnd(end);
        End asked = line.endOf(end);
        switch (what) {
            case 0: return asked.queueCount;
            case 1: return asked.frames.sent;
            case 2: return asked.frames.count - asked.frames.sent;
            case 3: return asked.frames.first + asked.frames.count;
            case 4: return asked.expects;
            case 5: return asked.receivedCount;
            case 6: return asked.credit;
            case 7: return asked.escaped ? 1 : 0;
            case 8: return asked.writing.count;
            case 9: return asked.reading.count;
            default: throw new NoSuchElementException("no such number of an end");
        }
    }

    private void checkEnd(int end) {
        if (end != 0 && end != 1) {
            throw new NoSuchElementException("no such end");
        }
    }

    public int rate(int rate, int what) throws NoSuchElementException {
        if (rate < 0 || rate >= setup.rateCount || what < 0 || what > 1) {
            throw new NoSuchElementException("no such rate or property");
        }
        return what == 0 ? setup.speeds[rate] : setup.needs[rate];
    }

    public int frame(int end, int place, int what) throws NoSuchElementException {
        checkEnd(end);
        Frames frames = line.endOf(end).frames;
        if (place < 0 || place >= frames.count) {
            throw new NoSuchElementException("no such frame");
        }
        switch (what) {
            case 0: return frames.first + place;
            case 1: return frames.sizes[frames.slotOf(place)];
            case 2: return frames.sentTicks[frames.slotOf(place)];
            case 3: return place < frames.sent ? 0 : 1;
            default: throw new NoSuchElementException("no such property of a frame");
        }
    }

    public int received(int end, int place) throws NoSuchElementException {
        checkEnd(end);
        End asked = line.endOf(end);
        return place >= 0 && place < asked.keptCount() ? asked.received[place] : NONE;
    }

    public int word(int end, boolean writing, int place) throws NoSuchElementException {
        checkEnd(end);
        End asked = line.endOf(end);
        Dictionary dictionary = writing ? asked.writing : asked.reading;
        return place >= 0 && place < dictionary.count ? dictionary.bytes[place] : NONE;
    }

    public int event(int event, int what) throws NoSuchElementException {
        if (event < 0 || event >= line.log.count || what < 0 || what >= Log.PROPERTIES) {
            throw new NoSuchElementException("no such event or property");
        }
        return line.log.propertyOf(event, what);
    }

    public int rateFor(int quality) throws IllegalArgumentException {
        checkQuality(quality);
        return setup.greatestRate(quality);
    }

    private void checkQuality(int quality) {
        if (quality < 0 || quality > QUALITY_MOST) {
            throw new IllegalArgumentException("no such quality");
        }
    }

    public int nextCost(int end) throws NoSuchElementException {
        checkEnd(end);
        End asked = line.endOf(end);
        if (line.phase != ONLINE || asked.queueCount == 0) {
            return 0;
        }
        return line.costOf(asked, asked.queue, 0, asked.nextFrameSize());
    }

    public int ticksToFinish() {
        trial.copyFrom(line);
        return trial.runToFinish();
    }

    public int receivedBehind(int end, int ticks) throws NoSuchElementException, IllegalArgumentException {
        checkEnd(end);
        if (ticks < 0 || ticks > AHEAD_MOST) {
            throw new IllegalArgumentException("no such number of ticks");
        }
        trial.copyFrom(line);
        trial.run(ticks);
        return trial.endOf(end).receivedCount;
    }

    public int leastQuality() {
        for (int quality = 0; quality <= QUALITY_MOST; quality++) {
            trial.copyFrom(line);
            trial.quality = quality;
            if (trial.runToFinish() != NONE) {
                return quality;
            }
        }
        return NONE;
    }

    public double costPerByte() {
        int bytes = line.totals[RECEIVED_BYTES];
        return bytes == 0 ? 0.0 : (double) line.totals[COSTS] / (double) (2 * bytes);
    }

    public float damage() {
        int frames = line.totals[SENT_FRAMES];
        return frames == 0 ? 0.0f : (float) line.totals[DAMAGED_FRAMES] / (float) frames;
    }

    public int pass(int ticks) throws IllegalArgumentException {
        if (ticks < 1 || ticks > PASS_MOST) {
            throw new IllegalArgumentException("no such number of ticks");
        }
        if (line.time + ticks > TIME_MOST) {
            return WRONG_PHASE;
        }
        remember();
        int before = line.totals[RECEIVED_BYTES];
        line.run(ticks);
        return line.totals[RECEIVED_BYTES] - before;
    }

    /** Every operation calls this once it is sure to succeed, before it changes anything. */
    private void remember() {
        past[pastNext].copyFrom(line);
        pastNext = pastNext + 1 < UNDO_MOST ? pastNext + 1 : 0;
        pastCount = Math.min(pastCount + 1, UNDO_MOST);
    }

    public int dial() {
        if (line.phase != IDLE) {
            return WRONG_PHASE;
        }
        remember();
        line.call();
        return setup.trainingTicks();
    }

    public int hangUp() {
        if (line.phase == IDLE) {
            return WRONG_PHASE;
        }
        remember();
        int lost = line.unreceivedBytes();
        line.cut();
        return lost;
    }

    public int escape(int end) throws NoSuchElementException {
        return setEscaped(end, true);
    }

    public int resume(int end) throws NoSuchElementException {
        return setEscaped(end, false);
    }

    private int setEscaped(int end, boolean escaped) {
        checkEnd(end);
        End asked = line.endOf(end);
        if (line.phase != ONLINE) {
            return WRONG_PHASE;
        }
        if (asked.escaped == escaped) {
            return REFUSED;
        }
        remember();
        asked.escaped = escaped;
        return asked.queueCount;
    }

    public int send(int end, int length) throws NoSuchElementException, IllegalArgumentException {
        checkEnd(end);
        checkLength(length, BUFFER_MOST);
        bufferCount = 0;
        End sender = line.endOf(end);
        if (line.phase == IDLE) {
            return WRONG_PHASE;
        }
        if (sender.queueCount + length > QUEUE_MOST) {
            return REFUSED;
        }
        remember();
        sender.enqueue(buffer, length);
        return sender.queueCount;
    }

    public int setQuality(int quality) throws IllegalArgumentException {
        checkQuality(quality);
        remember();
        int before = line.quality;
        line.quality = quality;
        return before;
    }

    public int format() {
        text.setLength(0);
        switch (line.phase) {
            case TRAINING: text.append("training ").append(line.step); break;
            case ONLINE: text.append("online ").append(line.rate); break;
            case LOST: text.append("lost"); break;
            default: text.append("idle"); break;
        }
        appendEnd(line.endOf(0));
        appendEnd(line.endOf(1));
        return text.length();
    }

    private void appendEnd(End end) {
        text.append(' ').append(end.queueCount);
        text.append('/').append(end.frames.count);
        text.append('/').append(end.receivedCount);
    }

    public int formattedByte(int index) {
        return index >= 0 && index < text.length() ? text.charAt(index) : NONE;
    }

    public int undoCount() {
        return pastCount;
    }

    public int undo() {
        if (pastCount == 0) {
            return NONE;
        }
        pastNext = pastNext > 0 ? pastNext - 1 : UNDO_MOST - 1;
        pastCount--;
        line.copyFrom(past[pastNext]);
        return pastCount;
    }

    public void saveSnapshot() {
        snapshot.copyFrom(line);
        hasSnapshot = true;
    }

    public boolean restoreSnapshot() {
        if (!hasSnapshot) {
            return false;
        }
        line.copyFrom(snapshot);
        pastCount = 0;
        return true;
    }

    public int query(int length) throws IllegalArgumentException {
        checkLength(length, QUERY_MOST);
        tokens.open(length);
        int answer = queryReader.readQuery();
        closeText();
        return tokens.error == 0 ? answer : HIDDEN - tokens.error;
    }

    /** What the text of load tells: it stays as it is until the next load. */
    private static final class Setup {
        final int[] speeds = new int[RATES_MOST];
        final int[] needs = new int[RATES_MOST];
        final int[] steps = new int[STEPS];
        final int[] noises = new int[NOISES_MOST];
        int rateCount;
        int noiseCount;
        int quality;
        int retries;
        int hold;
        int window;
        int delay;
        int timeout;
        int limit;
        int patience;

        /** As by the text "line 9; rates 8 1;". */
        void setDefaults() {
            quality = 9;
            rateCount = 1;
            speeds[0] = 8;
            needs[0] = 1;
            for (int step = 0; step < steps.length; step++) {
                steps[step] = 2;
            }
            retries = 2;
            hold = 5;
            window = 4;
            delay = 1;
            timeout = 3;
            limit = 2;
            patience = 8;
            noiseCount = 1;
            noises[0] = 0;
        }

        void copyFrom(Setup other) {
            System.arraycopy(other.speeds, 0, speeds, 0, RATES_MOST);
            System.arraycopy(other.needs, 0, needs, 0, RATES_MOST);
            System.arraycopy(other.steps, 0, steps, 0, STEPS);
            System.arraycopy(other.noises, 0, noises, 0, NOISES_MOST);
            rateCount = other.rateCount;
            noiseCount = other.noiseCount;
            quality = other.quality;
            retries = other.retries;
            hold = other.hold;
            window = other.window;
            delay = other.delay;
            timeout = other.timeout;
            limit = other.limit;
            patience = other.patience;
        }

        int greatestRate(int atQuality) {
            int greatest = NONE;
            for (int rate = 0; rate < rateCount && rate < needs.length; rate++) {
                if (needs[rate] <= atQuality) {
                    greatest = rate;
                }
            }
            return greatest;
        }

        int speedOf(int rate) {
            return rate >= 0 && rate < speeds.length ? speeds[rate] : 0;
        }

        boolean canRiseFrom(int rate, int atQuality) {
            int next = rate + 1;
            return next >= 0 && next < rateCount && next < needs.length && needs[next] <= atQuality;
        }

        int stepTicks(int step) {
            return step >= 0 && step < steps.length ? steps[step] : 0;
        }

        int trainingTicks() {
            return steps[0] + steps[1] + steps[2] + steps[3];
        }

        int noiseOf(int frame) {
            if (frame < 0 || noiseCount <= 0) {
                return 0;
            }
            int place = frame % noiseCount;
            return place < noises.length ? noises[place] : 0;
        }
    }

    /** The latest different bytes, the newest one in front. */
    private static final class Dictionary {
        static final int KNOWN_COST = 1;
        static final int NEW_COST = 3;

        final int[] bytes = new int[WORDS_MOST];
        int count;

        void copyFrom(Dictionary other) {
            System.arraycopy(other.bytes, 0, bytes, 0, WORDS_MOST);
            count = other.count;
        }

        /** Puts a byte in front and returns what it costs to write it. */
        int putInFront(int value) {
            int place = 0;
            while (place < count && place < WORDS_MOST && bytes[place] != value) {
                place++;
            }
            boolean known = place < count;
            if (!known && count < WORDS_MOST) {
                count++;
            }
            for (int at = Math.min(place, WORDS_MOST - 1); at > 0; at--) {
                bytes[at] = bytes[at - 1];
            }
            bytes[0] = value;
            return known ? KNOWN_COST : NEW_COST;
        }
    }

    /**
     * The frames of an end without acknowledgement. Their numbers follow one another from the first
     * one, as acknowledgements arrive in the order of the frames; and for the same reason those that
     * are sent stand before those that are to be sent again.
     */
    private static final class Frames {
        final int[] bytes = new int[WINDOW_MOST * FRAME_BYTES];
        final int[] sizes = new int[WINDOW_MOST];
        final int[] sentTicks = new int[WINDOW_MOST];
        int first;
        int count;
        int sent;

        void copyFrom(Frames other) {
            System.arraycopy(other.bytes, 0, bytes, 0, bytes.length);
            System.arraycopy(other.sizes, 0, sizes, 0, WINDOW_MOST);
            System.arraycopy(other.sentTicks, 0, sentTicks, 0, WINDOW_MOST);
            first = other.first;
            count = other.count;
            sent = other.sent;
        }

        void beginNumbers() {
            first = 0;
            count = 0;
            sent = 0;
        }

        /** Which of the rows holds the frame at a place: always 0 to 6. */
        int slotOf(int place) {
            return Math.floorMod(first + place, WINDOW_MOST);
        }

        /** slot: that of the place behind the last frame. */
        void make(int slot, int[] source, int size) {
            sizes[slot] = size;
            System.arraycopy(source, 0, bytes, slot * FRAME_BYTES, size);
            count++;
        }

        void forgetFirst() {
            first++;
            count--;
            if (sent > 0) {
                sent--;
            }
        }

        void forgetBelow(int number) {
            for (int k = 0; k < WINDOW_MOST && count > 0 && first < number; k++) {
                forgetFirst();
            }
        }

        void loseAll() {
            first += count;
            count = 0;
            sent = 0;
        }

        int bytesFrom(int number) {
            int sum = 0;
            for (int place = 0; place < count; place++) {
                if (first + place >= number) {
                    sum += sizes[slotOf(place)];
                }
            }
            return sum;
        }
    }

    /** One of the two ends of the line. */
    private static final class End {
        final int[] queue = new int[QUEUE_MOST];
        final int[] received = new int[RECEIVED_MOST];
        final Frames frames = new Frames();
        final Dictionary writing = new Dictionary();
        final Dictionary reading = new Dictionary();
        int queueCount;
        int receivedCount;
        int expects;
        int credit;
        boolean escaped;
        boolean marksNext;

        void begin() {
            frames.beginNumbers();
            writing.count = 0;
            reading.count = 0;
            queueCount = 0;
            receivedCount = 0;
            expects = 0;
            credit = 0;
            escaped = false;
            marksNext = false;
        }

        void copyFrom(End other) {
            System.arraycopy(other.queue, 0, queue, 0, other.queueCount);
            System.arraycopy(other.received, 0, received, 0, other.keptCount());
            frames.copyFrom(other.frames);
            writing.copyFrom(other.writing);
            reading.copyFrom(other.reading);
            queueCount = other.queueCount;
            receivedCount = other.receivedCount;
            expects = other.expects;
            credit = other.credit;
            escaped = other.escaped;
            marksNext = other.marksNext;
        }

        int keptCount() {
            return Math.min(receivedCount, RECEIVED_MOST);
        }

        int nextFrameSize() {
            return Math.min(queueCount, FRAME_BYTES);
        }

        void enqueue(int[] source, int length) {
            System.arraycopy(source, 0, queue, queueCount, length);
            queueCount += length;
        }

        void makeFrame(int slot) {
            int size = nextFrameSize();
            frames.make(slot, queue, size);
            queueCount -= size;
            for (int place = 0; place < queueCount; place++) {
                queue[place] = queue[place + size];
            }
        }

        void read(int value) {
            reading.putInFront(value);
            if (receivedCount < RECEIVED_MOST) {
                received[receivedCount] = value;
            }
            receivedCount++;
        }

        void comeOnline(int expectedByOther) {
            frames.forgetBelow(expectedByOther);
            frames.sent = 0;
            credit = 0;
            escaped = false;
            marksNext = true;
        }

        void loseAll() {
            queueCount = 0;
            frames.loseAll();
        }
    }

    /** What is under way, in the order in which it was sent. */
    private static final class Wire {
        static final int ACKNOWLEDGEMENT = 1;
        static final int DAMAGED = 2;
        static final int MARKED = 4;

        final int[] ticks = new int[WIRE_MOST];
        final int[] senders = new int[WIRE_MOST];
        final int[] numbers = new int[WIRE_MOST];
        final int[] traits = new int[WIRE_MOST];
        int first;
        int count;

        void copyFrom(Wire other) {
            first = other.first;
            count = other.count;
            if (count == 0) {
                return;
            }
            System.arraycopy(other.ticks, 0, ticks, 0, WIRE_MOST);
            System.arraycopy(other.senders, 0, senders, 0, WIRE_MOST);
            System.arraycopy(other.numbers, 0, numbers, 0, WIRE_MOST);
            System.arraycopy(other.traits, 0, traits, 0, WIRE_MOST);
        }

        void put(int tick, int sender, int number, int trait) {
            if (count >= WIRE_MOST) {
                return;
            }
            int slot = first + count & WIRE_MOST - 1;
            ticks[slot] = tick;
            senders[slot] = sender;
            numbers[slot] = number;
            traits[slot] = trait;
            count++;
        }

        boolean hasFrom(int tick) {
            return count > 0 && ticks[first & WIRE_MOST - 1] <= tick;
        }

        /** Takes the first one off and returns the slot in which it stood, which stays as it is until the next put. */
        int take() {
            int slot = first & WIRE_MOST - 1;
            first = slot + 1;
            count--;
            return slot;
        }
    }

    /** The latest events. */
    private static final class Log {
        static final int PROPERTIES = 4;
        static final int TICK = 0;
        static final int KIND = 1;
        static final int END = 2;
        static final int RATE = 3;

        final int[] rows = new int[EVENTS_MOST * PROPERTIES];
        int oldest;
        int count;

        void copyFrom(Log other) {
            // Only a full log has its oldest event elsewhere than in front.
            System.arraycopy(other.rows, 0, rows, 0, other.count * PROPERTIES);
            oldest = other.oldest;
            count = other.count;
        }

        void add(int tick, int kind, int end, int rate) {
            if (count < EVENTS_MOST) {
                count++;
            } else {
                oldest = oldest + 1 < EVENTS_MOST ? oldest + 1 : 0;
            }
            int place = oldest + count - 1;
            int row = (place < EVENTS_MOST ? place : place - EVENTS_MOST) * PROPERTIES;
            rows[row + TICK] = tick;
            rows[row + KIND] = kind;
            rows[row + END] = end;
            rows[row + RATE] = rate;
        }

        int propertyOf(int event, int what) {
            int row = Math.floorMod(oldest + event, EVENTS_MOST) * PROPERTIES;
            return what >= 0 && what < PROPERTIES ? rows[row + what] : NONE;
        }
    }

    /** All that an operation can change. */
    private static final class Line {
        final Setup setup;
        final End zero = new End();
        final End one = new End();
        final Wire wire = new Wire();
        final Log log = new Log();
        final int[] totals = new int[TOTALS];
        final Dictionary tried = new Dictionary();
        int time;
        int phase;
        int quality;
        int rate;
        int step;
        int stepLeft;
        int restarts;
        int loss;
        int failures;
        int acknowledged;

        Line(Setup setup) {
            this.setup = setup;
        }

        void begin() {
            zero.begin();
            one.begin();
            wire.count = 0;
            log.oldest = 0;
            log.count = 0;
            for (int what = 0; what < totals.length; what++) {
                totals[what] = 0;
            }
            time = 0;
            phase = IDLE;
            quality = setup.quality;
            rate = 0;
            failures = 0;
            acknowledged = 0;
        }

        void copyFrom(Line other) {
            zero.copyFrom(other.zero);
            one.copyFrom(other.one);
            wire.copyFrom(other.wire);
            log.copyFrom(other.log);
            System.arraycopy(other.totals, 0, totals, 0, TOTALS);
            time = other.time;
            phase = other.phase;
            quality = other.quality;
            rate = other.rate;
            step = other.step;
            stepLeft = other.stepLeft;
            restarts = other.restarts;
            loss = other.loss;
            failures = other.failures;
            acknowledged = other.acknowledged;
        }

        End endOf(int end) {
            return end == 0 ? zero : one;
        }

        void run(int ticks) {
            for (int done = 0; done < ticks; done++) {
                tick();
            }
        }

        /** Lets ticks pass until all is sent and acknowledged, and returns how many they were. */
        int runToFinish() {
            for (int done = 0; done < AHEAD_MOST; done++) {
                if (phase == IDLE) {
                    return NONE;
                }
                if (isFinished()) {
                    return done;
                }
                tick();
            }
            return isFinished() ? AHEAD_MOST : NONE;
        }

        boolean isFinished() {
            return phase == ONLINE && zero.queueCount == 0 && one.queueCount == 0
                && zero.frames.count == 0 && one.frames.count == 0;
        }

        void tick() {
            if (phase == TRAINING) {
                train();
            } else if (phase == LOST) {
                waitForCarrier();
            } else if (phase == ONLINE && quality == 0) {
                loseCarrier();
            } else if (phase == ONLINE) {
                arrive();
                checkTimer(0);
                // If end 0 has just hung up, end 1 has no frames left that could be late.
                checkTimer(1);
                if (phase == ONLINE) {
                    rise();
                    sendFrom(0);
                    sendFrom(1);
                }
            }
            time++;
        }

        void call() {
            zero.frames.beginNumbers();
            one.frames.beginNumbers();
            zero.expects = 0;
            one.expects = 0;
            beginTraining(0);
        }

        void beginTraining(int firstStep) {
            phase = TRAINING;
            restarts = 0;
            beginStep(firstStep);
        }

        void beginStep(int begun) {
            step = begun;
            stepLeft = setup.stepTicks(begun);
        }

        void train() {
            if (quality == 0) {
                beginStep(step);
                restarts++;
                if (restarts > setup.retries) {
                    cut();
                }
                return;
            }
            stepLeft--;
            if (stepLeft > 0) {
                return;
            }
            if (step + 1 < STEPS) {
                beginStep(step + 1);
            } else {
                comeOnline();
            }
        }

        void comeOnline() {
            int greatest = setup.greatestRate(quality);
            if (greatest == NONE) {
                cut();
                return;
            }
            phase = ONLINE;
            rate = greatest;
            failures = 0;
            acknowledged = 0;
            zero.comeOnline(one.expects);
            one.comeOnline(zero.expects);
            totals[TIMES_ONLINE]++;
            note(CAME_ONLINE, NONE);
        }

        void waitForCarrier() {
            if (quality != 0) {
                beginTraining(2);
                return;
            }
            loss++;
            cutAfterHold();
        }

        void cutAfterHold() {
            if (loss > setup.hold) {
                cut();
            }
        }

        void loseCarrier() {
            phase = LOST;
            loss = 1;
            wire.count = 0;
            totals[LOSSES]++;
            note(LOST_CARRIER, NONE);
            cutAfterHold();
        }

        void cut() {
            phase = IDLE;
            zero.loseAll();
            one.loseAll();
            wire.count = 0;
            totals[HANG_UPS]++;
            note(HUNG_UP, NONE);
        }

        int unreceivedBytes() {
            return zero.queueCount + zero.frames.bytesFrom(one.expects)
                + one.queueCount + one.frames.bytesFrom(zero.expects);
        }

        void note(int kind, int end) {
            log.add(time, kind, end, phase == ONLINE ? rate : NONE);
        }

        void arrive() {
            for (int k = 0; k < WIRE_MOST && wire.hasFrom(time - setup.delay); k++) {
                int slot = wire.take();
                if ((wire.traits[slot] & Wire.ACKNOWLEDGEMENT) != 0) {
                    acceptAcknowledgement(1 - wire.senders[slot], wire.numbers[slot]);
                } else {
                    acceptFrame(wire.senders[slot], wire.numbers[slot], wire.traits[slot]);
                }
            }
        }

        void acceptAcknowledgement(int end, int number) {
            Frames frames = endOf(end).frames;
            if (frames.count > 0 && frames.first == number) {
                frames.forgetFirst();
                failures = 0;
                acknowledged++;
            }
        }

        void acceptFrame(int sender, int number, int traits) {
            Frames frames = endOf(sender).frames;
            End receiver = endOf(1 - sender);
            int place = number - frames.first;
            boolean isThere = place >= 0 && place < frames.count;
            if ((traits & Wire.DAMAGED) != 0 || number != receiver.expects || !isThere) {
                totals[THROWN_AWAY]++;
                return;
            }
            boolean marked = (traits & Wire.MARKED) != 0;
            if (marked) {
                receiver.reading.count = 0;
            }
            int slot = frames.slotOf(place);
            for (int k = 0; k < frames.sizes[slot] && k < FRAME_BYTES; k++) {
                receiver.read(frames.bytes[slot * FRAME_BYTES + k]);
            }
            totals[RECEIVED_BYTES] += frames.sizes[slot];
            receiver.expects++;
            wire.put(time, 1 - sender, number, Wire.ACKNOWLEDGEMENT);
            if (marked) {
                note(MARK_RECEIVED, 1 - sender);
            }
        }

        void checkTimer(int end) {
            End sender = endOf(end);
            Frames frames = sender.frames;
            if (frames.sent == 0 || time - frames.sentTicks[frames.slotOf(0)] < setup.timeout) {
                return;
            }
            frames.sent = 0;
            sender.marksNext = true;
            failures++;
            acknowledged = 0;
            totals[FAILURES]++;
            note(FAILED, end);
            if (failures >= setup.limit) {
                fall();
            }
        }

        void fall() {
            if (rate <= 0) {
                cut();
                return;
            }
            rate--;
            failures = 0;
            acknowledged = 0;
            totals[FALLS]++;
            note(FELL, NONE);
        }

        void rise() {
            if (acknowledged < setup.patience || !setup.canRiseFrom(rate, quality)) {
                return;
            }
            rate++;
            acknowledged = 0;
            totals[RISES]++;
            note(ROSE, NONE);
        }

        void sendFrom(int end) {
            End sender = endOf(end);
            int speed = setup.speedOf(rate);
            sender.credit = Math.min(sender.credit + speed, speed + CREDIT_OVER_SPEED);
            boolean goesOn = !sender.escaped;
            for (int k = 0; k < WINDOW_MOST && goesOn; k++) {
                goesOn = sendNext(end);
            }
        }

        boolean sendNext(int end) {
            End sender = endOf(end);
            Frames frames = sender.frames;
            boolean isNew = frames.sent == frames.count;
            if (isNew && (frames.count >= setup.window || sender.queueCount == 0)) {
                return false;
            }
            int slot = frames.slotOf(frames.sent);
            int cost = isNew
                ? costOf(sender, sender.queue, 0, sender.nextFrameSize())
                : costOf(sender, frames.bytes, slot * FRAME_BYTES, frames.sizes[slot]);
            if (cost > sender.credit) {
                return false;
            }
            if (isNew) {
                sender.makeFrame(slot);
            }
            sender.credit -= cost;
            totals[COSTS] += cost;
            sender.writing.copyFrom(tried);
            launch(end);
            return true;
        }

        /** What a frame of these bytes would cost now; the dictionary behind it is left in tried. */
        int costOf(End sender, int[] source, int from, int size) {
            tried.copyFrom(sender.writing);
            int cost = 4;
            if (sender.marksNext) {
                tried.count = 0;
                cost++;
            }
            for (int k = from; k < from + size && k < source.length; k++) {
                cost += tried.putInFront(source[k]);
            }
            return cost;
        }

        /** Sends the frame at the place behind those that are sent. */
        void launch(int end) {
            End sender = endOf(end);
            Frames frames = sender.frames;
            int traits = sender.marksNext ? Wire.MARKED : 0;
            if (setup.noiseOf(totals[SENT_FRAMES]) + rate > quality) {
                traits |= Wire.DAMAGED;
                totals[DAMAGED_FRAMES]++;
            }
            totals[SENT_FRAMES]++;
            wire.put(time, end, frames.first + frames.sent, traits);
            frames.sentTicks[frames.slotOf(frames.sent)] = time;
            frames.sent++;
            sender.marksNext = false;
        }
    }

    /** The tokens of a text in the buffer, one at a time, and the first error in them. */
    private static final class Tokens {
        static final int FINISH = 0;
        static final int WORD = 1;
        static final int NUMBER = 2;
        static final int SIGN = 3;
        static final int BROKEN = 4;
        // Above every range, so that a longer number can be cut off there.
        static final int NUMBER_MOST = 1000000;

        final int[] bytes;
        int length;
        int kind;
        int start;
        int behind;
        int value;
        int error;

        Tokens(int[] bytes) {
            this.bytes = bytes;
        }

        void open(int textLength) {
            length = Math.min(textLength, bytes.length);
            kind = FINISH;
            behind = 0;
            error = 0;
            next();
        }

        /** Goes to the next token; behind an error there is none. */
        void next() {
            if (kind == BROKEN) {
                return;
            }
            start = behind;
            while (start < length && (bytes[start] == ' ' || bytes[start] == '\n')) {
                start++;
            }
            kind = start < length ? kindOf(bytes[start]) : FINISH;
            int most = kind == SIGN ? start + 1 : length;
            value = 0;
            for (behind = start; behind < most && kindOf(bytes[behind]) == kind; behind++) {
                if (kind == NUMBER) {
                    value = Math.min(value * 10 + bytes[behind] - '0', NUMBER_MOST);
                }
            }
        }

        static int kindOf(int sign) {
            if (sign >= '0' && sign <= '9') {
                return NUMBER;
            }
            return sign >= 'a' && sign <= 'z' ? WORD : SIGN;
        }

        boolean isWord(String word) {
            if (kind != WORD || behind - start != word.length()) {
                return false;
            }
            for (int k = 0; k < word.length(); k++) {
                if (bytes[start + k] != word.charAt(k)) {
                    return false;
                }
            }
            return true;
        }

        boolean isSign(char sign) {
            return kind == SIGN && bytes[start] == sign;
        }

        /** Keeps the first error; no token behind it is looked at. Always false. */
        boolean fail(int code) {
            if (kind != BROKEN) {
                error = code;
                kind = BROKEN;
            }
            return false;
        }

        boolean takeWord(String word) {
            if (!isWord(word)) {
                return fail(WRONG_TOKEN);
            }
            next();
            return true;
        }

        boolean takeSign(char sign) {
            if (!isSign(sign)) {
                return fail(WRONG_TOKEN);
            }
            next();
            return true;
        }

        /** Whether the token is a number in a range; it is not taken yet, as it may have another error. */
        boolean hasNumber(int least, int most) {
            if (kind != NUMBER) {
                return fail(WRONG_TOKEN);
            }
            return value >= least && value <= most || fail(OUT_OF_RANGE);
        }

        /** Takes a number in a range; NONE with an error. */
        int takeNumber(int least, int most) {
            if (!hasNumber(least, most)) {
                return NONE;
            }
            int taken = value;
            next();
            return taken;
        }

        /** Takes a number that ends a clause; NONE with an error. */
        int takeLastNumber(int least, int most) {
            int taken = takeNumber(least, most);
            takeSign(';');
            return taken;
        }
    }

    /** Reads the text of load. */
    private static final class SetupReader {
        final Tokens tokens;

        SetupReader(Tokens tokens) {
            this.tokens = tokens;
        }

        /** The setup is of use only if the tokens have no error behind it. */
        void readText(Setup into) {
            into.setDefaults();
            if (!tokens.takeWord("line")) {
                return;
            }
            into.quality = tokens.takeLastNumber(0, QUALITY_MOST);
            if (!tokens.takeWord("rates") || !readRates(into)) {
                return;
            }
            for (int k = 0; k < BUFFER_MOST && tokens.kind == Tokens.WORD; k++) {
                readClause(into);
            }
            if (tokens.kind != Tokens.FINISH) {
                tokens.fail(WRONG_TOKEN);
            }
        }

        boolean readRates(Setup into) {
            for (int rate = 0; rate < RATES_MOST; rate++) {
                if (!readRate(into, rate)) {
                    return false;
                }
                into.rateCount = rate + 1;
                if (!tokens.isSign(',')) {
                    return tokens.takeSign(';');
                }
                if (rate + 1 < RATES_MOST) {
                    tokens.next();
                }
            }
            return tokens.fail(TOO_MANY);
        }

        boolean readRate(Setup into, int rate) {
            return readGreater(into.speeds, rate, 4, 80) && readGreater(into.needs, rate, 1, 9);
        }

        boolean readGreater(int[] row, int place, int least, int most) {
            if (!tokens.hasNumber(least, most) || place < 0 || place >= row.length) {
                return false;
            }
            if (place > 0 && tokens.value <= row[place - 1]) {
                return tokens.fail(NOT_GREATER);
            }
            row[place] = tokens.value;
            tokens.next();
            return true;
        }

        void readClause(Setup into) {
            if (tokens.isWord("train")) {
                readSteps(into);
            } else if (tokens.isWord("delay")) {
                readDelay(into);
            } else if (tokens.isWord("noise")) {
                readNoises(into);
            } else {
                readNumberClause(into);
            }
        }

        void readNumberClause(Setup into) {
            if (tokens.isWord("retries")) {
                tokens.next();
                into.retries = tokens.takeLastNumber(0, 9);
            } else if (tokens.isWord("hold")) {
                tokens.next();
                into.hold = tokens.takeLastNumber(0, 50);
            } else if (tokens.isWord("window")) {
                tokens.next();
                into.window = tokens.takeLastNumber(1, WINDOW_MOST);
            } else if (tokens.isWord("limit")) {
                tokens.next();
                into.limit = tokens.takeLastNumber(1, 5);
            } else if (tokens.isWord("patience")) {
                tokens.next();
                into.patience = tokens.takeLastNumber(1, 50);
            } else {
                tokens.fail(WRONG_TOKEN);
            }
        }

        void readSteps(Setup into) {
            tokens.next();
            for (int step = 0; step < STEPS; step++) {
                into.steps[step] = tokens.takeNumber(1, 20);
            }
            tokens.takeSign(';');
        }

        void readDelay(Setup into) {
            tokens.next();
            into.delay = tokens.takeNumber(1, 9);
            if (!tokens.hasNumber(0, 60)) {
                return;
            }
            if (tokens.value <= 2 * into.delay) {
                tokens.fail(NOT_GREATER);
                return;
            }
            into.timeout = tokens.takeLastNumber(0, 60);
        }

        void readNoises(Setup into) {
            tokens.next();
            into.noises[0] = tokens.takeNumber(0, 9);
            into.noiseCount = 1;
            for (int k = 1; k < NOISES_MOST && tokens.kind == Tokens.NUMBER; k++) {
                into.noises[k] = tokens.takeNumber(0, 9);
                into.noiseCount = k + 1;
            }
            if (tokens.kind == Tokens.NUMBER && tokens.hasNumber(0, 9)) {
                tokens.fail(TOO_MANY);
            }
            tokens.takeSign(';');
        }
    }

    /** Reads a query and evaluates it at once: bit e of a mask tells whether a part holds for event e. */
    private static final class QueryReader {
        // A value is a number, or one of these for a property of the event.
        static final int EVENT_VALUE = -1;
        static final int TICK_VALUE = -2;
        static final int KIND_VALUE = -3;
        static final int END_VALUE = -4;
        static final int RATE_VALUE = -5;

        final Tokens tokens;
        final Log log;

        QueryReader(Tokens tokens, Log log) {
            this.tokens = tokens;
            this.log = log;
        }

        /** The answer is of use only if the tokens have no error behind it. */
        int readQuery() {
            boolean many = tokens.isWord("many");
            if (!many && !tokens.isWord("first")) {
                tokens.fail(WRONG_TOKEN);
                return NONE;
            }
            tokens.next();
            long mask = readTest(0);
            if (tokens.kind != Tokens.FINISH) {
                tokens.fail(WRONG_TOKEN);
                return NONE;
            }
            if (many) {
                return Long.bitCount(mask);
            }
            return mask == 0 ? NONE : Long.numberOfTrailingZeros(mask);
        }

        private long readTest(int open) {
            long mask = readConjunction(open);
            for (int k = 0; k < QUERY_MOST && tokens.isWord("or"); k++) {
                tokens.next();
                mask |= readConjunction(open);
            }
            return mask;
        }

        private long readConjunction(int open) {
            long mask = readFactor(open);
            for (int k = 0; k < QUERY_MOST && tokens.isWord("and"); k++) {
                tokens.next();
                mask &= readFactor(open);
            }
            return mask;
        }

        /** open: how many 'not' and '(' are open around the factor. */
        private long readFactor(int open) {
            boolean negated = tokens.isWord("not");
            if (!negated && !tokens.isSign('(')) {
                return readComparison();
            }
            if (open >= OPEN_MOST) {
                tokens.fail(TOO_MANY);
                return 0;
            }
            tokens.next();
            if (negated) {
                return ~readFactor(open + 1) & (1L << log.count) - 1;
            }
            long mask = readTest(open + 1);
            tokens.takeSign(')');
            return mask;
        }

        long readComparison() {
            int left = readValue();
            boolean less = tokens.isSign('<');
            boolean greater = tokens.isSign('>');
            if (!less && !greater && !tokens.isSign('=')) {
                tokens.fail(WRONG_TOKEN);
                return 0;
            }
            tokens.next();
            int right = readValue();
            long mask = 0;
            for (int event = 0; event < log.count; event++) {
                int order = Integer.compare(valueOf(left, event), valueOf(right, event));
                if (less ? order < 0 : greater ? order > 0 : order == 0) {
                    mask |= 1L << event;
                }
            }
            return mask;
        }

        int readValue() {
            if (tokens.kind == Tokens.NUMBER) {
                return tokens.takeNumber(0, 99999);
            }
            int property = tokens.isWord("event") ? EVENT_VALUE
                : tokens.isWord("tick") ? TICK_VALUE
                : tokens.isWord("kind") ? KIND_VALUE
                : tokens.isWord("end") ? END_VALUE
                : tokens.isWord("rate") ? RATE_VALUE : 0;
            if (property == 0) {
                tokens.fail(WRONG_TOKEN);
            }
            tokens.next();
            return property;
        }

        int valueOf(int value, int event) {
            switch (value) {
                case EVENT_VALUE: return event;
                case TICK_VALUE: return log.propertyOf(event, Log.TICK);
                case KIND_VALUE: return log.propertyOf(event, Log.KIND);
                case END_VALUE: return log.propertyOf(event, Log.END) + 1;
                case RATE_VALUE: return log.propertyOf(event, Log.RATE) + 1;
                default: return value;
            }
        }
    }
}
