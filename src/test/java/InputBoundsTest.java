import java.util.ArrayList;
import java.util.List;

/** The edges of the section "Input text": tokens, grammars, ranges and error codes, each on both sides. */
final class InputBoundsTest {
    private static final String[] ALL_CLAUSES = {"line", "9", ";", "rates", "8", "1", ",", "9", "2", ",", "10", "3", ";",
        "train", "1", "2", "3", "4", ";", "retries", "0", ";", "hold", "0", ";", "window", "1", ";",
        "delay", "1", "3", ";", "limit", "1", ";", "patience", "1", ";", "noise", "0", "1", "2", ";"};
    private static final String[] WHOLE_QUERY = {"many", "not", "(", "event", "<", "1", "or", "tick", ">", "kind",
        "and", "(", "end", "=", "0", ")", ")", "and", "not", "rate", "=", "99999"};

    private InputBoundsTest() {
    }

    public static void main(String[] args) {
        everyByteBehind();
        everyByteInFront();
        everyByteBehindAWord();
        longestRuns();
        leadingZeros();
        spaces();
        clausesInAnyOrder();
        textEndsTooEarly();
        otherTokens();
        ranges();
        timeouts();
        noises();
        lastClauseCounts();
        defaults();
        defaultsOfFailures();
        lastNoiseCounts();
        queryEndsTooEarly();
        otherTokensInQueries();
        queryValues();
        queryProperties();
        queryComparisons();
        queryPrecedence();
        firstErrorCounts();
        smallestCodeCounts();
        tooMany();
        openAtTheSameTime();
        Check.finish();
    }

    private static void loads(String text) {
        ModemLink x = new ModemLink();
        Check.yes("load of " + text, Check.load(x, text) > 0);
        Check.same("errorPosition of " + text, x.errorPosition(), -1);
    }

    private static void fails(String text, int code, int position) {
        ModemLink x = new ModemLink();
        Check.same("load of " + text, Check.load(x, text), -10 - code);
        Check.same("errorPosition of " + text, x.errorPosition(), position);
    }

    private static void asks(ModemLink x, String text, int due) {
        Check.same(text, Check.query(x, text), due);
        Check.same("errorPosition of " + text, x.errorPosition(), -1);
    }

    private static void queryFails(String text, int code, int position) {
        ModemLink x = new ModemLink();
        Check.same(text, Check.query(x, text), ModemLink.HIDDEN - code);
        Check.same("errorPosition of " + text, x.errorPosition(), position);
    }

    private static void everyByteBehind() {
        Check.about("every other byte except space (32) and line feed (10) is a token by itself");
        for (int b = 0; b < 256; b++) {
            String text = Lines.HEAD + (char) b + (char) b;
            if (b == 32 || b == 10) {
                loads(text);
            } else {
                fails(text, 1, 18);
            }
        }
    }

    private static void everyByteInFront() {
        Check.about("every other byte except space (32) and line feed (10) is a token by itself");
        for (int b = 0; b < 256; b++) {
            String query = (char) b + "many 1 = 1";
            if (b == 32 || b == 10) {
                asks(new ModemLink(), query, 0);
            } else {
                queryFails(query, 1, 0);
            }
        }
        fails("line 9;; rates 8 1;", 1, 7);
        fails("line 9; rates 8 1,, 9 2;", 1, 18);
        queryFails("many 1 <= 1", 1, 8);
        queryFails("many 1 == 1", 1, 8);
    }

    private static void everyByteBehindAWord() {
        Check.about("a word is a maximal run of the letters 'a' to 'z'; a number is a maximal run of decimal digits");
        for (int b = 0; b < 256; b++) {
            String text = "line" + (char) b + "9; rates 8 1;";
            if (b == 32 || b == 10 || b == '0') {
                loads(text);
            } else if (b >= 'a' && b <= 'z') {
                fails(text, 1, 0);
            } else if (b >= '1' && b <= '9') {
                fails(text, 2, 4);
            } else {
                fails(text, 1, 4);
            }
        }
    }

    private static void longestRuns() {
        Check.about("a word is a maximal run; a number is a maximal run");
        loads("line9;rates8 1,9 2;train1 1 1 1;");
        fails("line 9; rates 81;", 2, 14);
        fails("line 9; rates 71;", 1, 16);
        fails("linerates 9;", 1, 0);
        fails("line 9; ratestrain 8 1;", 1, 8);
        fails("lin e 9;", 1, 0);
        fails("line 9; rates 8 1 1;", 1, 18);
        queryFails("manyevent = 1", 1, 0);
        asks(new ModemLink(), "many event=1and tick=1or 1=1", 0);
        queryFails("many not1 = 1 x", 1, 14);
        queryFails("many event = 1or1 = 1 or", 1, 24);
        queryFails("many noteven = 1", 1, 5);
    }

    private static void leadingZeros() {
        Check.about("a number is a maximal run of decimal digits (leading zeros are allowed)");
        loads("line 000000000000000009; rates 0000000000000000000000000000000000000080 0001;");
        fails("line 00000000000000000000000000000010; rates 8 1;", 2, 5);
        fails("line 9; rates 8 000;", 2, 16);
        asks(new ModemLink(), "many 000000000000000000000000000099999 = 1", 0);
        queryFails("many 0000000000100000 = 1", 2, 5);
    }

    private static void spaces() {
        Check.about("Spaces and line feeds may appear before, between and behind tokens");
        StringBuilder text = new StringBuilder("\n ");
        for (String token : ALL_CLAUSES) {
            text.append(token).append("\n  \n");
        }
        loads(text.toString());
        loads(String.join(" ", ALL_CLAUSES));
        loads(String.join("\n", ALL_CLAUSES));
        loads("line9;rates8 1;train1 1 1 1;retries0;hold0;window1;delay1 3;limit1;patience1;noise0 1 2;");
        fails("\n \n line x", 1, 9);
        fails("  \n\n ", 1, 5);
        asks(new ModemLink(), "\n many\n1 \n=\n\n1 \n", 0);
        asks(new ModemLink(), "many 1=1and(1=1)or not 1=1", 0);
    }

    private static void clausesInAnyOrder() {
        Check.about("text: 'line' quality ';' 'rates' speed need (',' speed need)* ';' clause*");
        loads(Lines.HEAD);
        String[] clauses = {"train 1 2 3 4;", "retries 1;", "hold 1;", "window 1;", "delay 1 3;", "limit 1;", "patience 1;", "noise 1;"};
        for (String first : clauses) {
            loads(Lines.HEAD + first);
            for (String second : clauses) {
                loads(Lines.HEAD + first + second);
            }
        }
        loads(Lines.HEAD + "hold 1;".repeat(70));
        fails("rates 8 1; line 9;", 1, 0);
        fails("line 9; hold 1; rates 8 1;", 1, 8);
        fails(Lines.HEAD + "rates 8 1;", 1, 18);
        fails(Lines.HEAD + "hold 1; line 9;", 1, 26);
    }

    private static void textEndsTooEarly() {
        Check.about("1: the token is not allowed here, or the text ends too early (the position is then the length of the text)");
        StringBuilder text = new StringBuilder();
        int ends = 0;
        for (String token : ALL_CLAUSES) {
            String before = text.toString();
            if (ends >= 2 && (before.endsWith("; "))) {
                loads(before);
            } else {
                fails(before, 1, before.length());
            }
            text.append(token).append(' ');
            ends += token.equals(";") ? 1 : 0;
        }
        loads(text.toString());
    }

    private static void otherTokens() {
        Check.about("1: the token is not allowed here");
        for (int at = 0; at < ALL_CLAUSES.length; at++) {
            for (String other : new String[] {"!", "x", "0"}) {
                boolean number = Character.isDigit(ALL_CLAUSES[at].charAt(0));
                boolean moreNoises = at == ALL_CLAUSES.length - 1;
                if (!other.equals("0") || !number && !moreNoises) {
                    List<String> tokens = new ArrayList<>(List.of(ALL_CLAUSES));
                    tokens.set(at, other);
                    int position = String.join(" ", tokens.subList(0, at)).length() + (at > 0 ? 1 : 0);
                    fails(String.join(" ", tokens), 1, position);
                }
            }
        }
    }

    private static void range(String before, String after, int least, int most) {
        if (least > 0) {
            fails(before + (least - 1) + after, 2, before.length());
        }
        loads(before + least + after);
        loads(before + most + after);
        fails(before + (most + 1) + after, 2, before.length());
        fails(before + "1000000" + after, 2, before.length());
        fails(before + "2147483648" + after, 2, before.length());
        fails(before + "4294967297" + after, 2, before.length());
        fails(before + "18446744073709551617" + after, 2, before.length());
    }

    private static void ranges() {
        Check.about("2: where a number can stand, a number that is out of range");
        range("line ", "; rates 8 1;", 0, 9);
        range("line 9; rates ", " 1;", 4, 80);
        range("line 9; rates 8 ", ";", 1, 9);
        range(Lines.HEAD + "train ", " 1 1 1;", 1, 20);
        range(Lines.HEAD + "train 1 ", " 1 1;", 1, 20);
        range(Lines.HEAD + "train 1 1 ", " 1;", 1, 20);
        range(Lines.HEAD + "train 1 1 1 ", ";", 1, 20);
        range(Lines.HEAD + "retries ", ";", 0, 9);
        range(Lines.HEAD + "hold ", ";", 0, 50);
        range(Lines.HEAD + "window ", ";", 1, 7);
        range(Lines.HEAD + "delay ", " 60;", 1, 9);
        range(Lines.HEAD + "limit ", ";", 1, 5);
        range(Lines.HEAD + "patience ", ";", 1, 50);
        range(Lines.HEAD + "noise ", ";", 0, 9);
        range(Lines.HEAD + "noise 1 ", " 2;", 0, 9);
        range(Lines.HEAD + "noise 0 1 2 3 4 5 6 7 8 ", ";", 0, 9);
    }

    private static void timeouts() {
        Check.about("A timeout is at most 60; The timeout is always greater than twice the delay");
        for (int delay = 1; delay <= 9; delay++) {
            String clause = Lines.HEAD + "delay " + delay + " ";
            fails(clause + 2 * delay + ";", 4, 26);
            loads(clause + (2 * delay + 1) + ";");
            loads(clause + "60;");
            fails(clause + "61;", 2, 26);
            fails(clause + "1;", 4, 26);
            fails(clause + "0;", 4, 26);
        }
        fails(Lines.HEAD + "delay 9 60; delay 9 3;", 4, 38);
        loads(Lines.HEAD + "delay 9 60; delay 1 3;");
    }

    private static void noises() {
        Check.about("A noise is 0 to 9; there are 1 to 10 of them");
        StringBuilder row = new StringBuilder(Lines.HEAD + "noise");
        fails(row + ";", 1, 23);
        for (int count = 1; count <= 10; count++) {
            row.append(' ').append(count % 2 == 0 ? 0 : 9);
            loads(row + ";");
        }
        fails(row + " 5;", 3, 44);
        fails(row + " 0", 3, 44);
        fails(row + " x;", 1, 44);
        fails(row + "", 1, 43);
    }

    private static void lastClauseCounts() {
        Check.about("of several clauses of a kind the last one counts");
        ModemLink x = Check.loaded("line 5; rates 30 1, 40 6; train 9 9 9 9; retries 9; hold 50; window 7; delay 9 60; limit 5;"
            + " patience 50; noise 9 9; train 1 1 1 1; retries 0; hold 0; window 1; delay 1 3; limit 1; patience 1; noise 0 0 0 0 0 6;");
        Check.same("train", x.dial(), 4);
        x.setQuality(0);
        x.pass(1);
        Lines.sizes(x, "retries", 1, 0);
        x.setQuality(5);
        x.dial();
        x.pass(4);
        Check.send(x, 0, "a".repeat(17));
        x.pass(1);
        Lines.ends(x, "window", 0, 0, 9, 1, 1);
        Check.same("delay", x.pass(1), 8);
        x.pass(5);
        Check.same("all", x.end(0, 1), 0);
        x.setQuality(6);
        x.pass(1);
        Lines.sizes(x, "patience", 3, 1, 9, 0);
        x.setQuality(5);
        Check.send(x, 1, "ab");
        x.pass(3);
        Lines.totals(x, "frame 3 is not damaged", 4, 0);
        Check.send(x, 1, "a");
        x.pass(3);
        Check.send(x, 1, "a");
        x.pass(1);
        Lines.totals(x, "frame 5 is", 6, 1);
        x.pass(2);
        Lines.sizes(x, "before the timeout", 3, 1);
        x.pass(1);
        Lines.sizes(x, "timeout and limit", 3, 0, 8, 0);
        x.setQuality(0);
        x.pass(1);
        Lines.sizes(x, "hold", 1, 0);
    }

    /** Every clause set something else before. */
    private static ModemLink withDefaults(String text) {
        Check.about("Without the clauses the steps are 2 ticks long, the retries 2, the hold 5, the window 4, the delay 1 and the timeout 3, the limit 2, the patience 8, and there is one noise, 0");
        ModemLink x = Check.loaded("line 9; rates 4 1, 5 2, 6 3; train 9 9 9 9; retries 9; hold 50; window 7;"
            + " delay 9 60; limit 5; patience 50; noise 9 8 7;");
        Check.yes("load of " + text, Check.load(x, text) > 0);
        x.dial();
        return x;
    }

    private static void defaults() {
        ModemLink x = withDefaults("line 9; rates 80 1;");
        for (int step = 0; step < 4; step++) {
            Lines.sizes(x, "two ticks of step " + step, 4, step, 5, 2);
            x.pass(2);
        }
        Lines.sizes(x, "online", 0, 8, 1, 2);
        Check.send(x, 0, "a".repeat(48));
        Check.same("not in the same tick", x.pass(1), 0);
        Lines.ends(x, "a window of 4", 0, 0, 16, 1, 4);
        Check.same("a delay of 1", x.pass(1), 32);
        x.setQuality(0);
        x.pass(5);
        Lines.sizes(x, "a hold of 5", 1, 3, 7, 5);
        x.pass(1);
        Lines.sizes(x, "not of 6", 1, 0);
        x = withDefaults("line 0; rates 80 1;");
        x.pass(2);
        Lines.sizes(x, "two retries", 1, 1, 6, 2);
        x.pass(1);
        Lines.sizes(x, "not three", 1, 0);
    }

    private static void defaultsOfFailures() {
        ModemLink x = withDefaults("line 9; rates 78 1, 79 2, 80 3;");
        x.pass(8);
        x.setQuality(2);
        for (int k = 0; k < 4; k++) {
            Check.send(x, 1, "a");
            x.pass(3);
        }
        Lines.totals(x, "one noise of 0: 0 and rate 2 is not more than 2", 4, 0);
        Lines.sizes(x, "four acknowledgements", 0, 20, 3, 2, 9, 4);
        x.setQuality(1);
        Check.send(x, 0, "a");
        x.pass(3);
        Lines.totals(x, "0 and rate 2 is more than 1", 5, 1);
        Lines.sizes(x, "before the timeout", 8, 0);
        x.pass(1);
        Lines.sizes(x, "a timeout of 3", 3, 2, 8, 1);
        x.pass(2);
        Lines.sizes(x, "before the timeout", 3, 2, 8, 1);
        x.pass(1);
        Lines.sizes(x, "a limit of 2", 3, 1, 8, 0);
        x.pass(2);
        Lines.sizes(x, "acknowledged", 3, 1, 9, 1);
        x.setQuality(9);
        for (int count = 2; count <= 7; count++) {
            Check.send(x, 0, "a");
            x.pass(3);
            Lines.sizes(x, "acknowledged", 3, 1, 9, count);
        }
        Check.send(x, 0, "a");
        x.pass(3);
        Lines.sizes(x, "a patience of 8", 3, 2, 9, 0);
    }

    private static void lastNoiseCounts() {
        Check.about("of several clauses of a kind the last one counts");
        ModemLink x = Lines.online("line 5; rates 80 1; delay 9 60; noise 0 0 0; noise 6;");
        for (int k = 1; k <= 4; k++) {
            Check.send(x, k % 2, "a");
            x.pass(1);
            Lines.totals(x, "one noise, not three", k, k);
        }
    }

    private static void queryEndsTooEarly() {
        Check.about("1: the token is not allowed here, or the text ends too early (the position is then the length of the text)");
        StringBuilder text = new StringBuilder();
        for (int count = 0; count <= WHOLE_QUERY.length; count++) {
            String before = text.toString();
            if (count == 17 || count == 22) {
                asks(new ModemLink(), before, 0);
            } else {
                queryFails(before, 1, before.length());
            }
            if (count < WHOLE_QUERY.length) {
                text.append(WHOLE_QUERY[count]).append(' ');
            }
        }
    }

    private static void otherTokensInQueries() {
        Check.about("query: ('many' | 'first') test");
        for (int at = 0; at < WHOLE_QUERY.length; at++) {
            for (String other : new String[] {"!", "x", "many", ","}) {
                if (at > 0 || !other.equals("many")) {
                    List<String> tokens = new ArrayList<>(List.of(WHOLE_QUERY));
                    tokens.set(at, other);
                    int position = String.join(" ", tokens.subList(0, at)).length() + (at > 0 ? 1 : 0);
                    queryFails(String.join(" ", tokens), 1, position);
                }
            }
        }
        queryFails("many 1 = 1 many", 1, 11);
        queryFails("first many 1 = 1", 1, 6);
        queryFails("many and 1 = 1", 1, 5);
        queryFails("many or 1 = 1", 1, 5);
        queryFails("many 1 = 1 and and 1 = 1", 1, 15);
        queryFails("many 1 = 1 and or 1 = 1", 1, 15);
        queryFails("many 1 = 1 1 = 1", 1, 11);
        queryFails("many ()", 1, 6);
        queryFails("many (1) = 1", 1, 7);
        queryFails("many 1 = (1)", 1, 9);
        queryFails("many 1 = 1)", 1, 10);
        queryFails("many (1 = 1))", 1, 12);
        queryFails("many 1 not = 1", 1, 7);
        queryFails("many 1 = not 1", 1, 9);
        queryFails("many 1 = 1 = 1", 1, 11);
        queryFails("many 1 = 1;", 1, 10);
    }

    private static void queryValues() {
        Check.about("value: a number from 0 to 99999");
        ModemLink x = Lines.online("line 9; rates 8 1;");
        asks(x, "many 0 = 0", 1);
        asks(x, "many 0 < 99999", 1);
        asks(x, "many 99999 > 99998", 1);
        asks(x, "many 99999 = 99999", 1);
        queryFails("many 100000 = 1", 2, 5);
        queryFails("many 1 = 100000", 2, 9);
        queryFails("many 4294967296 = 0", 2, 5);
        queryFails("many 0 = 4294967296", 2, 9);
        queryFails("many 1 = 1 or 100000", 2, 14);
        queryFails("many 1 100000 1", 1, 7);
    }

    /** Events 3:1:-1:1 (online), 5:7:1:1 and 5:7:0:1 (marks), 7:4:-1:-1 (lost), 8:5:-1:-1 (hung up). */
    private static ModemLink withEvents() {
        ModemLink x = Lines.online("line 9; rates 30 1, 40 2; hold 1;");
        Check.send(x, 0, "a");
        Check.send(x, 1, "a");
        x.pass(3);
        x.setQuality(0);
        x.pass(2);
        Check.same("events", Check.events(x), "3:1:-1:1 5:7:1:1 5:7:0:1 7:4:-1:-1 8:5:-1:-1");
        return x;
    }

    private static void queryProperties() {
        Check.about("'event' (its number), 'tick', 'kind', 'end' (1 plus its end, 0 if it has none), 'rate' (1 plus its rate, 0 if it has none)");
        ModemLink x = withEvents();
        int[][] due = {{0, 1, 2, 3, 4}, {3, 5, 5, 7, 8}, {1, 7, 7, 4, 5}, {0, 2, 1, 0, 0}, {2, 2, 2, 0, 0}};
        String[] properties = {"event", "tick", "kind", "end", "rate"};
        for (int p = 0; p < properties.length; p++) {
            for (int value = 0; value < 10; value++) {
                int many = 0;
                int first = -1;
                for (int event = 4; event >= 0; event--) {
                    many += due[p][event] == value ? 1 : 0;
                    first = due[p][event] == value ? event : first;
                }
                asks(x, "many " + properties[p] + " = " + value, many);
                asks(x, "first " + value + " = " + properties[p], first);
            }
        }
        asks(x, "many end = rate", 3);
        asks(x, "first tick = kind", -1);
        asks(x, "many event < end", 1);
        asks(x, "many kind = event", 0);
        asks(x, "many event > event", 0);
    }

    private static void queryComparisons() {
        Check.about("value ('<' | '=' | '>') value");
        ModemLink x = withEvents();
        asks(x, "many event < 2", 2);
        asks(x, "many event = 2", 1);
        asks(x, "many event > 2", 2);
        asks(x, "many 2 < event", 2);
        asks(x, "many 2 > event", 2);
        asks(x, "many event < 0", 0);
        asks(x, "many event > 4", 0);
        asks(x, "many event < 5", 5);
        asks(x, "first event > 0", 1);
        asks(x, "first event > 3", 4);
        asks(x, "first event > 4", -1);
    }

    private static void queryPrecedence() {
        Check.about("test: conjunction ('or' conjunction)*. conjunction: factor ('and' factor)*. factor: 'not' factor | '(' test ')'");
        ModemLink x = withEvents();
        asks(x, "many event = 0 or event = 1 and event = 2", 1);
        asks(x, "many event = 2 and event = 1 or event = 0", 1);
        asks(x, "many (event = 0 or event = 1) and event = 1", 1);
        asks(x, "many event = 0 and (event = 1 or event = 0)", 1);
        asks(x, "many event = 0 or event = 1 or event = 2 or event = 9", 3);
        asks(x, "many event > 0 and event < 4 and kind = 7 and end = 1", 1);
        asks(x, "many not event = 0 and event < 2", 1);
        asks(x, "many not event = 0 or event = 0", 5);
        asks(x, "many not (event = 0 or event = 1)", 3);
        asks(x, "many not not event = 0", 1);
        asks(x, "many not not not event = 0", 4);
        asks(x, "many event = 0 and not event = 1", 1);
        asks(x, "many event = 0 or not event = 1", 4);
        asks(x, "first not event = 0", 1);
        asks(x, "first not 1 = 1", -1);
        asks(x, "many not 1 = 2", 5);
    }

    private static void firstErrorCounts() {
        Check.about("The text is checked token by token, and the first token with an error determines the result");
        fails("line 10; rates 3 1;", 2, 5);
        fails("line 9 10; rates 3 1;", 1, 7);
        fails("line 9; rates 3 0;", 2, 14);
        fails("line 9; rates 8 1, 8 0;", 4, 19);
        fails("line 9; rates 8 2, 9 2, 81 1;", 4, 21);
        fails(Lines.HEAD + "delay 1 2 x", 4, 26);
        fails(Lines.HEAD + "delay 10 1;", 2, 24);
        fails(Lines.HEAD + "noise 1 2 3 4 5 6 7 8 9 10 11;", 2, 42);
        fails(Lines.HEAD + "hold 51 51; limit 9", 2, 23);
        queryFails("many 100000 < !", 2, 5);
        queryFails("many ! < 100000", 1, 5);
        queryFails("many not not not not not not not !", 3, 29);
        queryFails("many 1 = 1 ! not not not not not not not", 1, 11);
    }

    private static void smallestCodeCounts() {
        Check.about("If several codes apply to one token, the smallest one counts");
        fails("line 9; rates 8 1, 3 2;", 2, 19);
        fails("line 9; rates 8 1, 4 2;", 4, 19);
        fails("line 9; rates 80 1, 81 2;", 2, 20);
        fails("line 9; rates 80 1, 80 2;", 4, 20);
        fails("line 9; rates 8 1, 9 0;", 2, 21);
        fails("line 9; rates 8 1, 9 1;", 4, 21);
        fails("line 9; rates 8 9, 9 10;", 2, 21);
        fails("line 9; rates 8 9, 9 9;", 4, 21);
        fails(Lines.HEAD + "noise 0 0 0 0 0 0 0 0 0 0 10;", 2, 44);
        fails(Lines.HEAD + "noise 0 0 0 0 0 0 0 0 0 0 9;", 3, 44);
    }

    private static void tooMany() {
        Check.about("3: the comma behind the fifth rate; the 11th noise");
        String five = "line 9; rates 4 1, 5 2, 6 3, 7 4, 8 5";
        loads(five + ";");
        fails(five + ", 9 6;", 3, 37);
        fails(five + ",", 3, 37);
        fails(five + " ,;", 3, 38);
        fails(five + " 9", 1, 38);
        fails("line 9; rates 4 1, 5 2, 6 3, 7 4,", 1, 33);
        loads(Lines.HEAD + "noise 1 2 3 4 5 6 7 8 9 0; noise 1 2 3 4 5 6 7 8 9 0;");
        fails(Lines.HEAD + "noise 1 2 3 4 5 6 7 8 9 0 0;", 3, 44);
        fails(Lines.HEAD + "noise 1 2 3 4 5 6 7 8 9 0, 0;", 1, 43);
    }

    private static void openAtTheSameTime() {
        Check.about("in a query a 'not' or '(' that would be the seventh one open at the same time. A 'not' is open until the end of its factor");
        ModemLink x = withEvents();
        asks(x, "many not not not not not not event = 0", 1);
        queryFails("many not not not not not not not event = 0", 3, 29);
        asks(x, "many ((((((event = 0))))))", 1);
        queryFails("many (((((((event = 0)))))))", 3, 11);
        asks(x, "many not(not(not(event = 0)))", 4);
        queryFails("many not(not(not(not event = 0)))", 3, 17);
        queryFails("many not(not(not((event = 0))))", 3, 17);
        asks(x, "many not not not not not not event = 0 and not not not not not not event = 0", 1);
        asks(x, "many not not not not not not event = 0 or ((((((event = 1))))))", 2);
        asks(x, "many ((((((event = 0)))))) and ((((((event = 0)))))) or not not not not not not event = 1", 2);
        asks(x, "many (((((not event = 0 and not event = 1)))))", 3);
        queryFails("many (((((not not event = 0)))))", 3, 14);
        asks(x, "many (((((not event = 0) and (event = 1)))) or not(not(event = 0)))", 2);
        asks(x, "many ((((((event = 0) and event = 0) and not event = 1))))", 1);
        queryFails("many ((((((event = 0 and (", 3, 25);
        queryFails("many ((((((event = 0 (", 1, 21);
        queryFails("many ((((((1 = (", 1, 15);
    }
}
