import java.lang.reflect.InvocationTargetException;
import java.lang.reflect.Method;
import java.util.ArrayList;
import java.util.List;

/**
 * A run of calls on a new object for one sentence of the document: each call is written as
 * "paid 0 2", its name and its numbers, with the answer that is due (a boolean counts 1 or 0).
 */
final class Run {
    private final String sentence;
    private final TingDecks x = new TingDecks();

    private Run(String sentence) {
        this.sentence = sentence;
    }

    static Run of(String sentence) {
        return new Run(sentence);
    }

    static Run of(String sentence, String text) {
        return new Run(sentence).reads(text);
    }

    /** A text that has no fault. */
    Run reads(String text) {
        Check.same(told("bus of " + text), Check.read(x, text), 0);
        return this;
    }

    /** A text with a fault, which is where the sign ^ stands (it is taken out). */
    Run refuses(int fault, String marked) {
        int place = marked.indexOf('^');
        String text = marked.replace("^", "");
        Check.same(told("bus of " + marked), Check.read(x, text), fault);
        Check.same(told("place of the fault of " + marked), x.fault(), place);
        return this;
    }

    /** Lines of riders from stop 0 to 1, six below on the seats 0 to 5, then above, each with what comes behind. */
    static String riders(int n, String behind) {
        StringBuilder s = new StringBuilder();
        for (int i = 0; i < n; i++) {
            s.append("rider 0 1 ").append(i < 6 ? "below " : "above ").append(i % 6).append(behind).append(';');
        }
        return s.toString();
    }

    Run feeds(String text) {
        Check.feed(x, text);
        return this;
    }

    Run is(long due, String... calls) {
        for (String call : calls) {
            Check.same(told(call), Check.of(() -> answer(call)), due);
        }
        return this;
    }

    /** One call with one more number behind it, 0 on: all the answers in a row. */
    Run row(String call, long... due) {
        for (int i = 0; i < due.length; i++) {
            is(due[i], call + " " + i);
        }
        return this;
    }

    Run noSuch(String... calls) {
        return is(Check.NO_SUCH, calls);
    }

    Run illegal(String... calls) {
        return is(Check.ILLEGAL, calls);
    }

    Run call(String... calls) {
        for (String call : calls) {
            answer(call);
        }
        return this;
    }

    /** The same answers as another object gives, none of them thrown by the machine. */
    Run sameAs(Run twin, String... calls) {
        for (String call : calls) {
            long due = Check.of(() -> twin.answer(call));
            Check.same(told(call + " thrown by the machine"), due == Check.OTHER ? 1 : 0, 0);
            is(due, call);
        }
        return this;
    }

    /** Every question about a bus of so many stops and riders, and some beside. */
    static String[] questions(int stops, int riders) {
        List<String> calls = new ArrayList<>(List.of("fault", "best", "flat", "pace"));
        rows(calls, "count", 14, "walk", 6, "door", 3, "two", 2, "most", 2, "fits", 3, "mean", 2, "ting", riders + 1,
                "hops", 14);
        rows(calls, "week 77 9", 3, "week -5 60", 3, "where", 40, "soonest", 40, "again", stops + 1);
        for (int rule = -2; rule <= 4; rule++) {
            calls.add("compare " + rule);
        }
        for (int stop = 0; stop <= stops; stop++) {
            rows(calls, "stop " + stop, 4, "bell " + stop, 2);
            for (int rider = 0; rider <= riders; rider++) {
                rows(calls, "game " + stop + " " + rider, 2);
            }
        }
        for (int rider = 0; rider <= riders; rider++) {
            rows(calls, "rider " + rider, 7, "paid " + rider, 3, "way " + rider, riders + 1, "dodge " + rider, 2,
                    "likely " + rider, 2);
            calls.add("worth " + rider);
        }
        return calls.toArray(new String[0]);
    }

    private static void rows(List<String> calls, Object... callsAndLengths) {
        for (int i = 0; i < callsAndLengths.length; i += 2) {
            for (int n = 0; n < (Integer) callsAndLengths[i + 1]; n++) {
                calls.add(callsAndLengths[i] + " " + n);
            }
        }
    }

    private String told(String call) {
        return "[" + sentence + "] " + call;
    }

    private long answer(String call) {
        String[] words = call.trim().split(" +");
        Object[] numbers = new Object[words.length - 1];
        for (int i = 0; i < numbers.length; i++) {
            numbers[i] = Integer.parseInt(words[i + 1]);
        }
        try {
            Object got = methodOf(words[0]).invoke(x, numbers);
            if (got instanceof Boolean) {
                return (Boolean) got ? 1 : 0;
            }
            return got == null ? 0 : ((Number) got).longValue();
        } catch (InvocationTargetException e) {
            throw (RuntimeException) e.getCause();
        } catch (IllegalAccessException e) {
            throw new AssertionError(e);
        }
    }

    private static Method methodOf(String name) {
        for (Method m : TingDecks.class.getMethods()) {
            if (m.getName().equals(name)) {
                return m;
            }
        }
        throw new AssertionError("no call " + name);
    }
}
