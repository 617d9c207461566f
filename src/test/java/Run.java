import java.lang.reflect.InvocationTargetException;
import java.lang.reflect.Method;

/**
 * A run of calls on a new object for one sentence of the document: each call is written as
 * "paid 0 2", its name and its numbers, with the answer that is due (a boolean counts 1 or 0).
 */
final class Run {
    private final String sentence;
    private final TingDecks x = new TingDecks();

    private Run(String sentence) {
        this.sentence = sentence;
    }

    static Run of(String sentence) {
        return new Run(sentence);
    }

    static Run of(String sentence, String text) {
        return new Run(sentence).reads(text);
    }

    /** A text that has no fault. */
    Run reads(String text) {
        Check.same(told("bus of " + text), Check.read(x, text), 0);
        return this;
    }

    /** A text with a fault, which is where the sign ^ stands (it is taken out). */
    Run refuses(int fault, String marked) {
        int place = marked.indexOf('^');
        String text = marked.replace("^", "");
        Check.same(told("bus of " + marked), Check.read(x, text), fault);
        Check.same(told("place of the fault of " + marked), x.fault(), place);
        return this;
    }

    Run feeds(String text) {
        Check.feed(x, text);
        return this;
    }

    Run is(long due, String... calls) {
        for (String call : calls) {
            Check.same(told(call), Check.of(() -> answer(call)), due);
        }
        return this;
    }

    /** One call with one more number behind it, 0 on: all the answers in a row. */
    Run row(String call, long... due) {
        for (int i = 0; i < due.length; i++) {
            is(due[i], call + " " + i);
        }
        return this;
    }

    Run noSuch(String... calls) {
        return is(Check.NO_SUCH, calls);
    }

    Run illegal(String... calls) {
        return is(Check.ILLEGAL, calls);
    }

    Run call(String... calls) {
        for (String call : calls) {
            answer(call);
        }
        return this;
    }

    private String told(String call) {
        return "[" + sentence + "] " + call;
    }

    private long answer(String call) {
        String[] words = call.trim().split(" +");
        Object[] numbers = new Object[words.length - 1];
        for (int i = 0; i < numbers.length; i++) {
            numbers[i] = Integer.parseInt(words[i + 1]);
        }
        try {
            Object got = methodOf(words[0]).invoke(x, numbers);
            if (got instanceof Boolean) {
                return (Boolean) got ? 1 : 0;
            }
            return got == null ? 0 : ((Number) got).longValue();
        } catch (InvocationTargetException e) {
            throw (RuntimeException) e.getCause();
        } catch (IllegalAccessException e) {
            throw new AssertionError(e);
        }
    }

    private static Method methodOf(String name) {
        for (Method m : TingDecks.class.getMethods()) {
            if (m.getName().equals(name)) {
                return m;
            }
        }
        throw new AssertionError("no call " + name);
    }
}
