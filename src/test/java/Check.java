import java.util.NoSuchElementException;

/** What the tests share: texts onto the tape, answers that are due, exceptions that are due. */
final class Check {
    interface Call {
        long answer();
    }

    static final long NO_SUCH = Long.MIN_VALUE + 1;
    static final long ILLEGAL = Long.MIN_VALUE + 2;
    static final long OTHER = Long.MIN_VALUE + 3;

    private static int wrong = 0;
    private static int asked = 0;

    private Check() {
    }

    static long of(Call call) {
        try {
            return call.answer();
        } catch (RuntimeException e) {
            if (e.getClass() == NoSuchElementException.class) {
                return NO_SUCH;
            }
            if (e.getClass() == IllegalArgumentException.class) {
                return ILLEGAL;
            }
            e.printStackTrace(System.out);
            return OTHER;
        }
    }

    static void due(String what, long want, Call call) {
        same(what, of(call), want);
    }

    static void same(String what, long got, long want) {
        asked++;
        if (got != want) {
            wrong++;
            if (wrong <= 40) {
                System.out.println(what + " answered " + shown(got) + ", due is " + shown(want));
            }
        }
    }

    private static String shown(long answer) {
        if (answer == NO_SUCH) {
            return "NoSuchElementException";
        }
        if (answer == ILLEGAL) {
            return "IllegalArgumentException";
        }
        return answer == OTHER ? "another exception" : Long.toString(answer);
    }

    static int wrongSoFar() {
        return wrong;
    }

    static void end(String name) {
        System.out.println(name + ": " + asked + " answers, " + wrong + " wrong");
        if (wrong != 0 || asked == 0) {
            System.exit(1);
        }
    }

    /** Feeds a text, with blanks behind it up to twenty bytes. */
    static void feed(TingDecks x, String text) {
        byte[] bytes = new byte[(text.length() + 19) / 20 * 20];
        for (int i = 0; i < bytes.length; i++) {
            bytes[i] = i < text.length() ? (byte) text.charAt(i) : (byte) ' ';
        }
        for (int i = 0; i < bytes.length; i += 20) {
            x.feed(number(bytes, i), number(bytes, i + 4), number(bytes, i + 8),
                    number(bytes, i + 12), number(bytes, i + 16));
        }
    }

    private static int number(byte[] b, int i) {
        return (b[i] & 255) << 24 | (b[i + 1] & 255) << 16 | (b[i + 2] & 255) << 8 | b[i + 3] & 255;
    }

    static int read(TingDecks x, String text) {
        feed(x, text);
        return x.bus(text.length());
    }

    static TingDecks bus(String text) {
        TingDecks x = new TingDecks();
        same("bus of " + text, read(x, text), 0);
        return x;
    }

    static void fault(String text, int fault, int place) {
        TingDecks x = new TingDecks();
        same("fault of " + text, read(x, text), fault);
        same("place of the fault of " + text, x.fault(), fault == 0 ? TingDecks.NONE : place);
    }
}
