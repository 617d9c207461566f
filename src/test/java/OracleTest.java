import java.util.ArrayList;
import java.util.List;
import java.util.Random;

/** Runs of calls by a seed, on the class and on the plain telling of the document beside it. */
public final class OracleTest {
    private static final int[] FAR = {Integer.MIN_VALUE, Integer.MAX_VALUE, Integer.MIN_VALUE + 1, -2, 32, 33, 64, 1 << 12, 1 << 31};

    private final Random random;
    private final Texts texts;
    private TingDecks x;
    private Plain y;
    private List<String> calls;
    private int ridersMost;

    private OracleTest(long seed) {
        random = new Random(seed);
        texts = new Texts(random);
    }

    public static void main(String[] args) {
        int runs = args.length > 1 ? Integer.parseInt(args[1]) : 500;
        long first = args.length > 2 ? Long.parseLong(args[2]) : 1;
        for (int i = 0; i < runs && Check.wrongSoFar() == 0; i++) {
            new OracleTest(first + i).spoiltTexts();
            new OracleTest(first + i).run();
        }
        Check.end("OracleTest");
    }

    private int below(int n) {
        return random.nextInt(n);
    }

    private void spoiltTexts() {
        x = new TingDecks();
        y = new Plain();
        calls = new ArrayList<>();
        for (int i = 0; i < 40; i++) {
            String text = texts.spoilt();
            read(text, text.length());
            same("fault()", x::fault, y::fault);
            for (int what = 0; what < 18; what++) {
                int w = what;
                same("count(" + w + ")", () -> x.count(w), () -> y.count(w));
            }
        }
    }

    private void read(String text, int n) {
        Check.feed(x, text);
        y.feedText(text);
        same("bus(" + n + ") of " + text, () -> x.bus(n), () -> y.bus(n));
    }

    private void run() {
        x = new TingDecks();
        y = new Plain();
        calls = new ArrayList<>();
        int kind = below(10);
        ridersMost = kind == 0 ? 12 : kind < 4 ? 10 : 7;
        for (int part = 0; part < 3; part++) {
            String text = texts.good(ridersMost);
            read(text, text.length());
            int n = 60;
            for (int i = 0; i < n; i++) {
                oneCall();
            }
            compareAll();
        }
    }

    private void same(String call, Check.Call a, Check.Call b) {
        calls.add(call);
        int wrong = Check.wrongSoFar();
        Check.same(call, Check.of(a), Check.of(b));
        if (Check.wrongSoFar() > wrong) {
            System.out.println("  behind " + calls);
        }
    }

    /** Mostly one below n, now and then one beside, or one far away. */
    private int any(int n) {
        if (n > 0 && below(8) != 0) {
            return below(n);
        }
        return below(3) == 0 ? FAR[below(FAR.length)] : below(n + 6) - 3;
    }

    private int stop() {
        return any(y.stops());
    }

    private int rider() {
        return any(y.riders());
    }

    private int what(int n) {
        return any(n);
    }

    private void oneCall() {
        switch (below(12)) {
            case 0: case 1: {
                int s = stop();
                int n = below(3) == 0 ? any(61) : below(6);
                same("hold(" + s + "," + n + ")", () -> x.hold(s, n), () -> y.hold(s, n));
                break;
            }
            case 2: case 3: case 4: {
                int r = rider();
                int d = any(2);
                int n = any(10);
                same("sit(" + r + "," + d + "," + n + ")", () -> x.sit(r, d, n), () -> y.sit(r, d, n));
                break;
            }
            case 5: case 6: {
                int r = any(6) - 1;
                same("obey(" + r + ")", () -> x.obey(r) ? 1 : 0, () -> y.obey(r) ? 1 : 0);
                break;
            }
            case 7:
                same("undo()", x::undo, y::undo);
                break;
            case 8: {
                int s = stop();
                int d = any(2);
                int n = below(2) == 0 ? any(13) : below(4);
                same("head(" + s + "," + d + "," + n + ")", () -> x.head(s, d, n), () -> y.head(s, d, n));
                break;
            }
            case 9:
                imageOrForget();
                break;
            default:
                ask(below(29));
                break;
        }
    }

    private void imageOrForget() {
        int which = below(5);
        if (which == 0) {
            calls.add("forget()");
            x.forget();
            y.forget();
        } else if (which <= 2) {
            calls.add("image()");
            x.image();
            y.image();
        } else {
            same("restore()", () -> x.restore() ? 1 : 0, () -> y.restore() ? 1 : 0);
        }
    }

    private void ask(int which) {
        int s = stop();
        int r = rider();
        int n;
        switch (which) {
            case 0: n = what(18); same("count(" + n + ")", () -> x.count(n), () -> y.count(n)); break;
            case 1: n = what(4); same("stop(" + s + "," + n + ")", () -> x.stop(s, n), () -> y.stop(s, n)); break;
            case 2: n = what(7); same("rider(" + r + "," + n + ")", () -> x.rider(r, n), () -> y.rider(r, n)); break;
            case 3: n = what(3); same("paid(" + r + "," + n + ")", () -> x.paid(r, n), () -> y.paid(r, n)); break;
            case 4: n = rider(); same("way(" + r + "," + n + ")", () -> x.way(r, n), () -> y.way(r, n)); break;
            case 5: n = any(300); same("where(" + n + ")", () -> x.where(n), () -> y.where(n)); break;
            case 6: if (isNotTooSlow()) { n = what(2); same("most(" + n + ")", () -> x.most(n), () -> y.most(n)); } break;
            case 7: n = any(6) - 1; same("compare(" + n + ")", () -> x.compare(n), () -> y.compare(n)); break;
            case 8: same("best()", x::best, y::best); break;
            case 9: n = what(2); same("bell(" + s + "," + n + ")", () -> x.bell(s, n), () -> y.bell(s, n)); break;
            case 10: n = what(3); same("door(" + n + ")", () -> x.door(n), () -> y.door(n)); break;
            case 11: n = what(2); same("two(" + n + ")", () -> x.two(n), () -> y.two(n)); break;
            case 12: same("flat()", x::flat, y::flat); break;
            case 13: n = any(13); same("hops(" + n + ")", () -> x.hops(n), () -> y.hops(n)); break;
            case 14: same("again(" + s + ")", () -> x.again(s), () -> y.again(s)); break;
            case 15: case 16: n = what(3); same("fits(" + n + ")", () -> x.fits(n), () -> y.fits(n)); break;
            case 17: case 18: n = what(2); same("game(" + s + "," + r + "," + n + ")", () -> x.game(s, r, n), () -> y.game(s, r, n)); break;
            case 19: week(); break;
            case 20: n = what(6); same("walk(" + n + ")", () -> x.walk(n), () -> y.walk(n)); break;
            case 21: n = what(12); same("ting(" + n + ")", () -> x.ting(n), () -> y.ting(n)); break;
            case 22: if (isNotTooSlow()) { soonest(); } break;
            case 23: n = what(2); same("dodge(" + r + "," + n + ")", () -> x.dodge(r, n), () -> y.dodge(r, n)); break;
            case 24: same("worth(" + r + ")", () -> x.worth(r), () -> y.worth(r)); break;
            case 25: same("pace()", x::pace, y::pace); break;
            case 26: n = what(2); same("likely(" + r + "," + n + ")", () -> x.likely(r, n), () -> y.likely(r, n)); break;
            case 27: n = what(2); same("mean(" + n + ")", () -> x.mean(n), () -> y.mean(n)); break;
            default: same("fault()", x::fault, y::fault); break;
        }
    }

    private void week() {
        int seed = random.nextInt();
        int days = below(4) == 0 ? any(61) : below(6);
        int n = what(3);
        same("week(" + seed + "," + days + "," + n + ")", () -> x.week(seed, days, n), () -> y.week(seed, days, n));
    }

    /** All orders of nine or ten riders take their time one by one: only now and then. */
    private boolean isNotTooSlow() {
        return y.riders() <= 8 || y.riders() > 10 || below(8) == 0;
    }

    private void soonest() {
        int set = below(8) == 0 ? any(1 << y.riders()) : below(20) == 0 ? random.nextInt() : below(1 << y.riders()) & below(1 << y.riders());
        same("soonest(" + set + ")", () -> x.soonest(set), () -> y.soonest(set));
    }

    /** All that is asked of a bus as it is, for every argument that it has. */
    private void compareAll() {
        for (int which = 0; which < 28; which++) {
            ask(which);
        }
        for (int r = 0; r < y.riders(); r++) {
            for (int what = 0; what < 7; what++) {
                int a = r;
                int n = what;
                same("rider(" + a + "," + n + ")", () -> x.rider(a, n), () -> y.rider(a, n));
                same("paid(" + a + "," + n + ")", () -> x.paid(a, n), () -> y.paid(a, n));
            }
        }
        for (int second = 0; second <= y.ridden().where.size(); second++) {
            int n = second;
            same("where(" + n + ")", () -> x.where(n), () -> y.where(n));
        }
        for (int what = 0; what < 18; what++) {
            int n = what;
            same("count(" + n + ")", () -> x.count(n), () -> y.count(n));
            same("walk(" + n + ")", () -> x.walk(n), () -> y.walk(n));
        }
        for (int stop = 0; stop < y.stops(); stop++) {
            int a = stop;
            same("again(" + a + ")", () -> x.again(a), () -> y.again(a));
            same("stop(" + a + ",0)", () -> x.stop(a, 0), () -> y.stop(a, 0));
            same("stop(" + a + ",2)", () -> x.stop(a, 2), () -> y.stop(a, 2));
        }
    }
}
