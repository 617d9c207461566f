import java.math.BigInteger;
import java.util.ArrayList;
import java.util.List;
import java.util.NoSuchElementException;
import java.util.regex.Matcher;
import java.util.regex.Pattern;

/**
 * The document once more, as slowly and plainly as it can be told: the bus goes second by second,
 * orders are tried one by one, what is undone is taken from copies. Tests compare with it.
 */
final class Plain {
    static final class Fault extends Exception {
        final int kind;
        final int place;

        Fault(int kind, int place) {
            this.kind = kind;
            this.place = place;
        }
    }

    interface Rule {
        int of(Values v);
    }

    static final class Values {
        int hops, deck, seat, note, near, left, ago, fare;
    }

    static final class Rider implements Cloneable {
        int from, to, deck, seat, tenths = 10;
        boolean note;

        Rider copy() {
            try {
                return (Rider) clone();
            } catch (CloneNotSupportedException e) {
                throw new AssertionError(e);
            }
        }

        boolean meets(Rider o) {
            for (int ride = 0; ride < 12; ride++) {
                if (from <= ride && ride < to && o.from <= ride && ride < o.to) {
                    return true;
                }
            }
            return false;
        }
    }

    static final class Text {
        List<Integer> rides = new ArrayList<>(List.of(60));
        List<Rider> riders = new ArrayList<>();
        List<Rule> picks = new ArrayList<>();
        Rule fare;
        int step = 1, stair = 11, take = 5, late = 6, fade = 10;
    }

    /** Holds, seats and the rule in force. */
    static final class Now {
        int[] holds = new int[12];
        List<Rider> riders = new ArrayList<>();
        int rule = -1;

        Now copy() {
            Now c = new Now();
            c.holds = holds.clone();
            for (Rider r : riders) {
                c.riders.add(r.copy());
            }
            c.rule = rule;
            return c;
        }
    }

    // ------------------------------------------------------------------ reading

    static final class Reading {
        private static final Pattern TOKEN = Pattern.compile("[a-z]+|[0-9]+|[;()+\\-*/<=]");
        final String text;
        final Text out = new Text();
        final List<String> met = new ArrayList<>();
        int pos = 0;
        String tok;
        int at;
        boolean forFare;

        Reading(String text) {
            this.text = text;
        }

        Text read() throws Fault {
            next();
            while (!tok.isEmpty()) {
                line();
            }
            return out;
        }

        void next() {
            while (pos < text.length() && (text.charAt(pos) == 32 || text.charAt(pos) == 10)) {
                pos++;
            }
            at = pos;
            if (pos >= text.length()) {
                tok = "";
                return;
            }
            Matcher m = TOKEN.matcher(text);
            if (m.find(pos) && m.start() == pos) {
                tok = m.group();
            } else {
                tok = "?";
            }
            pos += tok.length();
        }

        Fault fault(int kind) {
            return new Fault(kind, at);
        }

        int number(int lo, int hi) throws Fault {
            if (!tok.matches("[0-9]+")) {
                throw fault(1);
            }
            if (tok.length() > 4 || Integer.parseInt(tok) < lo || Integer.parseInt(tok) > hi) {
                throw fault(2);
            }
            return Integer.parseInt(tok);
        }

        void pass(String t) throws Fault {
            if (!tok.equals(t)) {
                throw fault(1);
            }
            next();
        }

        void line() throws Fault {
            String word = tok;
            switch (word) {
                case "ride": case "step": case "stair": case "take": case "late": case "fade": case "fare":
                    if (word.equals("ride") && !out.riders.isEmpty()) {
                        throw fault(6);
                    }
                    if (met.contains(word)) {
                        throw fault(5);
                    }
                    met.add(word);
                    break;
                case "rider":
                    if (out.riders.size() == 12) {
                        throw fault(2);
                    }
                    break;
                case "picks":
                    if (out.picks.size() == 4) {
                        throw fault(2);
                    }
                    break;
                default:
                    throw fault(1);
            }
            next();
            switch (word) {
                case "ride": rides(); break;
                case "rider": rider(); break;
                case "step": out.step = number(0, 9); next(); break;
                case "stair": out.stair = number(0, 99); next(); break;
                case "take": out.take = number(1, 60); next(); break;
                case "late": out.late = number(0, 99); next(); break;
                case "fade": out.fade = number(0, 50); next(); break;
                case "fare": forFare = true; out.fare = expr(0); break;
                default: forFare = false; out.picks.add(expr(0)); break;
            }
            pass(";");
        }

        void rides() throws Fault {
            out.rides.clear();
            out.rides.add(number(1, 300));
            next();
            while (tok.matches("[0-9]+")) {
                out.rides.add(number(1, out.rides.size() == 11 ? 0 : 300));
                next();
            }
        }

        void rider() throws Fault {
            int stops = out.rides.size() + 1;
            Rider r = new Rider();
            r.from = number(0, stops - 1);
            next();
            r.to = number(r.from + 1, stops - 1);
            next();
            if (!tok.equals("below") && !tok.equals("above")) {
                throw fault(1);
            }
            r.deck = tok.equals("above") ? 1 : 0;
            next();
            r.seat = number(0, 9);
            for (Rider o : out.riders) {
                if (o.deck == r.deck && o.seat == r.seat && o.meets(r)) {
                    throw fault(4);
                }
            }
            next();
            if (tok.equals("note")) {
                r.note = true;
                next();
            }
            if (tok.equals("maybe")) {
                next();
                r.tenths = number(0, 10);
                next();
            }
            out.riders.add(r);
        }

        Rule expr(int within) throws Fault {
            if (within == 6 && tok.matches("[0-9a-z]+|\\(")) {
                throw fault(2);
            }
            Rule a = and(within);
            while (tok.equals("or")) {
                next();
                Rule l = a, r = and(within);
                a = v -> {
                    boolean x = l.of(v) != 0, y = r.of(v) != 0;
                    return x || y ? 1 : 0;
                };
            }
            return a;
        }

        Rule and(int within) throws Fault {
            Rule a = not(within, 0);
            while (tok.equals("and")) {
                next();
                Rule l = a, r = not(within, 0);
                a = v -> {
                    boolean x = l.of(v) != 0, y = r.of(v) != 0;
                    return x && y ? 1 : 0;
                };
            }
            return a;
        }

        Rule not(int within, int nots) throws Fault {
            if (tok.equals("not")) {
                if (nots == 6) {
                    throw fault(2);
                }
                next();
                Rule r = not(within, nots + 1);
                return v -> r.of(v) == 0 ? 1 : 0;
            }
            Rule l = sum(within);
            if (tok.equals("<")) {
                next();
                Rule r = sum(within);
                return v -> l.of(v) < r.of(v) ? 1 : 0;
            }
            if (tok.equals("=")) {
                next();
                Rule r = sum(within);
                return v -> l.of(v) == r.of(v) ? 1 : 0;
            }
            return l;
        }

        Rule sum(int within) throws Fault {
            Rule a = product(within);
            while (tok.equals("+") || tok.equals("-")) {
                boolean plus = tok.equals("+");
                next();
                Rule l = a, r = product(within);
                a = plus ? v -> l.of(v) + r.of(v) : v -> l.of(v) - r.of(v);
            }
            return a;
        }

        Rule product(int within) throws Fault {
            Rule a = part(within);
            while (tok.equals("*") || tok.equals("/")) {
                boolean times = tok.equals("*");
                next();
                Rule l = a, r = part(within);
                a = times ? v -> l.of(v) * r.of(v) : v -> r.of(v) == 0 ? 0 : l.of(v) / r.of(v);
            }
            return a;
        }

        Rule part(int within) throws Fault {
            if (tok.equals("(")) {
                next();
                Rule r = expr(within + 1);
                pass(")");
                return r;
            }
            if (tok.matches("[0-9]+")) {
                int n = number(0, 9999);
                next();
                return v -> n;
            }
            if (!tok.matches("[a-z]+")) {
                throw fault(1);
            }
            Rule r;
            switch (tok) {
                case "hops": r = v -> v.hops; break;
                case "deck": r = v -> v.deck; break;
                case "seat": r = v -> v.seat; break;
                case "note": r = v -> v.note; break;
                case "near": r = forFare ? null : v -> v.near; break;
                case "left": r = forFare ? null : v -> v.left; break;
                case "new": r = forFare ? null : v -> v.ago; break;
                case "fare": r = forFare ? null : v -> v.fare; break;
                default: r = null; break;
            }
            if (r == null) {
                throw fault(3);
            }
            next();
            return r;
        }
    }

    // ------------------------------------------------------------------ riding

    /** All that a ride depends on; each question changes a copy of it. */
    final class World {
        Now n = now.copy();
        boolean[] absent = new boolean[12];
        int take = text.take;
        int rule = now.rule;
        int flat = -1;
        int onlyDeck = -1;

        int[] paidAt = new int[12];
        int[] nth = new int[12];
        boolean[] missed = new boolean[12];
        List<Integer> tings = new ArrayList<>();
        List<Integer> where = new ArrayList<>();
        int taken, stairs, waits, goes, takes;

        private int[] ats;

        int at(int stop) {
            if (ats == null) {
                ats = new int[stops()];
                for (int i = 1; i < stops(); i++) {
                    ats[i] = ats[i - 1] + n.holds[i - 1] + text.rides.get(i - 1);
                }
            }
            return ats[stop];
        }

        int stopAt(int second) {
            int k = 0;
            for (int i = 0; i < stops(); i++) {
                if (at(i) <= second) {
                    k = i;
                }
            }
            return k;
        }

        int fare(int r) {
            if (flat >= 0) {
                return flat;
            }
            Rider x = n.riders.get(r);
            if (text.fare == null) {
                return 2 * (x.to - x.from);
            }
            Values v = new Values();
            v.hops = x.to - x.from;
            v.deck = x.deck;
            v.seat = x.seat;
            v.note = x.note ? 1 : 0;
            int f = text.fare.of(v);
            return f < 0 ? 0 : f > 99 ? 99 : f;
        }

        int takeOf(int r) {
            return n.riders.get(r).note ? take * 3 : take;
        }

        boolean there(int r, int second) {
            Rider x = n.riders.get(r);
            return !absent[r] && (onlyDeck < 0 || x.deck == onlyDeck) && at(x.from) <= second && second < at(x.to);
        }

        int pick(int second, int deck, int seat) {
            int best = -1;
            int most = 0;
            for (int r = 0; r < n.riders.size(); r++) {
                if (nth[r] >= 0 || !there(r, second)) {
                    continue;
                }
                Rider x = n.riders.get(r);
                int near = seconds(deck, seat, x.deck, x.seat);
                int gives = -near;
                if (rule >= 0) {
                    Values v = new Values();
                    v.hops = x.to - x.from;
                    v.deck = x.deck;
                    v.seat = x.seat;
                    v.note = x.note ? 1 : 0;
                    v.near = near;
                    v.left = x.to - stopAt(second);
                    v.ago = stopAt(second) - x.from;
                    v.fare = fare(r);
                    gives = text.picks.get(rule).of(v);
                }
                if (best < 0 || gives > most) {
                    best = r;
                    most = gives;
                }
            }
            return best;
        }

        World ride() {
            for (int i = 0; i < 12; i++) {
                paidAt[i] = -1;
                nth[i] = -1;
            }
            int deck = Math.max(0, onlyDeck);
            int seat = 0;
            int free = 0;
            int asked = 0;
            int end = at(stops() - 1);
            for (int second = 0; second < end; second++) {
                while (free == second) {
                    int r = pick(second, deck, seat);
                    if (r < 0) {
                        waits++;
                        free = second + 1;
                        break;
                    }
                    Rider x = n.riders.get(r);
                    int way = seconds(deck, seat, x.deck, x.seat);
                    stairs += deck == x.deck ? 0 : 1;
                    goes += way;
                    deck = x.deck;
                    seat = x.seat;
                    nth[r] = asked++;
                    free = second + way;
                    if (free + takeOf(r) <= at(x.to)) {
                        free += takeOf(r);
                        takes += takeOf(r);
                        taken += fare(r);
                        paidAt[r] = free;
                        tings.add(r);
                    } else {
                        missed[r] = true;
                    }
                }
                where.add(deck * 10 + seat);
            }
            where.add(deck * 10 + seat);
            return this;
        }

        int net() {
            int h = 0;
            for (int x : n.holds) {
                h += x;
            }
            return taken - text.late * h / 60;
        }
    }

    // ------------------------------------------------------------------ state

    Text text = new Text();
    Now now = new Now();
    List<Now> before = new ArrayList<>();
    List<int[]> counted = new ArrayList<>();
    Now imageNow;
    List<Now> imageBefore;
    List<int[]> imageCounted;
    int[] status = new int[3];
    StringBuilder tape = new StringBuilder();
    int faultPlace = -1;
    private World stood;

    int stops() {
        return text.rides.size() + 1;
    }

    int riders() {
        return text.riders.size();
    }

    int seconds(int deck, int seat, int deck2, int seat2) {
        if (deck == deck2) {
            return text.step * Math.abs(seat - seat2);
        }
        return text.step * seat + text.stair + text.step * seat2;
    }

    World ridden() {
        if (stood == null) {
            stood = new World().ride();
        }
        return stood;
    }

    void stopMust(int s) {
        if (s < 0 || s >= stops()) {
            throw new NoSuchElementException();
        }
    }

    void riderMust(int r) {
        if (r < 0 || r >= riders()) {
            throw new NoSuchElementException();
        }
    }

    void whatMust(int w, int n) {
        if (w < 0 || w >= n) {
            throw new NoSuchElementException();
        }
    }

    void must(boolean so) {
        if (!so) {
            throw new IllegalArgumentException();
        }
    }

    int feed(int... numbers) {
        if (tape.length() + 20 > 700) {
            return -1;
        }
        for (int n : numbers) {
            tape.append((char) (n >>> 24)).append((char) (n >>> 16 & 255)).append((char) (n >>> 8 & 255)).append((char) (n & 255));
        }
        return tape.length();
    }

    /** As Check.feed does: with blanks up to twenty bytes. */
    void feedText(String t) {
        int bytes = (t.length() + 19) / 20 * 20;
        if (tape.length() + bytes <= 700) {
            tape.append(t).append(" ".repeat(bytes - t.length()));
        }
    }

    int fault() {
        return faultPlace;
    }

    int bus(int n) {
        must(n >= 0 && n <= tape.length());
        String t = tape.substring(0, n);
        tape.setLength(0);
        try {
            text = new Reading(t).read();
        } catch (Fault f) {
            faultPlace = f.place;
            status[0]++;
            return f.kind;
        }
        faultPlace = -1;
        now = new Now();
        for (Rider r : text.riders) {
            now.riders.add(r.copy());
        }
        before.clear();
        counted.clear();
        imageNow = null;
        stood = null;
        return 0;
    }

    int count(int what) {
        whatMust(what, 18);
        int bits = 0;
        for (int r : ridden().tings) {
            bits |= 1 << r;
        }
        int[] all = {stops(), riders(), text.picks.size(), now.rule, text.step, text.stair, text.take, text.late, text.fade,
            ridden().taken, ridden().net(), bits, before.size(), counted.size(), tape.length(), status[0], status[1], status[2]};
        return all[what];
    }

    int stop(int s, int what) {
        stopMust(s);
        whatMust(what, 4);
        World w = ridden();
        int there = 0;
        int on = 0;
        for (int r = 0; r < riders(); r++) {
            there |= w.there(r, w.at(s)) ? 1 << r : 0;
            on |= now.riders.get(r).from == s ? 1 << r : 0;
        }
        return new int[] {w.at(s), now.holds[s], there, on}[what];
    }

    int rider(int r, int what) {
        riderMust(r);
        whatMust(what, 7);
        Rider x = now.riders.get(r);
        return new int[] {x.from, x.to, x.deck, x.seat, x.note ? 1 : 0, x.tenths, ridden().fare(r)}[what];
    }

    int paid(int r, int what) {
        riderMust(r);
        whatMust(what, 3);
        World w = ridden();
        return new int[] {w.paidAt[r], w.missed[r] ? 1 : 0, w.nth[r]}[what];
    }

    int way(int a, int b) {
        riderMust(a);
        riderMust(b);
        Rider x = now.riders.get(a);
        Rider y = now.riders.get(b);
        return seconds(x.deck, x.seat, y.deck, y.seat);
    }

    int where(int second) {
        must(second >= 0 && second < ridden().where.size());
        return ridden().where.get(second);
    }

    void keep() {
        before.add(now.copy());
        if (before.size() > 40) {
            before.remove(0);
        }
        stood = null;
    }

    int hold(int s, int seconds) {
        stopMust(s);
        if (seconds < 0 || seconds > 60) {
            status[1]++;
            return -1;
        }
        keep();
        int old = now.holds[s];
        now.holds[s] = seconds;
        return old;
    }

    boolean free(int r, int deck, int seat) {
        for (int o = 0; o < riders(); o++) {
            Rider x = now.riders.get(o);
            if (o != r && x.deck == deck && x.seat == seat && x.meets(now.riders.get(r))) {
                return false;
            }
        }
        return true;
    }

    int sit(int r, int deck, int seat) {
        riderMust(r);
        if (deck < 0 || deck > 1 || seat < 0 || seat > 9 || !free(r, deck, seat)) {
            status[1]++;
            return -1;
        }
        keep();
        Rider x = now.riders.get(r);
        int old = x.deck * 10 + x.seat;
        x.deck = deck;
        x.seat = seat;
        return old;
    }

    boolean obey(int rule) {
        if (rule < -1 || rule >= text.picks.size()) {
            status[1]++;
            return false;
        }
        keep();
        now.rule = rule;
        return true;
    }

    int undo() {
        if (before.isEmpty()) {
            return -1;
        }
        now = before.remove(before.size() - 1).copy();
        stood = null;
        return before.size();
    }

    // Every order is walked; what it has taken by then is told for the set of those it took.
    private void orders(World w, int set, int second, int deck, int seat, int[] soonest) {
        if (second < soonest[set]) {
            soonest[set] = second;
        }
        for (int r = 0; r < riders(); r++) {
            if ((set >> r & 1) == 0) {
                Rider x = now.riders.get(r);
                int t = second + seconds(deck, seat, x.deck, x.seat);
                t = Math.max(t, w.at(x.from)) + w.takeOf(r);
                if (t <= w.at(x.to)) {
                    orders(w, set | 1 << r, t, x.deck, x.seat, soonest);
                }
            }
        }
    }

    private int[] soonestOfAll() {
        int[] soonest = new int[1 << riders()];
        java.util.Arrays.fill(soonest, Integer.MAX_VALUE);
        orders(ridden(), 0, 0, 0, 0, soonest);
        return soonest;
    }

    int most(int what) {
        whatMust(what, 2);
        if (riders() > 10) {
            return -2;
        }
        int[] soonest = soonestOfAll();
        int most = 0;
        int set = 0;
        for (int s = 0; s < soonest.length; s++) {
            int sum = 0;
            for (int r = 0; r < riders(); r++) {
                sum += (s >> r & 1) * ridden().fare(r);
            }
            if (soonest[s] != Integer.MAX_VALUE && sum > most) {
                most = sum;
                set = s;
            }
        }
        return what == 0 ? most : set;
    }

    int soonest(int set) {
        must(set >= 0 && set < 1 << riders());
        if (riders() > 10) {
            return -2;
        }
        int s = soonestOfAll()[set];
        return s == Integer.MAX_VALUE ? -1 : s;
    }

    int compare(int rule) {
        if (rule < -1 || rule >= text.picks.size()) {
            throw new NoSuchElementException();
        }
        World w = new World();
        w.rule = rule;
        return w.ride().net();
    }

    int best() {
        int best = -1;
        for (int r = 0; r < text.picks.size(); r++) {
            if (compare(r) > compare(best)) {
                best = r;
            }
        }
        return best;
    }

    int bell(int s, int what) {
        stopMust(s);
        whatMust(what, 2);
        int best = -1;
        int most = 0;
        for (int h = 0; h <= 60; h++) {
            World w = new World();
            w.n.holds[s] = h;
            int net = w.ride().net();
            if (best < 0 || net > most) {
                best = h;
                most = net;
            }
        }
        return what == 0 ? best : most;
    }

    int door(int what) {
        whatMust(what, 3);
        int waited = 0;
        int fares = 0;
        int holds = 0;
        for (int r = 0; r < riders(); r++) {
            waited += ridden().takeOf(r);
            fares += ridden().fare(r);
        }
        for (int h : now.holds) {
            holds += h;
        }
        int line = -1;
        for (int p = 0; p <= 99; p++) {
            if (fares - p * (waited + holds) / 60 >= ridden().taken - p * holds / 60) {
                line = p;
            }
        }
        return new int[] {fares - text.late * (waited + holds) / 60, waited, line}[what];
    }

    int two(int what) {
        whatMust(what, 2);
        int sum = 0;
        for (int d = 0; d < 2; d++) {
            World w = new World();
            w.onlyDeck = d;
            sum += w.ride().taken;
        }
        return what == 0 ? sum : sum - ridden().taken;
    }

    int flat() {
        for (int f = 0; f <= 99; f++) {
            World w = new World();
            w.flat = f;
            if (w.ride().taken >= ridden().taken) {
                return f;
            }
        }
        return -1;
    }

    int hops(int n) {
        must(n >= 0 && n <= 12);
        int sum = 0;
        for (int r = 0; r < riders(); r++) {
            Rider x = now.riders.get(r);
            if (ridden().paidAt[r] < 0 && x.to - x.from <= n) {
                sum += ridden().fare(r);
            }
        }
        return sum;
    }

    int again(int s) {
        stopMust(s);
        World w = ridden();
        int sum = 0;
        for (int r = 0; r < riders(); r++) {
            if (w.paidAt[r] >= 0 && w.paidAt[r] <= w.at(s) && w.there(r, w.at(s))) {
                sum += Math.min(100, text.fade * (s - w.stopAt(w.paidAt[r])));
            }
        }
        return sum;
    }

    int head(int s, int deck, int heads) {
        stopMust(s);
        if (counted.size() == 8 || deck < 0 || deck > 1 || heads < 0 || heads > 12) {
            status[2]++;
            return -1;
        }
        counted.add(new int[] {s, deck, heads});
        return counted.size();
    }

    void forget() {
        counted.clear();
    }

    int fits(int what) {
        whatMust(what, 3);
        List<Integer> fits = new ArrayList<>();
        for (int set = 0; set < 1 << riders(); set++) {
            boolean ok = true;
            for (int[] c : counted) {
                int heads = 0;
                for (int r = 0; r < riders(); r++) {
                    Rider x = now.riders.get(r);
                    int deck = (set >> r & 1) == 1 ? 1 - x.deck : x.deck;
                    heads += x.from <= c[0] && c[0] < x.to && deck == c[1] ? 1 : 0;
                }
                ok &= heads == c[2];
            }
            if (ok) {
                fits.add(set);
            }
        }
        if (what == 0) {
            return fits.size();
        }
        if (what == 1) {
            return fits.isEmpty() ? -1 : fits.get(0);
        }
        int all = fits.isEmpty() ? 0 : -1;
        for (int f : fits) {
            all &= f;
        }
        return all;
    }

    private int gain(int s, int rider, int his, int riders, boolean ofRider) {
        World w = ridden();
        int sum = 0;
        for (int r = 0; r < riders(); r++) {
            if (r != rider && w.there(r, w.at(s)) && now.riders.get(r).deck == his) {
                sum += w.fare(r);
            }
        }
        int fare = his == riders ? w.fare(rider) : 0;
        return ofRider ? -fare : sum + fare;
    }

    int game(int s, int rider, int what) {
        stopMust(s);
        riderMust(rider);
        whatMust(what, 2);
        must(ridden().there(rider, ridden().at(s)));
        List<Integer> rest = new ArrayList<>();
        for (int d = 0; d < 2; d++) {
            for (int r = 0; r < 2; r++) {
                if (gain(s, rider, d, r, false) >= gain(s, rider, 1 - d, r, false)
                        && gain(s, rider, d, r, true) >= gain(s, rider, d, 1 - r, true)) {
                    rest.add(10 * d + r);
                }
            }
        }
        return what == 0 ? rest.size() : rest.isEmpty() ? -1 : rest.get(0);
    }

    int week(int seed, int days, int what) {
        whatMust(what, 3);
        must(days >= 0 && days <= 60);
        List<Integer> all = new ArrayList<>();
        for (int d = 0; d < days; d++) {
            World w = new World();
            for (int r = 0; r < riders(); r++) {
                int tenths = now.riders.get(r).tenths;
                if (tenths != 10) {
                    seed = (int) (seed * 1103515245L + 12345L);
                    w.absent[r] = (seed & 0x7fffffff) / 65536 % 10 >= tenths;
                }
            }
            all.add(w.ride().taken);
        }
        if (what == 0) {
            return all.stream().mapToInt(i -> i).sum();
        }
        return what == 1 ? all.stream().mapToInt(i -> i).max().orElse(0) : all.stream().mapToInt(i -> i).min().orElse(0);
    }

    int walk(int what) {
        whatMust(what, 6);
        World w = ridden();
        int last = 0;
        int above = 0;
        for (int r : w.tings) {
            last = w.paidAt[r];
            above += now.riders.get(r).deck;
        }
        return new int[] {w.stairs, w.waits, w.goes, w.takes, last, above}[what];
    }

    int ting(int i) {
        if (i < 0 || i >= ridden().tings.size()) {
            throw new NoSuchElementException();
        }
        return ridden().tings.get(i);
    }

    int dodge(int r, int what) {
        riderMust(r);
        whatMust(what, 2);
        List<Integer> seats = new ArrayList<>();
        for (int p = 0; p < 20; p++) {
            World w = new World();
            w.n.riders.get(r).deck = p / 10;
            w.n.riders.get(r).seat = p % 10;
            if (free(r, p / 10, p % 10) && w.ride().paidAt[r] < 0) {
                seats.add(p);
            }
        }
        return what == 0 ? seats.size() : seats.isEmpty() ? -1 : seats.get(0);
    }

    int worth(int r) {
        riderMust(r);
        World w = new World();
        w.absent[r] = true;
        return ridden().taken - w.ride().taken;
    }

    int pace() {
        int pace = -1;
        for (int t = 1; t <= 60; t++) {
            World w = new World();
            w.take = t;
            if (w.ride().taken >= ridden().taken) {
                pace = t;
            }
        }
        return pace;
    }

    /** Upper parts of each rider's chance and of the mean (the last), all over 10 to the 12th. */
    private BigInteger[] chances() {
        BigInteger[] sums = new BigInteger[13];
        java.util.Arrays.fill(sums, BigInteger.ZERO);
        int[] tenths = new int[12];
        int chancy = 0;
        for (int r = 0; r < riders(); r++) {
            tenths[r] = now.riders.get(r).tenths;
            if (tenths[r] > 0 && tenths[r] < 10 && ++chancy > 8) {
                tenths[r] = 10;
            }
        }
        for (int set = 0; set < 1 << riders(); set++) {
            BigInteger weight = BigInteger.TEN.pow(12 - riders());
            World w = new World();
            for (int r = 0; r < riders(); r++) {
                boolean comes = (set >> r & 1) == 1;
                weight = weight.multiply(BigInteger.valueOf(comes ? tenths[r] : 10 - tenths[r]));
                w.absent[r] = !comes;
            }
            if (weight.signum() == 0) {
                continue;
            }
            w.ride();
            for (int r : w.tings) {
                sums[r] = sums[r].add(weight);
            }
            sums[12] = sums[12].add(weight.multiply(BigInteger.valueOf(w.taken)));
        }
        return sums;
    }

    private static long part(BigInteger upper, int what) {
        BigInteger lower = BigInteger.TEN.pow(12);
        BigInteger g = upper.gcd(lower);
        return (what == 0 ? upper : lower).divide(g).longValueExact();
    }

    long likely(int r, int what) {
        riderMust(r);
        whatMust(what, 2);
        return part(chances()[r], what);
    }

    long mean(int what) {
        whatMust(what, 2);
        return part(chances()[12], what);
    }

    void image() {
        imageNow = now.copy();
        imageBefore = new ArrayList<>(before);
        imageCounted = new ArrayList<>(counted);
    }

    boolean restore() {
        if (imageNow == null) {
            return false;
        }
        now = imageNow.copy();
        before = new ArrayList<>();
        for (Now b : imageBefore) {
            before.add(b.copy());
        }
        counted = new ArrayList<>(imageCounted);
        stood = null;
        return true;
    }
}
