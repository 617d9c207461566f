import java.util.ArrayList;
import java.util.Collections;
import java.util.List;
import java.util.Random;

/** Texts of buses by a seed, good ones and spoilt ones. */
final class Texts {
    private static final String[] VALUES = {"hops", "deck", "seat", "note", "near", "left", "new", "fare"};
    private static final String[] PIECES = {"ride", "rider", "step", "stair", "take", "late", "fade", "fare", "picks",
        "below", "above", "note", "maybe", "not", "and", "or", "hops", "near", "left", "new", "deck", "seat", "goose",
        "0", "1", "2", "9", "10", "11", "12", "60", "61", "99", "100", "300", "301", "9999", "10000", "00001", "0001",
        ";", "(", ")", "+", "-", "*", "/", "<", "=", "?", "A", "\t", "\n", " ", "", "\u00e9", "\u0000", "((((((", "not not not not not not not"};
    private final Random random;

    Texts(Random random) {
        this.random = random;
    }

    private int below(int n) {
        return random.nextInt(n);
    }

    private boolean chance(int percent) {
        return below(100) < percent;
    }

    String good(int ridersMost) {
        for (int i = 0; i < 1000; i++) {
            String text = tryGood(below(ridersMost + 1));
            if (text.length() <= 700) {
                return text;
            }
        }
        return "";
    }

    private String tryGood(int riders) {
        int stops = 2;
        // Few seconds for all: then he often comes just in time, or in a stop's very second.
        boolean tight = chance(30);
        StringBuilder head = new StringBuilder();
        if (chance(90)) {
            int rides = 1 + below(11);
            int most = tight ? 8 : chance(15) ? 300 : chance(50) ? 20 : 60;
            stops = rides + 1;
            head.append("ride");
            for (int i = 0; i < rides; i++) {
                head.append(' ').append(1 + below(most));
            }
            head.append(";");
        }
        List<String> lines = new ArrayList<>();
        List<int[]> sat = new ArrayList<>();
        boolean crowded = chance(50);
        for (int i = 0; i < riders; i++) {
            riderLine(lines, sat, stops, crowded);
        }
        if (chance(50)) {
            lines.add("step " + below(tight ? 2 : 10));
        }
        if (tight || chance(50)) {
            lines.add("stair " + (tight ? below(4) : chance(50) ? below(20) : below(100)));
        }
        if (tight || chance(50)) {
            lines.add("take " + (1 + (tight ? below(3) : chance(80) ? below(10) : below(60))));
        }
        if (chance(50)) {
            lines.add("late " + below(100));
        }
        if (chance(50)) {
            lines.add("fade " + below(51));
        }
        if (chance(50)) {
            lines.add("fare " + expr(true, 0));
        }
        for (int i = below(5); i > 0; i--) {
            lines.add("picks " + expr(false, 0));
        }
        if (chance(50)) {
            Collections.shuffle(lines, random);
        }
        for (String line : lines) {
            head.append(line).append(chance(20) ? " ;\n" : ";");
        }
        return head.toString();
    }

    private void riderLine(List<String> lines, List<int[]> sat, int stops, boolean crowded) {
        int from = below(stops - 1);
        int to = from + 1 + below(stops - 1 - from);
        for (int tries = 0; tries < 40; tries++) {
            int place = crowded ? below(2) * 10 + below(4) : below(20);
            boolean free = true;
            for (int[] s : sat) {
                free &= s[2] != place || s[0] >= to || from >= s[1];
            }
            if (free) {
                sat.add(new int[] {from, to, place});
                lines.add("rider " + from + " " + to + (place < 10 ? " below " : " above ") + place % 10
                        + (chance(25) ? " note" : "") + (chance(40) ? " maybe " + below(11) : ""));
                return;
            }
        }
    }

    private String expr(boolean forFare, int depth) {
        StringBuilder s = new StringBuilder();
        int ands = chance(80) ? 1 : 2;
        for (int i = 0; i < ands; i++) {
            s.append(i > 0 ? (chance(50) ? " or " : " and ") : "");
            for (int nots = chance(85) ? 0 : below(7); nots > 0; nots--) {
                s.append("not ");
            }
            s.append(sum(forFare, depth));
            if (chance(20)) {
                s.append(chance(70) ? "<" : "=").append(sum(forFare, depth));
            }
        }
        return s.toString();
    }

    private String sum(boolean forFare, int depth) {
        StringBuilder s = new StringBuilder(part(forFare, depth));
        for (int i = chance(40) ? 0 : below(4); i > 0; i--) {
            s.append("+-*/".charAt(below(4))).append(part(forFare, depth));
        }
        return s.toString();
    }

    private String part(boolean forFare, int depth) {
        if (depth < 5 && chance(12)) {
            return "(" + expr(forFare, depth + 1) + ")";
        }
        if (chance(60)) {
            return VALUES[below(forFare ? 4 : 8)];
        }
        return Integer.toString(chance(70) ? below(12) : below(10000));
    }

    String spoilt() {
        String text = good(12);
        for (int times = 1 + below(2); times > 0; times--) {
            text = spoil(text);
        }
        return text.length() > 700 ? text.substring(0, 700) : text;
    }

    private String spoil(String text) {
        int at = below(text.length() + 1);
        String piece = PIECES[below(PIECES.length)];
        switch (below(5)) {
            case 0: return text.substring(0, at);
            case 1: return text.substring(0, at) + piece + text.substring(at);
            case 2: return text.substring(0, at) + text.substring(Math.min(text.length(), at + 1 + below(3)));
            case 3: return replaceToken(text, at, piece);
            default: return repeatLine(text);
        }
    }

    private String replaceToken(String text, int at, String piece) {
        int from = at;
        while (from > 0 && Character.isLetterOrDigit(text.charAt(from - 1))) {
            from--;
        }
        int to = at;
        while (to < text.length() && Character.isLetterOrDigit(text.charAt(to))) {
            to++;
        }
        return text.substring(0, from) + piece + text.substring(to);
    }

    private String repeatLine(String text) {
        String[] lines = text.split(";");
        String line = lines.length == 0 ? "" : lines[below(lines.length)];
        return chance(50) ? text + line + ";" : line + ";" + text;
    }
}
