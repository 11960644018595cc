import java.math.BigInteger;
import java.util.ArrayList;
import java.util.Arrays;
import java.util.Collections;
import java.util.List;
import java.util.Random;

/**
 * Long runs of drawn calls, each answer held against a second, slow reading of the document:
 * STOOD by walking back, clouds by odds over every sky, best choices by trying all.
 */
public final class OracleTests {
    private static final int BAD = -1, STATE = -2, FULL = -3, NONE = -4;
    private static final int RUNS = 1500;
    private static final int CALLS = 511;
    private static final String[] KINDS = {"upright", "stooped", "tired", "lover"};

    private static int wrong = 0;

    /** What is told: changed by no one but its owner, copied where something is tried. */
    private static final class Told {
        List<int[]> men = new ArrayList<>();
        Integer[] rota = new Integer[12];
        boolean[] clouds = new boolean[12];
        int paint = 3;
        List<int[]> deeds = new ArrayList<>();

        Told copy() {
            Told t = new Told();
            for (int[] m : men) t.men.add(m.clone());
            t.rota = rota.clone();
            t.clouds = clouds.clone();
            t.paint = paint;
            for (int[] d : deeds) t.deeds.add(d.clone());
            return t;
        }

        int stood(int quarter) {
            Integer who = rota[quarter / 4];
            int ago = 0;
            while (quarter - ago - 1 >= 0 && who.equals(rota[(quarter - ago - 1) / 4])) ago++;
            return ago;
        }

        Integer reads(int quarter) {
            int hour = quarter / 4;
            if (clouds[hour] || rota[hour] == null) return null;
            int[] m = men.get(rota[hour]);
            int upright = 0, stooped = upright - 1;
            int slip = switch (m[0]) {
                case 0 -> upright;
                case 1 -> stooped;
                case 2 -> stooped - stood(quarter) / 8;
                default -> upright + (hour % 2 == 0 ? 1 : -1);
            };
            int value = quarter + slip + m[1] + paint - 6;
            return value < 0 ? 0 : value > 47 ? 47 : value;
        }

        int doneIn(int i) {
            for (int q = 0; q < 48; q++) {
                Integer r = reads(q);
                if (r != null && r >= deeds.get(i)[0]) return q;
            }
            return NONE;
        }

        int harm(int i) {
            int q = doneIn(i);
            int[] d = deeds.get(i);
            return q == NONE ? d[1] * 48 : d[1] * Math.abs(d[0] - q);
        }

        int harm() {
            int sum = 0;
            for (int i = 0; i < deeds.size(); i++) sum += harm(i);
            return sum;
        }

        int standing() {
            int bits = 0;
            for (int h = 0; h < 12; h++) if (rota[h] != null) bits |= 1 << h;
            return bits;
        }
    }

    private static final class Fault extends RuntimeException {
        private static final long serialVersionUID = 1L;
        final int fault, place;

        Fault(int fault, int place) {
            super(null, null, false, false);
            this.fault = fault;
            this.place = place;
        }
    }

    /** Reads a text by cutting TOKENS from its front. */
    private static final class Cutter {
        final String text;
        int at = 0;
        String token;
        int place;

        Cutter(String text) { this.text = text; }

        void cut() {
            while (text.startsWith(" ", at)) at++;
            place = at;
            if (at == text.length()) { token = ""; return; }
            String rest = text.substring(at);
            String name = rest.replaceFirst("(?s)[^a-z].*", "");
            String figures = rest.replaceFirst("(?s)[^0-9].*", "");
            if (!name.isEmpty()) token = name;
            else if (figures.length() == 1 || figures.length() == 2) token = figures;
            else if (figures.isEmpty() && rest.startsWith(";")) token = ";";
            else throw new Fault(1, place);
            at += token.length();
        }

        boolean isNumber() { return !token.isEmpty() && Character.isDigit(token.charAt(0)); }

        int number(int lo, int hi) {
            cut();
            return bounded(lo, hi);
        }

        int bounded(int lo, int hi) {
            if (!isNumber()) throw new Fault(2, place);
            int v = Integer.parseInt(token);
            if (v < lo || v > hi) throw new Fault(3, place);
            return v;
        }

        void stop() {
            cut();
            if (!token.equals(";")) throw new Fault(2, place);
        }
    }

    private static Told parse(String text, int[] lines) {
        Told t = new Told();
        boolean rota = false, paint = false;
        Cutter c = new Cutter(text);
        for (c.cut(); !c.token.isEmpty(); c.cut()) {
            lines[0]++;
            int kind = Arrays.asList(KINDS).indexOf(c.token);
            if (kind >= 0) {
                if (t.men.size() == 4) throw new Fault(5, c.place);
                t.men.add(new int[] {kind, c.number(0, 6)});
                c.stop();
            } else if (c.token.equals("rota")) {
                if (rota) throw new Fault(4, c.place);
                rota = true;
                int n = 0;
                for (c.cut(); !c.token.equals(";"); c.cut()) {
                    if (n == 12) throw new Fault(c.token.isEmpty() ? 2 : 5, c.place);
                    int v = c.bounded(0, 4);
                    t.rota[n++] = v == 4 ? null : Integer.valueOf(v);
                }
            } else if (c.token.equals("cloud")) {
                int h = c.number(0, 11);
                if (t.clouds[h]) throw new Fault(4, c.place);
                t.clouds[h] = true;
                c.stop();
            } else if (c.token.equals("paint")) {
                if (paint) throw new Fault(4, c.place);
                paint = true;
                t.paint = c.number(0, 6);
                c.stop();
            } else if (c.token.equals("deed")) {
                if (t.deeds.size() == 5) throw new Fault(5, c.place);
                int due = c.number(0, 47);
                t.deeds.add(new int[] {due, c.number(1, 9)});
                c.stop();
            } else {
                throw new Fault(2, c.place);
            }
        }
        for (Integer who : t.rota) if (who != null && who >= t.men.size()) throw new Fault(6, text.length());
        return t;
    }

    /** The document's calls, by number in the order of the face. */
    private static final class Oracle {
        Told t = new Told();
        StringBuilder tape = new StringBuilder();
        int fault = 0, torn = 0;
        List<int[]> seen = new ArrayList<>();
        Told[] images = new Told[2];
        int[] lanes = {-1, -1, -1, -1};
        int[][] cells = new int[4][];

        static boolean in(int v, int lo, int hi) { return v >= lo && v <= hi; }

        boolean man(int m) { return in(m, 0, t.men.size() - 1); }

        boolean deed(int i) { return in(i, 0, t.deeds.size() - 1); }

        long call(int method, int a, int b, int c, int d) {
            switch (method) {
                case 0: return feed(a);
                case 1: return end(a);
                case 2: return text();
                case 3: return fault;
                case 4: return rule(a);
                case 5: return man(a, b);
                case 6: return !in(a, 0, 11) ? BAD : t.rota[a] == null ? NONE : t.rota[a];
                case 7: return deed(a, b);
                case 8: return alter(a, b, c);
                case 9: return move(a, b, c);
                case 10: return shift(a, b);
                case 11: return cloud(a, b != 0);
                case 12: return paint(a);
                case 13: return want(a, b);
                case 14: return drop(a);
                case 15: return !in(a, 0, 47) ? BAD : t.reads(a) == null ? NONE : t.reads(a);
                case 16: return lost(a);
                case 17: return worst(a);
                case 18: return done(a);
                case 19: return lean(a, b, c);
                case 20: return mark(a);
                case 21: return give(a);
                case 22: return swap(a);
                case 23: return sole(a);
                case 24: return mean(a, b);
                case 25: return luck(a, b, c);
                case 26: return see(a, b);
                case 27: return forget(a);
                case 28: return man(a) ? leans(a) : BAD;
                case 29: return kinds(a);
                case 30: return ask(a, b);
                case 31: return drift(a, b, c);
                case 32: return keep(a);
                case 33: return back(a);
                case 34: return sheet(a, b, c);
                case 35: return lay(a, b, c);
                case 36: return read(a, b, c, d);
                case 37: return torn;
                default: return count(a);
            }
        }

        long feed(int c) {
            if (!in(c, 0, 127)) return BAD;
            if (tape.length() == 160) return FULL;
            return tape.append((char) c).length();
        }

        long end(int n) {
            int had = tape.length();
            if (!in(n, 0, had)) return BAD;
            tape.setLength(n);
            return had;
        }

        long text() {
            String s = tape.toString();
            tape.setLength(0);
            int[] lines = {0};
            try {
                t = parse(s, lines);
            } catch (Fault f) {
                fault = f.fault;
                return -10 - f.place;
            }
            fault = 0;
            seen.clear();
            images = new Told[2];
            return lines[0];
        }

        int bits(boolean[] of) {
            int bits = 0;
            for (int i = 0; i < of.length; i++) if (of[i]) bits |= 1 << i;
            return bits;
        }

        long rule(int what) {
            int[] all = {t.men.size(), t.deeds.size(), t.paint, bits(t.clouds), t.standing(), t.harm()};
            return in(what, 0, 5) ? all[what] : BAD;
        }

        long man(int m, int what) {
            if (!man(m) || !in(what, 0, 3)) return BAD;
            if (what < 2) return t.men.get(m)[what];
            int hours = 0, most = NONE;
            for (int q = 0; q < 48; q++) {
                if (t.rota[q / 4] == null || t.rota[q / 4] != m) continue;
                hours |= 1 << q / 4;
                most = Math.max(most, t.stood(q));
            }
            return what == 2 ? hours : most;
        }

        long deed(int i, int what) {
            if (!deed(i) || !in(what, 0, 3)) return BAD;
            if (what < 2) return t.deeds.get(i)[what];
            return what == 2 ? t.doneIn(i) : t.harm(i);
        }

        long alter(int m, int what, int v) {
            if (!man(m) || !in(what, 0, 1) || !in(v, 0, what == 0 ? 3 : 6)) return BAD;
            int was = t.men.get(m)[what];
            t.men.get(m)[what] = v;
            return was;
        }

        long move(int i, int what, int v) {
            if (!deed(i) || !in(what, 0, 1) || !in(v, what, what == 0 ? 47 : 9)) return BAD;
            int was = t.deeds.get(i)[what];
            t.deeds.get(i)[what] = v;
            return was;
        }

        long shift(int hour, int m) {
            if (!in(hour, 0, 11) || !man(m) && m != NONE) return BAD;
            Integer was = t.rota[hour];
            t.rota[hour] = m == NONE ? null : Integer.valueOf(m);
            return was == null ? NONE : was;
        }

        long cloud(int hour, boolean is) {
            if (!in(hour, 0, 11)) return BAD;
            boolean was = t.clouds[hour];
            t.clouds[hour] = is;
            return was ? 1 : 0;
        }

        long paint(int v) {
            if (!in(v, 0, 6)) return BAD;
            int was = t.paint;
            t.paint = v;
            return was;
        }

        long want(int due, int worth) {
            if (!in(due, 0, 47) || !in(worth, 1, 9)) return BAD;
            if (t.deeds.size() == 5) return FULL;
            t.deeds.add(new int[] {due, worth});
            return t.deeds.size();
        }

        long drop(int n) {
            int had = t.deeds.size();
            if (!in(n, 0, had)) return BAD;
            t.deeds = new ArrayList<>(t.deeds.subList(0, n));
            return had;
        }

        List<Integer> quartersRead() {
            List<Integer> all = new ArrayList<>();
            for (int q = 0; q < 48; q++) if (t.reads(q) != null) all.add(q);
            return all;
        }

        long lost(int what) {
            if (!in(what, 0, 1)) return BAD;
            List<Integer> all = quartersRead(), back = new ArrayList<>();
            for (int j = 1; j < all.size(); j++) {
                if (t.reads(all.get(j)) < t.reads(all.get(j - 1))) back.add(all.get(j));
            }
            return what == 0 ? back.size() : back.isEmpty() ? NONE : back.get(0);
        }

        long worst(int what) {
            if (!in(what, 0, 1)) return BAD;
            for (int off = 47; off >= 0; off--) {
                for (int q : quartersRead()) {
                    if (Math.abs(t.reads(q) - q) == off) return what == 0 ? off : q;
                }
            }
            return NONE;
        }

        long done(int what) {
            if (!in(what, 0, 3)) return BAD;
            int bits = 0;
            for (int i = 0; i < t.deeds.size(); i++) {
                int q = t.doneIn(i), due = t.deeds.get(i)[0];
                boolean[] is = {q != NONE && q < due, q == due, q > due, q == NONE};
                if (is[what]) bits |= 1 << i;
            }
            return bits;
        }

        Told withLean(int m, int lean) {
            Told s = t.copy();
            s.men.get(m)[1] = lean;
            return s;
        }

        long lean(int m, int i, int quarter) {
            if (!man(m) || !deed(i) || !in(quarter, 0, 47)) return BAD;
            int best = NONE;
            for (int lean = 0; lean <= 6; lean++) {
                int q = withLean(m, lean).doneIn(i);
                if (q == NONE || q > quarter) continue;
                if (best == NONE || Math.abs(lean - 3) < Math.abs(best - 3)) best = lean;
            }
            return best;
        }

        long mark(int what) {
            if (!in(what, 0, 1)) return BAD;
            int[] harms = new int[7];
            for (int v = 0; v <= 6; v++) {
                Told s = t.copy();
                s.paint = v;
                harms[v] = s.harm();
            }
            int least = Arrays.stream(harms).min().getAsInt();
            for (int v = 0; v <= 6; v++) if (harms[v] == least) return what == 0 ? v : least;
            return NONE;
        }

        /** Rows of code and harm: of those with least harm below the bound the least code. */
        static long best(List<int[]> rows, int below, int what) {
            int[] best = null;
            for (int[] r : rows) {
                if (r[1] >= below) continue;
                if (best == null || r[1] < best[1] || r[1] == best[1] && r[0] < best[0]) best = r;
            }
            return best == null ? NONE : best[what];
        }

        long give(int what) {
            if (!in(what, 0, 1)) return BAD;
            List<int[]> rows = new ArrayList<>();
            for (int m = 0; m < t.men.size(); m++) {
                for (int h = 0; h < 12; h++) {
                    Told s = t.copy();
                    s.rota[h] = m;
                    rows.add(new int[] {10 * h + m, s.harm()});
                }
            }
            return best(rows, t.harm(), what);
        }

        long swap(int what) {
            if (!in(what, 0, 1)) return BAD;
            List<int[]> rows = new ArrayList<>();
            for (int g = 11; g >= 0; g--) {
                for (int l = 0; l < g; l++) {
                    Told s = t.copy();
                    s.rota[l] = t.rota[g];
                    s.rota[g] = t.rota[l];
                    rows.add(new int[] {100 * l + g, s.harm()});
                }
            }
            return best(rows, t.harm(), what);
        }

        long sole(int what) {
            if (!in(what, 0, 1)) return BAD;
            List<int[]> rows = new ArrayList<>();
            for (int m = 0; m < t.men.size(); m++) {
                Told s = t.copy();
                Arrays.fill(s.rota, m);
                rows.add(new int[] {m, s.harm()});
            }
            return best(rows, Integer.MAX_VALUE, what);
        }

        static long part(BigInteger over, BigInteger under, int what) {
            BigInteger g = over.gcd(under);
            return (what == 0 ? over : under).divide(g).longValueExact();
        }

        /** Over every sky that may come: its weight times HARM of all, or whether a DEED is DONE. */
        BigInteger[] overSkies(int v, int deed) {
            List<Integer> open = new ArrayList<>();
            for (int h = 0; h < 12; h++) if (!t.clouds[h] && t.rota[h] != null) open.add(h);
            BigInteger sum = BigInteger.ZERO;
            for (int sky = 0; sky < 1 << open.size(); sky++) {
                Told s = t.copy();
                BigInteger weight = BigInteger.ONE;
                for (int j = 0; j < open.size(); j++) {
                    boolean comes = (sky >> j & 1) == 1;
                    if (comes) s.clouds[open.get(j)] = true;
                    weight = weight.multiply(BigInteger.valueOf(comes ? v : 10 - v));
                }
                if (weight.signum() == 0) continue;
                long worth = deed < 0 ? s.harm() : s.doneIn(deed) == NONE ? 0 : 1;
                sum = sum.add(weight.multiply(BigInteger.valueOf(worth)));
            }
            return new BigInteger[] {sum, BigInteger.TEN.pow(open.size())};
        }

        long mean(int v, int what) {
            if (!in(v, 0, 10) || !in(what, 0, 1)) return BAD;
            BigInteger[] f = overSkies(v, -1);
            return part(f[0], f[1], what);
        }

        long luck(int v, int i, int what) {
            if (!in(v, 0, 10) || !deed(i) || !in(what, 0, 1)) return BAD;
            BigInteger[] f = overSkies(v, i);
            return part(f[0], f[1], what);
        }

        long see(int i, int quarter) {
            if (!deed(i) || !in(quarter, 0, 47) && quarter != NONE) return BAD;
            if (seen.size() == 6) return FULL;
            seen.add(new int[] {i, quarter});
            return seen.size();
        }

        long forget(int n) {
            int had = seen.size();
            if (!in(n, 0, had)) return BAD;
            seen = new ArrayList<>(seen.subList(0, n));
            return had;
        }

        boolean asSeen(Told s) {
            for (int[] one : seen) {
                if (one[0] >= s.deeds.size() || s.doneIn(one[0]) != one[1]) return false;
            }
            return true;
        }

        int leans(int m) {
            int bits = 0;
            for (int lean = 0; lean <= 6; lean++) if (asSeen(withLean(m, lean))) bits |= 1 << lean;
            return bits;
        }

        long kinds(int m) {
            if (!man(m)) return BAD;
            int bits = 0;
            for (int kind = 0; kind <= 3; kind++) {
                Told s = t.copy();
                s.men.get(m)[0] = kind;
                if (asSeen(s)) bits |= 1 << kind;
            }
            return bits;
        }

        long ask(int m, int what) {
            if (!man(m) || !in(what, 0, 1)) return BAD;
            int now = leans(m);
            List<int[]> rows = new ArrayList<>();
            for (int i = 0; i < t.deeds.size(); i++) {
                int[] left = new int[49];
                for (int lean = 0; lean <= 6; lean++) {
                    if ((now >> lean & 1) == 0) continue;
                    int q = withLean(m, lean).doneIn(i);
                    left[q == NONE ? 48 : q]++;
                }
                rows.add(new int[] {i, Arrays.stream(left).max().getAsInt()});
            }
            return best(rows, Integer.bitCount(now), what);
        }

        long drift(int seed, int n, int what) {
            if (!in(n, 1, 40) || !in(what, 0, 1)) return BAD;
            if (t.men.isEmpty()) return STATE;
            Told s = t.copy();
            BigInteger x = BigInteger.valueOf(seed);
            int sum = 0;
            for (int j = 0; j < n; j++) {
                int[] drawn = new int[2];
                for (int r = 0; r < 2; r++) {
                    x = x.multiply(BigInteger.valueOf(1103515245)).add(BigInteger.valueOf(12345));
                    x = x.mod(BigInteger.TWO.pow(32));
                    drawn[r] = x.mod(BigInteger.TWO.pow(31)).shiftRight(16).intValue();
                }
                int who = drawn[1] % (t.men.size() + 1);
                s.rota[drawn[0] % 12] = who == t.men.size() ? null : Integer.valueOf(who);
                sum += s.harm();
            }
            return what == 0 ? sum : s.standing();
        }

        long keep(int k) {
            if (!in(k, 0, 1)) return BAD;
            boolean was = images[k] != null;
            images[k] = t.copy();
            return was ? 1 : 0;
        }

        long back(int k) {
            if (!in(k, 0, 1)) return BAD;
            if (images[k] == null) return STATE;
            t = images[k].copy();
            return t.harm();
        }

        long sheet(int k, int lane, int n) {
            if (!in(k, 0, 3) || !in(lane, 0, 2) || n > 40) return BAD;
            if (n < 0) return -14;
            lanes[k] = lane;
            cells[k] = new int[n];
            return 1;
        }

        long lay(int k, int i, int v) {
            if (!in(k, 0, 3)) return BAD;
            if (cells[k] == null) return -11;
            if (!in(i, 0, cells[k].length - 1)) return -12;
            cells[k][i] = lanes[k] == 0 ? (byte) v : lanes[k] == 1 ? (short) v : v;
            return 1;
        }

        long read(int k, int lane, int f, int n) {
            if (!in(k, 0, 3) || !in(lane, 0, 2) || !in(n, 0, 20)) return BAD;
            Told s = t.copy();
            int found = 0, came = 0;
            for (int j = 0; j < n; j++) {
                long at = (long) f + 2L * j;
                if (cells[k] == null) { found = 1; break; }
                if (lanes[k] != lane) { found = 3; break; }
                if (at < 0 || at + 1 >= cells[k].length) { found = 2; break; }
                int hour = cells[k][(int) at], m = cells[k][(int) at + 1];
                if (!in(hour, 0, 11) || !man(m) && m != NONE) return -20 - j;
                s.rota[hour] = m == NONE ? null : Integer.valueOf(m);
                came++;
            }
            t = s;
            torn = found;
            return came;
        }

        long count(int what) {
            int worth = t.deeds.stream().mapToInt(d -> d[1]).sum();
            int kept = (images[0] == null ? 0 : 1) + (images[1] == null ? 0 : 1);
            int[] all = {seen.size(), kept, tape.length(), cells[0] == null ? NONE : cells[0].length,
                worth, quartersRead().size()};
            return in(what, 0, 5) ? all[what] : BAD;
        }
    }

    private static long real(SunPointer x, int method, int a, int b, int c, int d) {
        switch (method) {
            case 0: return x.feed(a);
            case 1: return x.end(a);
            case 2: return x.text();
            case 3: return x.fault();
            case 4: return x.rule(a);
            case 5: return x.man(a, b);
            case 6: return x.rota(a);
            case 7: return x.deed(a, b);
            case 8: return x.alter(a, b, c);
            case 9: return x.move(a, b, c);
            case 10: return x.shift(a, b);
            case 11: return x.cloud(a, b != 0);
            case 12: return x.paint(a);
            case 13: return x.want(a, b);
            case 14: return x.drop(a);
            case 15: return x.shows(a);
            case 16: return x.lost(a);
            case 17: return x.worst(a);
            case 18: return x.done(a);
            case 19: return x.lean(a, b, c);
            case 20: return x.mark(a);
            case 21: return x.give(a);
            case 22: return x.swap(a);
            case 23: return x.sole(a);
            case 24: return x.mean(a, b);
            case 25: return x.luck(a, b, c);
            case 26: return x.see(a, b);
            case 27: return x.forget(a);
            case 28: return x.leans(a);
            case 29: return x.kinds(a);
            case 30: return x.ask(a, b);
            case 31: return x.drift(a, b, c);
            case 32: return x.keep(a);
            case 33: return x.back(a);
            case 34: return x.sheet(a, b, c);
            case 35: return x.lay(a, b, c);
            case 36: return x.read(a, b, c, d);
            case 37: return x.torn();
            default: return x.count(a);
        }
    }

    /** What each argument of each call is drawn from: 0 to the number less 1, or near it. */
    private static final int[][] RANGES = {
        {128}, {161}, {}, {}, {6}, {4, 4}, {12}, {5, 4}, {4, 2, 7}, {5, 2, 48}, {12, 4}, {12, 2}, {7},
        {48, 10}, {6}, {48}, {2}, {2}, {4}, {4, 5, 48}, {2}, {2}, {2}, {2}, {11, 2}, {11, 5, 2},
        {5, 48}, {7}, {4}, {4}, {4, 2}, {0, 41, 2}, {2}, {2}, {4, 3, 41}, {4, 40, 12}, {4, 3, 12, 21},
        {}, {6}};
    private static final int METHODS = RANGES.length;
    /** Calls that try every sky cost the oracle too much to be drawn as often as others. */
    private static final int DEAR = 24, ALSO_DEAR = 25;

    private static final class Run {
        final Random random;
        final SunPointer x = new SunPointer();
        final Oracle oracle = new Oracle();
        final int number;
        int calls = 0;
        int[] met;

        Run(int number, int[] met) {
            this.number = number;
            this.random = new Random(number);
            this.met = met;
        }

        void call(int method, int a, int b, int c, int d) {
            if (calls++ >= CALLS) return;
            long want = oracle.call(method, a, b, c, d);
            long got = real(x, method, a, b, c, d);
            if (want >= 0) met[method]++;
            if (got != want && wrong++ < 20) {
                System.out.println("run " + number + ", call " + calls + ": method " + method + "(" + a + ", "
                        + b + ", " + c + ", " + d + ") answered " + got + ", due is " + want);
            }
        }

        int draw(int bound) {
            int way = random.nextInt(40);
            if (bound == 0 || way == 0) return random.nextInt();
            if (way == 1) return bound;
            if (way == 2) return -1;
            if (way == 3) return NONE;
            return random.nextInt(bound);
        }

        void drawnCall() {
            int method = random.nextInt(METHODS);
            if ((method == DEAR || method == ALSO_DEAR) && random.nextInt(8) != 0) return;
            if (method <= 2 && random.nextInt(4) != 0) return;
            int[] args = new int[4];
            for (int j = 0; j < RANGES[method].length; j++) args[j] = draw(RANGES[method][j]);
            if (method == 26 && random.nextInt(3) != 0 && oracle.deed(args[0])) {
                args[1] = oracle.t.doneIn(args[0]);
            }
            call(method, args[0], args[1], args[2], args[3]);
        }

        void tell() {
            String text = drawnText(random);
            call(1, 0, 0, 0, 0);
            for (int j = 0; j < text.length(); j++) call(0, text.charAt(j), 0, 0, 0);
            call(2, 0, 0, 0, 0);
            call(3, 0, 0, 0, 0);
        }

        void fillSheet() {
            int k = random.nextInt(4);
            int lane = random.nextInt(3);
            int n = random.nextInt(12);
            call(34, k, lane, n, 0);
            for (int j = 0; j < n; j++) {
                int v = j % 2 == 0 ? random.nextInt(12) : random.nextInt(5) == 0 ? NONE : random.nextInt(3);
                call(35, k, j, random.nextInt(8) == 0 ? v + 256 * random.nextInt(1000) : v, 0);
            }
            call(36, k, lane, random.nextInt(3), random.nextInt(7));
        }

        void go() {
            tell();
            while (calls < CALLS) {
                int way = random.nextInt(60);
                if (way == 0) tell();
                else if (way == 1) fillSheet();
                else drawnCall();
            }
        }
    }

    private static String drawnText(Random r) {
        StringBuilder s = new StringBuilder();
        int men = r.nextInt(10) == 0 ? 5 : r.nextInt(5);
        for (int m = 0; m < men; m++) s.append(KINDS[r.nextInt(4)]).append(' ').append(r.nextInt(7)).append(';');
        if (r.nextInt(5) != 0) {
            s.append("rota");
            int n = r.nextInt(4) == 0 ? r.nextInt(14) : 12;
            int who = 4;
            for (int h = 0; h < n; h++) {
                if (r.nextInt(2) == 0) who = men == 0 || r.nextInt(6) == 0 ? 4 : r.nextInt(Math.min(4, men));
                s.append(' ').append(who);
            }
            s.append(';');
        }
        for (int h = r.nextInt(3); h > 0; h--) s.append("cloud ").append(r.nextInt(12)).append(';');
        if (r.nextInt(2) == 0) s.append("paint ").append(r.nextInt(7)).append(";");
        for (int i = r.nextInt(6); i > 0; i--) {
            s.append("deed ").append(r.nextInt(48)).append(' ').append(1 + r.nextInt(9)).append(';');
        }
        if (r.nextInt(2) == 0) shuffle(s, r);
        if (r.nextInt(3) == 0 && s.length() > 0) spoil(s, r);
        return s.toString();
    }

    private static void shuffle(StringBuilder s, Random r) {
        List<String> lines = new ArrayList<>(Arrays.asList(s.toString().split("(?<=;)")));
        Collections.shuffle(lines, r);
        s.setLength(0);
        for (String line : lines) s.append(line);
    }

    private static void spoil(StringBuilder s, Random r) {
        String signs = "  ;;0123456789abcdetuz?A{";
        for (int n = 1 + r.nextInt(2); n > 0; n--) {
            int at = r.nextInt(s.length());
            int way = r.nextInt(4);
            if (way == 0) s.insert(at, signs.charAt(r.nextInt(signs.length())));
            else if (way == 1) s.setCharAt(at, signs.charAt(r.nextInt(signs.length())));
            else if (way == 2 && s.length() > 1) s.deleteCharAt(at);
            else if (way == 3 && at > 0) s.setLength(at);
        }
    }

    public static void main(String[] args) {
        int[] met = new int[METHODS];
        for (int run = 0; run < RUNS; run++) new Run(run, met).go();
        for (int method = 0; method < METHODS; method++) {
            if (met[method] == 0) {
                wrong++;
                System.out.println("method " + method + " was never answered with 0 or more");
            }
        }
        System.out.println(RUNS + " runs of " + CALLS + " calls, " + wrong + " answers wrong");
        if (wrong != 0) System.exit(1);
    }
}
