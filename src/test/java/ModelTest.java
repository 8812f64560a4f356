import java.util.ArrayList;
import java.util.Arrays;
import java.util.List;
import java.util.Random;

/** Random runs of calls, each answer held against a plain second telling of the document in objects. */
public final class ModelTest {
    private static final int BEYOND = -1000000001;
    private static final int FULL = -1000000002;
    private static final int KIND = -1000000003;
    private static final int NONE = -1000000004;
    private static final int STATE = -1000000005;
    private static final int MISSING = -1000000006;
    private static final int SIZE = -1000000007;
    private static final String[] NAMES = {"walker", "tall", "child", "guide", "porter", "sleepy"};

    /** A kind; those under it say only what is unlike. */
    static class Walker {
        int heard, stumbled, nerve = 50;
        boolean fell;

        int shades() { return 0; }
        boolean sees(Night n, int place) { return n.inLight(place); }
        boolean says(Night n, int place) { return fell || n.atRoot(place) && sees(n, place); }
        boolean heeds() { return nerve >= 30; }

        static Walker make(int kind) {
            switch (kind) {
                case 0: return new Walker();
                case 1: return new Tall();
                case 2: return new Child();
                case 3: return new Guide();
                case 4: return new Porter();
                default: return new Sleepy();
            }
        }

        int kind() {
            List<Class<?>> all = List.of(Walker.class, Tall.class, Child.class, Guide.class, Porter.class, Sleepy.class);
            return all.indexOf(getClass());
        }

        Walker as(int kind) {
            Walker w = make(kind);
            w.heard = heard;
            w.stumbled = stumbled;
            w.nerve = nerve;
            return w;
        }
    }

    static class Tall extends Walker {
        @Override int shades() { return 1; }
        @Override boolean sees(Night n, int place) { return n.inLight(place) && Math.abs(place - n.lantern) <= 2; }
        @Override boolean says(Night n, int place) { return super.says(n, place) || heard == 1; }
    }

    static class Child extends Walker {
        @Override boolean says(Night n, int place) { return fell; }
        @Override boolean heeds() { return true; }
    }

    static class Guide extends Walker {
        @Override boolean sees(Night n, int place) { return true; }
    }

    static class Porter extends Tall {
        @Override int shades() { return super.shades() + 1; }
        @Override boolean sees(Night n, int place) { return super.sees(n, place) && n.lantern != place; }
        @Override boolean says(Night n, int place) { return super.says(n, place) && !(nerve < 20); }
    }

    static class Sleepy extends Child {
        @Override boolean sees(Night n, int place) { return super.sees(n, place) && n.step % 3 != 2; }
        @Override boolean says(Night n, int place) { return false; }
        @Override boolean heeds() { return false; }
    }

    /** What section 1 tells. */
    static class Night {
        int step, lantern, bright = 3;
        boolean[] roots = new boolean[30];
        List<Walker> row = new ArrayList<>();

        Night() {
            for (int p = 0; p < 30; p++) roots[p] = p % 7 == 3;
        }

        Night same() {
            Night n = new Night();
            n.step = step;
            n.lantern = lantern;
            n.bright = bright;
            n.roots = roots.clone();
            for (Walker w : row) n.row.add(w.as(w.kind()));
            return n;
        }

        int pace(int place) {
            int p = step % 30;
            for (int i = 0; i < place; i++) p = p == 0 ? 29 : p - 1;
            return p;
        }

        boolean atRoot(int place) { return roots[pace(place)]; }

        boolean inLight(int place) {
            if (lantern < 0) return false;
            if (place <= lantern) return lantern - place <= bright;
            int reach = bright;
            for (int p = lantern + 1; p < place; p++) reach -= row.get(p).shades();
            return place - lantern <= reach;
        }

        Night go(int n) {
            for (int i = 0; i < n; i++) {
                step++;
                for (int p = 0; p < row.size(); p++) {
                    Walker w = row.get(p);
                    w.fell = atRoot(p) && !w.sees(this, p) && !(w.heard == 1 && w.heeds());
                    if (w.fell) {
                        w.stumbled = Math.min(9999, w.stumbled + 1);
                        w.nerve = Math.max(0, w.nerve - 10);
                    } else {
                        w.nerve = Math.min(99, w.nerve + 1);
                    }
                }
                boolean[] said = new boolean[9];
                for (int p = 0; p < row.size(); p++) said[p] = row.get(p).says(this, p);
                for (int p = 0; p < row.size(); p++) row.get(p).heard = p > 0 && said[p - 1] ? 1 : 0;
            }
            return this;
        }

        int all() {
            int sum = 0;
            for (Walker w : row) sum += w.stumbled;
            return sum;
        }

        void exchange(int a, int b) {
            Walker w = row.get(a);
            row.set(a, row.get(b));
            row.set(b, w);
        }

        boolean has(int place) { return place >= 0 && place < row.size(); }
    }

    Night night = new Night();
    Night kept;
    StringBuilder tape = new StringBuilder();
    int[] bits = new int[4];
    long[][] numbers = new long[4][];
    int[] told = new int[7];

    long find(int finding) {
        told[BEYOND - finding]++;
        return finding;
    }

    static boolean in(int v, int a, int b) { return a <= v && v <= b; }

    /** The call by its number among those of the face. */
    long answer(int call, int a, int b, int c, long v, int[] more) {
        Night n = night;
        boolean has = n.has(a);
        switch (call) {
            case 0: { if (!in(a, 0, 1073741823)) return find(BEYOND); int was = rootSet(); for (int p = 0; p < 30; p++) n.roots[p] = (a >> p & 1) == 1; return was; }
            case 1: { if (a != -1 && !has) return find(BEYOND); int was = n.lantern; n.lantern = a; return was; }
            case 2: { if (!in(a, 0, 9)) return find(BEYOND); int was = n.bright; n.bright = a; return was; }
            case 3: return now(a);
            case 4: if (!in(a, 0, 5)) return find(BEYOND); if (n.row.size() == 8) return find(FULL); n.row.add(Walker.make(a)); return n.row.size() - 1;
            case 5: return of(a, b);
            case 6: return set(a, b, c);
            case 7: if (!has || !n.has(b) || a == b) return find(BEYOND); n.exchange(a, b); return 1;
            case 8: { if (!has || !in(b, 0, 5)) return find(BEYOND); int was = n.row.get(a).kind(); n.row.set(a, n.row.get(a).as(b)); return was; }
            case 9: if (!has || !in(b, 0, 5)) return find(BEYOND); return Walker.make(b).getClass().isInstance(n.row.get(a)) ? n.row.get(a).nerve : find(KIND);
            case 10: if (!in(a, 1, 200)) return find(BEYOND); if (n.step + a > 99999) return find(STATE); return n.go(a).all();
            case 11: { if (!has || !in(b, 0, 300) || !in(c, 0, 2)) return find(BEYOND); Walker w = n.same().go(b).row.get(a); return c == 0 ? w.heard : c == 1 ? w.stumbled : w.nerve; }
            case 12: return in(a, 0, 300) ? n.same().go(a).all() : find(BEYOND);
            case 13: if (!has) return find(BEYOND); for (int i = 1; i <= 300; i++) if (n.same().go(i).row.get(a).fell) return i; return find(NONE);
            case 14: if (!has) return find(BEYOND); for (int i = 0; i <= 300; i++) if (n.same().go(i).row.get(a).heard == 1) return i; return find(NONE);
            case 15: case 16: case 17: case 18: case 19: case 20: case 21: return best(call, a, b);
            case 22: if (!in(b, 1, 4)) return find(BEYOND); if (tape.length() + b > 120) return find(FULL); for (int i = b; i > 0; i--) tape.append((char) (a >>> 8 * (i - 1) & 255)); return tape.length();
            case 23: { int had = tape.length(); tape.setLength(0); return had; }
            case 24: { Teller t = new Teller(tape.toString(), n.same()); tape.setLength(0); int items = t.tell(); if (items >= 0) night = t.night; return items; }
            case 25: return sheet(a, b, c);
            case 26: { if (!in(a, 0, 3)) return find(BEYOND); if (numbers[a] == null) return find(MISSING); if (!in(b, 0, numbers[a].length - 1)) return find(BEYOND); long was = numbers[a][b]; numbers[a][b] = cut(a, v); return was; }
            case 27: return copy(a, b, c, more[0], more[1]);
            case 28: return lays(a);
            case 29: case 30: return book(call, a, b);
            case 31: kept = n.same(); return 1;
            case 32: if (kept == null) return find(NONE); night = kept.same(); return night.row.size();
            case 33: { int was = kept == null ? 0 : 1; kept = null; return was; }
            case 34: { int nerve = 0; for (Walker w : n.row) nerve += w.nerve; return a == 0 ? n.row.size() : a == 1 ? tape.length() : a == 2 ? Integer.bitCount(rootSet()) : a == 3 ? nerve : find(BEYOND); }
            default: return a == -1 ? Arrays.stream(told).sum() : in(a, 0, 6) ? told[a] : find(BEYOND);
        }
    }

    int rootSet() {
        int set = 0;
        for (int p = 0; p < 30; p++) if (night.roots[p]) set |= 1 << p;
        return set;
    }

    long now(int what) {
        if (!in(what, 0, 7)) return find(BEYOND);
        int[] plain = {night.step, rootSet(), night.lantern, night.bright};
        if (what < 4) return plain[what];
        if (what == 7) return night.all();
        int set = 0;
        for (int p = 0; p < night.row.size(); p++) {
            boolean in = what == 4 ? night.inLight(p) : what == 5 ? night.atRoot(p) : night.row.get(p).heard == 1;
            if (in) set += 1 << p;
        }
        return set;
    }

    long of(int place, int what) {
        if (!night.has(place) || !in(what, 0, 7)) return find(BEYOND);
        Walker w = night.row.get(place);
        int[] all = {w.kind(), night.pace(place), w.heard, w.stumbled, w.nerve, w.shades(), w.sees(night, place) ? 1 : 0, w.heeds() ? 1 : 0};
        return all[what];
    }

    long set(int place, int what, int v) {
        int[] most = {-1, -1, 1, 9999, 99};
        if (!night.has(place) || !in(what, 2, 4) || !in(v, 0, most[what])) return find(BEYOND);
        Walker w = night.row.get(place);
        int was = what == 2 ? w.heard : what == 3 ? w.stumbled : w.nerve;
        if (what == 2) w.heard = v; else if (what == 3) w.stumbled = v; else w.nerve = v;
        return was;
    }

    long best(int call, int a, int b) {
        Night n = night;
        int size = n.row.size();
        int best = -1;
        int least = Integer.MAX_VALUE;
        switch (call) {
            case 15:
                if (!in(a, 1, 100)) return find(BEYOND);
                for (int p = 0; p < size; p++) { Night m = n.same(); m.lantern = p; int all = m.go(a).all(); if (all < least) { least = all; best = p; } }
                return best < 0 ? find(NONE) : best;
            case 16:
                if (!in(a, 1, 100)) return find(BEYOND);
                least = n.same().go(a).all();
                for (int p = 0; p < size; p++) for (int q = p + 1; q < size; q++) { Night m = n.same(); m.exchange(p, q); int all = m.go(a).all(); if (all < least) { least = all; best = 10 * p + q; } }
                return best < 0 ? find(NONE) : best;
            case 17:
                if (!n.has(a) || !in(b, 1, 100)) return find(BEYOND);
                for (int k = 0; k < 6; k++) { Night m = n.same(); m.row.set(a, m.row.get(a).as(k)); int own = m.go(b).row.get(a).stumbled; if (own < least) { least = own; best = k; } }
                return best;
            case 18:
                if (!in(a, 1, 100) || !in(b, 0, 99999)) return find(BEYOND);
                for (int k = 0; k <= 9; k++) { Night m = n.same(); m.bright = k; if (m.go(a).all() <= b) return k; }
                return find(NONE);
            case 19:
                if (!in(a, 1, 60)) return find(BEYOND);
                for (int p = 0; p < 30; p++) { if (!n.roots[p]) continue; Night m = n.same(); m.roots[p] = false; int all = m.go(a).all(); if (all < least) { least = all; best = p; } }
                return best < 0 ? find(NONE) : best;
            case 20:
                if (!n.has(a) || !in(b, 1, 100)) return find(BEYOND);
                for (int k = 0; k <= 99; k++) { Night m = n.same(); m.row.get(a).nerve = k; if (m.go(b).row.get(a).stumbled <= n.row.get(a).stumbled) return k; }
                return find(NONE);
            default:
                if (!in(a, 0, 300)) return find(BEYOND);
                Night m = n.same().go(a);
                for (int p = 0; p < size; p++) if (best < 0 || m.row.get(p).stumbled > m.row.get(best).stumbled) best = p;
                return best < 0 ? find(NONE) : best;
        }
    }

    long cut(int s, long v) { return bits[s] == 8 ? (byte) v : bits[s] == 16 ? (short) v : v; }

    long sheet(int s, int width, int n) {
        if (!in(s, 0, 3) || !List.of(0, 8, 16, 64).contains(width)) return find(BEYOND);
        if (n < 0) return find(SIZE);
        if (n > 40) return find(BEYOND);
        bits[s] = width;
        numbers[s] = width == 0 ? null : new long[n];
        return width == 0 ? 0 : n;
    }

    long copy(int s, int from, int t, int to, int n) {
        if (!in(s, 0, 3) || !in(t, 0, 3)) return find(BEYOND);
        if (numbers[s] == null || numbers[t] == null) return find(MISSING);
        if (bits[s] != bits[t]) return find(KIND);
        if (from < 0 || to < 0 || n < 0 || (long) from + n > numbers[s].length || (long) to + n > numbers[t].length) return find(BEYOND);
        long[] were = numbers[s].clone();
        for (int i = 0; i < n; i++) numbers[t][to + i] = were[from + i];
        return n;
    }

    long lays(int s) {
        if (!in(s, 0, 3)) return find(BEYOND);
        if (numbers[s] == null) return find(MISSING);
        int came = 0;
        for (int i = 0; i < numbers[s].length; i++) {
            if (!night.has(i) || numbers[s][i] < 0 || numbers[s][i] > 99) continue;
            night.row.get(i).nerve = (int) numbers[s][i];
            came++;
        }
        return came;
    }

    long book(int call, int s, int place) {
        if (!in(s, 0, 3)) return find(BEYOND);
        if (numbers[s] == null) return find(MISSING);
        if (!night.has(place)) return find(BEYOND);
        int size = numbers[s].length;
        if (call == 29) {
            for (int i = 0; i < size; i++) numbers[s][i] = cut(s, night.same().go(i).row.get(place).stumbled);
            return size;
        }
        int pairs = 0;
        for (int kind = 0; kind < 6; kind++) {
            for (int bright = 0; bright < 10; bright++) {
                Night n = night.same();
                n.bright = bright;
                n.row.set(place, n.row.get(place).as(kind));
                boolean so = true;
                for (int i = 0; i < size; i++) so &= n.same().go(i).row.get(place).stumbled == numbers[s][i];
                if (so) pairs++;
            }
        }
        return pairs;
    }

    /** The text, cut into all its tokens first. */
    static class Teller {
        final Night night;
        final List<String> tokens = new ArrayList<>();
        final List<Integer> places = new ArrayList<>();
        int at;

        Teller(String text, Night night) {
            this.night = night;
            java.util.regex.Matcher m = java.util.regex.Pattern.compile("[a-z]+|[0-9]+|[^ ]", java.util.regex.Pattern.DOTALL).matcher(text);
            while (m.find()) {
                tokens.add(m.group());
                places.add(m.start());
            }
            tokens.add("");
            places.add(text.length());
        }

        int number(int most) {
            String t = tokens.get(at);
            if (!t.matches("[0-9]+") || new java.math.BigInteger(t).compareTo(java.math.BigInteger.valueOf(most)) > 0) return -1;
            at++;
            return Integer.parseInt(t.replaceFirst("^0+(?=.)", ""));
        }

        boolean item() {
            String t = tokens.get(at);
            int kind = Arrays.asList(NAMES).indexOf(t);
            int places = night.row.size() - 1;
            if (kind >= 0) {
                if (night.row.size() == 8) return false;
                at++;
                Walker w = Walker.make(kind);
                night.row.add(w);
                if (!tokens.get(at).equals("nerve")) return true;
                at++;
                int nerve = number(99);
                w.nerve = nerve;
                return nerve >= 0;
            }
            if (!List.of("root", "clear", "lantern", "bright", "swap").contains(t)) return false;
            at++;
            int n = number(t.equals("root") || t.equals("clear") ? 29 : t.equals("bright") ? 9 : places);
            if (n < 0) return false;
            if (t.equals("root")) night.roots[n] = true;
            if (t.equals("clear")) night.roots[n] = false;
            if (t.equals("lantern")) night.lantern = n;
            if (t.equals("bright")) night.bright = n;
            if (!t.equals("swap")) return true;
            int before = at;
            int other = number(places);
            if (other == n) at = before;
            if (other < 0 || other == n) return false;
            night.exchange(n, other);
            return true;
        }

        int tell() {
            int items = 0;
            while (item()) {
                items++;
                String t = tokens.get(at);
                if (t.isEmpty()) return items;
                if (!t.equals(";")) break;
                at++;
            }
            return -1 - places.get(at);
        }
    }

    static long ask(OneLantern x, int call, int a, int b, int c, long v, int[] more) {
        switch (call) {
            case 0: return x.roots(a);
            case 1: return x.lantern(a);
            case 2: return x.bright(a);
            case 3: return x.now(a);
            case 4: return x.walker(a);
            case 5: return x.of(a, b);
            case 6: return x.set(a, b, c);
            case 7: return x.swap(a, b);
            case 8: return x.turn(a, b);
            case 9: return x.as(a, b);
            case 10: return x.steps(a);
            case 11: return x.on(a, b, c);
            case 12: return x.falls(a);
            case 13: return x.trips(a);
            case 14: return x.hears(a);
            case 15: return x.carry(a);
            case 16: return x.order(a);
            case 17: return x.kind(a, b);
            case 18: return x.least(a, b);
            case 19: return x.clear(a);
            case 20: return x.nerve(a, b);
            case 21: return x.worst(a);
            case 22: return x.feed(a, b);
            case 23: return x.wipe();
            case 24: return x.night();
            case 25: return x.sheet(a, b, c);
            case 26: return x.write(a, b, v);
            case 27: return x.copy(a, b, c, more[0], more[1]);
            case 28: return x.lays(a);
            case 29: return x.book(a, b);
            case 30: return x.read(a, b);
            case 31: return x.image();
            case 32: return x.undo();
            case 33: return x.tear();
            case 34: return x.count(a);
            default: return x.status(a);
        }
    }

    /** What each argument is: p place, k kind, w what, n steps, s sheet, i index, r roots, t bits, y byte count, others as told. */
    private static final String[] SHAPES = {"r", "p", "b", "w", "k", "pw", "pwv", "pp", "pk", "pk", "n", "pnw", "n", "p", "p", "n", "n", "pn", "nv", "n", "pn", "n", "ry", "", "", "stz", "si", "sisii", "s", "sp", "sp", "", "", "", "w", "w"};
    private static final int[] ODD = {Integer.MIN_VALUE, -1, -2, 100, 101, 200, 201, 300, 301, 1073741824, Integer.MAX_VALUE};

    static int argument(Random r, char shape) {
        if (r.nextInt(40) == 0) return ODD[r.nextInt(ODD.length)];
        switch (shape) {
            case 'r': return r.nextInt() & r.nextInt() & (r.nextInt(8) == 0 ? -1 : 1073741823);
            case 'p': return r.nextInt(r.nextInt(9) == 0 ? 10 : 6) - (r.nextInt(12) == 0 ? 1 : 0);
            case 'b': return r.nextInt(11);
            case 'w': return r.nextInt(9) - r.nextInt(2);
            case 'k': return r.nextInt(20) == 0 ? 6 : r.nextInt(6);
            case 'n': return r.nextInt(3) == 0 ? r.nextInt(110) : r.nextInt(40);
            case 'v': return r.nextInt(3) == 0 ? r.nextInt(10100) : r.nextInt(60) - 1;
            case 's': return r.nextInt(r.nextInt(9) == 0 ? 5 : 3);
            case 'i': return r.nextInt(12) - r.nextInt(2);
            case 't': return new int[] {0, 8, 8, 16, 16, 64, 64, 32}[r.nextInt(8)];
            case 'y': return r.nextInt(6);
            default: return r.nextInt(45) - r.nextInt(4);
        }
    }

    static String nightText(Random r) {
        StringBuilder s = new StringBuilder();
        int items = 1 + r.nextInt(6);
        for (int i = 0; i < items; i++) {
            if (i > 0) s.append(r.nextInt(30) == 0 ? " " : ";");
            String[] others = {"root", "clear", "lantern", "bright", "swap"};
            int pick = r.nextInt(8);
            if (r.nextInt(6) == 0) s.append(' ');
            s.append(pick < 3 ? NAMES[r.nextInt(6)] : others[pick - 3]);
            if (pick < 3 && r.nextInt(3) == 0) s.append(" nerve ").append(r.nextInt(102));
            if (pick >= 3) s.append(r.nextBoolean() ? " " : "").append(r.nextInt(pick < 5 ? 31 : pick == 6 ? 11 : 6));
            if (pick == 7) s.append(' ').append(r.nextInt(6));
        }
        if (r.nextInt(6) == 0) s.setCharAt(r.nextInt(s.length()), " ;a0$R5\0".charAt(r.nextInt(8)));
        if (r.nextInt(8) == 0) s.setLength(r.nextInt(s.length()));
        return s.length() > 120 ? s.substring(0, 120) : s.toString();
    }

    private static final int MOST_FED = 120;

    private static boolean run(int seed) {
        Random r = new Random(seed);
        OneLantern x = new OneLantern();
        ModelTest model = new ModelTest();
        List<String> told = new ArrayList<>();
        // behind its 512th call an object's answers are free, and a text is fed first
        for (int i = 0; i + 1 + MOST_FED <= 512; i++) {
            int call = i < 20 && r.nextBoolean() ? 4 : r.nextInt(36);
            if (call == 24) {
                String text = nightText(r);
                for (int k = 0; k < text.length() && r.nextInt(400) > 0; k++) {
                    x.feed(text.charAt(k), 1);
                    model.answer(22, text.charAt(k), 1, 0, 0, null);
                    i++;
                }
            }
            if (call == 32 && r.nextInt(3) > 0 || call == 0 && r.nextInt(3) > 0) continue;
            String shape = SHAPES[call];
            int[] args = new int[5];
            for (int k = 0; k < shape.length(); k++) args[k] = argument(r, shape.charAt(k));
            long v = r.nextInt(3) == 0 ? r.nextLong() : r.nextInt(100);
            int[] more = {args[3], args[4]};
            long want = model.answer(call, args[0], args[1], args[2], v, more);
            long got = ask(x, call, args[0], args[1], args[2], v, more);
            told.add("call " + call + " " + Arrays.toString(args) + " " + v + ": " + got);
            if (got != want) {
                System.out.println("seed " + seed + ", row " + i + ": " + told.get(told.size() - 1) + ", due is " + want);
                return false;
            }
        }
        return true;
    }

    public static void main(String[] args) {
        int runs = args.length > 0 ? Integer.parseInt(args[0]) : 200;
        int wrong = 0;
        for (int seed = 1; seed <= runs; seed++) {
            if (!run(seed)) wrong++;
        }
        System.out.println(wrong == 0 ? runs + " runs are as the model's" : wrong + " runs are not as the model's");
        if (wrong != 0) System.exit(1);
    }
}
