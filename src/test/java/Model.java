import java.math.BigInteger;
import java.util.ArrayList;
import java.util.Arrays;
import java.util.List;

/** The document once more, in the slowest and plainest way, to hold SnuffCourt's answers against. */
final class Model {
    private static final int BAD = -1, STATE = -2, FULL = -3, NONE = -4;
    private static final List<String> KINDS = List.of("tallow", "wax", "bees", "thief");
    private static final List<String> HABITS = List.of("first", "long", "short", "bare");

    /** what: KIND, LENGTH, GUARD of both SIDES, then VERDICT, APPEALED, MINUTE, JUDGE. */
    private static final class Suit {
        final int[][] flames = new int[2][3];
        int verdict = 0;
        int appealed = 0;
        int minute = NONE;
        int judge = NONE;

        Suit copy() {
            Suit s = new Suit();
            for (int i = 0; i < 2; i++) {
                s.flames[i] = flames[i].clone();
            }
            s.verdict = verdict;
            s.appealed = appealed;
            s.minute = minute;
            s.judge = judge;
            return s;
        }

        int lengths() {
            return flames[0][1] + flames[1][1];
        }
    }

    private static final class World {
        final List<Suit> suits = new ArrayList<>();
        final List<int[]> judges = new ArrayList<>();
        final List<int[]> draughts = new ArrayList<>();
        final List<int[]> docket = new ArrayList<>();

        World copy() {
            World w = new World();
            suits.forEach(s -> w.suits.add(s.copy()));
            judges.forEach(j -> w.judges.add(j.clone()));
            draughts.forEach(d -> w.draughts.add(d.clone()));
            docket.forEach(d -> w.docket.add(d.clone()));
            return w;
        }

        int lengths() {
            return suits.stream().mapToInt(Suit::lengths).sum();
        }
    }

    private static final class TextFault extends RuntimeException {
        private static final long serialVersionUID = 1L;
        final int fault;
        final int place;

        TextFault(int fault, int place) {
            this.fault = fault;
            this.place = place;
        }
    }

    private World now = new World();
    private final World[] images = new World[2];
    private List<int[]> seen = new ArrayList<>();
    private String tape = "";
    private int fault = 0;
    private int torn = 0;
    private final Object[] sheets = new Object[4];

    // ---- the text

    int feed(int c) {
        if (c < 0 || c > 127) {
            return BAD;
        }
        if (tape.length() == 160) {
            return FULL;
        }
        tape += (char) c;
        return tape.length();
    }

    int end(int n) {
        if (n < 0 || n > tape.length()) {
            return BAD;
        }
        int had = tape.length();
        tape = tape.substring(0, n);
        return had;
    }

    int text() {
        String told = tape;
        tape = "";
        fault = 0;
        try {
            Parser p = new Parser(told);
            int lines = p.lines();
            now = p.world;
            seen = new ArrayList<>();
            images[0] = null;
            images[1] = null;
            return lines;
        } catch (TextFault f) {
            fault = f.fault;
            return -10 - f.place;
        }
    }

    private static final class Parser {
        final String text;
        final World world = new World();
        int at = 0;
        int place = 0;

        Parser(String text) {
            this.text = text;
        }

        /** The next TOKEN, not taken yet; "" at the end. */
        String peek() {
            int i = at;
            while (i < text.length() && text.charAt(i) == ' ') {
                i++;
            }
            place = i;
            String left = text.substring(i);
            if (left.isEmpty()) {
                return "";
            }
            String token = left.replaceFirst("(?s)^([a-z]+|[0-9]+|;).*$", "$1");
            if (!token.matches("[a-z]+|[0-9]{1,2}|;")) {
                throw new TextFault(1, i);
            }
            return token;
        }

        void take(String token) {
            at = place + token.length();
        }

        void need(boolean stands) {
            if (!stands) {
                throw new TextFault(2, place);
            }
        }

        int number(int low, int high) {
            String token = peek();
            need(token.matches("[0-9]+"));
            int n = Integer.parseInt(token);
            if (n < low || n > high) {
                throw new TextFault(3, place);
            }
            take(token);
            return n;
        }

        void room(boolean there, int which) {
            if (!there) {
                throw new TextFault(which, place);
            }
        }

        int lines() {
            int lines = 0;
            boolean docket = false;
            for (String name = peek(); !name.isEmpty(); name = peek()) {
                boolean habit = HABITS.contains(name);
                need(habit || List.of("case", "draught", "docket").contains(name));
                if (name.equals("case")) {
                    room(world.suits.size() < 4, 5);
                    take(name);
                    Suit s = new Suit();
                    flame(s.flames[0]);
                    flame(s.flames[1]);
                    world.suits.add(s);
                } else if (habit) {
                    room(world.judges.size() < 3, 5);
                    take(name);
                    world.judges.add(new int[] {HABITS.indexOf(name), number(1, 9)});
                } else if (name.equals("draught")) {
                    room(world.draughts.size() < 4, 5);
                    take(name);
                    world.draughts.add(new int[] {number(0, 20), number(1, 9)});
                } else {
                    room(!docket, 4);
                    docket = true;
                    take(name);
                    while (!peek().equals(";") && !peek().isEmpty()) {
                        room(world.docket.size() < 6, 5);
                        world.docket.add(new int[] {number(0, 3), number(0, 2)});
                    }
                }
                need(peek().equals(";"));
                take(";");
                lines++;
            }
            for (int[] h : world.docket) {
                room(h[0] < world.suits.size() && h[1] < world.judges.size(), 6);
            }
            return lines;
        }

        void flame(int[] f) {
            String kind = peek();
            need(KINDS.contains(kind));
            f[0] = KINDS.indexOf(kind);
            take(kind);
            f[1] = number(0, 99);
            f[2] = peek().matches("[0-9]+") ? number(0, 9) : 0;
        }
    }

    int fault() {
        return fault;
    }

    int rule(int what) {
        switch (what) {
            case 0: return now.suits.size();
            case 1: return now.judges.size();
            case 2: return now.draughts.size();
            case 3: return now.docket.size();
            case 4: return won(now, 1);
            case 5: return won(now, 2);
            case 6: return won(now, 3);
            case 7: return now.lengths();
            default: return BAD;
        }
    }

    private static int won(World w, int verdict) {
        int bits = 0;
        for (int c = 0; c < w.suits.size(); c++) {
            bits += w.suits.get(c).verdict == verdict ? 1 << c : 0;
        }
        return bits;
    }

    private boolean noCase(int c) {
        return c < 0 || c >= now.suits.size();
    }

    private boolean noJudge(int j) {
        return j < 0 || j >= now.judges.size();
    }

    private static boolean out(int v, int low, int high) {
        return v < low || v > high;
    }

    int flame(int c, int side, int what) {
        if (noCase(c) || out(side, 0, 1) || out(what, 0, 3)) {
            return BAD;
        }
        int[] f = now.suits.get(c).flames[side];
        return what < 3 ? f[what] : burns(f[0]);
    }

    private static int burns(int kind) {
        int tallow = 3;
        int wax = tallow - 1;
        return kind == 0 ? tallow : kind == 1 ? wax : kind == 2 ? wax / 2 : 2 * tallow;
    }

    int suit(int c, int what) {
        if (noCase(c) || out(what, 0, 3)) {
            return BAD;
        }
        Suit s = now.suits.get(c);
        return new int[] {s.verdict, s.appealed, s.minute, s.judge}[what];
    }

    private static int pick(List<int[]> rows, int i, int what) {
        return out(i, 0, rows.size() - 1) || out(what, 0, 1) ? BAD : rows.get(i)[what];
    }

    int judge(int j, int what) {
        return pick(now.judges, j, what);
    }

    int draught(int i, int what) {
        return pick(now.draughts, i, what);
    }

    int docket(int i, int what) {
        return pick(now.docket, i, what);
    }

    // ---- what is changed

    int trim(int c, int side, int what, int v) {
        if (noCase(c) || out(side, 0, 1) || out(what, 0, 2) || out(v, 0, new int[] {3, 99, 9}[what])) {
            return BAD;
        }
        Suit s = now.suits.get(c);
        if (s.verdict != 0) {
            return STATE;
        }
        int had = s.flames[side][what];
        s.flames[side][what] = v;
        return had;
    }

    int train(int j, int what, int v) {
        if (noJudge(j) || out(what, 0, 1) || out(v, what, what == 0 ? 3 : 9)) {
            return BAD;
        }
        int had = now.judges.get(j)[what];
        now.judges.get(j)[what] = v;
        return had;
    }

    int blow(int minute, int strength) {
        if (out(minute, 0, 20) || out(strength, 1, 9)) {
            return BAD;
        }
        if (now.draughts.size() == 4) {
            return FULL;
        }
        now.draughts.add(new int[] {minute, strength});
        return now.draughts.size();
    }

    private static int first(List<int[]> rows, int n) {
        if (out(n, 0, rows.size())) {
            return BAD;
        }
        int had = rows.size();
        rows.subList(n, had).clear();
        return had;
    }

    int calm(int n) {
        return first(now.draughts, n);
    }

    int plan(int c, int j) {
        if (noCase(c) || noJudge(j)) {
            return BAD;
        }
        if (now.docket.size() == 6) {
            return FULL;
        }
        now.docket.add(new int[] {c, j});
        return now.docket.size();
    }

    int cut(int n) {
        return first(now.docket, n);
    }

    // ---- hearings

    /** Minute by minute, as part 2 says it; the suit is left as it ENDS. */
    private static int held(World w, int c, int j) {
        Suit s = w.suits.get(c);
        int habit = w.judges.get(j)[0];
        int slow = w.judges.get(j)[1];
        for (int minute = 0; ; minute++) {
            boolean[] isOut = new boolean[2];
            for (int side = 0; side < 2; side++) {
                int[] f = s.flames[side];
                isOut[side] = f[1] == 0;
                for (int[] d : w.draughts) {
                    isOut[side] |= d[0] == minute && f[2] < d[1];
                }
            }
            if (minute == slow && !isOut[0] && !isOut[1]) {
                isOut[goes(s, habit)] = true;
            }
            if (isOut[0] || isOut[1]) {
                s.minute = minute;
                s.judge = j;
                s.verdict = isOut[0] && isOut[1] ? 3 : isOut[1] ? 1 : 2;
                return s.verdict;
            }
            for (int[] f : s.flames) {
                f[1] = Math.max(0, f[1] - burns(f[0]));
            }
        }
    }

    private static int goes(Suit s, int habit) {
        int[] a = s.flames[0];
        int[] b = s.flames[1];
        int toLong = a[1] >= b[1] ? 0 : 1;
        int toBare = a[2] <= b[2] ? 0 : 1;
        return new int[] {0, toLong, toLong == 0 ? 1 : 0, toBare}[habit];
    }

    int hear(int c, int j) {
        if (noCase(c) || noJudge(j)) {
            return BAD;
        }
        return now.suits.get(c).verdict != 0 ? STATE : held(now, c, j);
    }

    int appeal(int c) {
        if (noCase(c)) {
            return BAD;
        }
        Suit s = now.suits.get(c);
        if (s.verdict == 0 || s.appealed == 1) {
            return STATE;
        }
        s.verdict = 0;
        s.appealed = 1;
        for (int[] f : s.flames) {
            f[1] = f[1] == 0 ? 1 : f[1];
        }
        return s.lengths();
    }

    private int verdict(World w, int c, int j) {
        return held(w.copy(), c, j);
    }

    int foretell(int c, int j, int what) {
        if (noCase(c) || noJudge(j) || out(what, 0, 2)) {
            return BAD;
        }
        World w = now.copy();
        held(w, c, j);
        Suit s = w.suits.get(c);
        return new int[] {s.verdict, s.minute, s.lengths()}[what];
    }

    /** The world behind the docket; passed takes the places, minutes the MINUTES. */
    private static World behind(World from, List<Integer> passed, int[] minutes) {
        World w = from.copy();
        for (int i = 0; i < w.docket.size(); i++) {
            int[] h = w.docket.get(i);
            if (w.suits.get(h[0]).verdict != 0) {
                passed.add(i);
                continue;
            }
            held(w, h[0], h[1]);
            minutes[0] += w.suits.get(h[0]).minute + 1;
        }
        return w;
    }

    private static World behind(World from) {
        return behind(from, new ArrayList<>(), new int[1]);
    }

    int runs(int what) {
        if (out(what, 0, 4)) {
            return BAD;
        }
        List<Integer> passed = new ArrayList<>();
        int[] minutes = new int[1];
        World w = behind(now, passed, minutes);
        if (what < 3) {
            return won(w, what + 1);
        }
        return what == 4 ? minutes[0] : passed.isEmpty() ? NONE : passed.get(0);
    }

    int ahead(int c) {
        return noCase(c) ? BAD : behind(now).suits.get(c).verdict;
    }

    // ---- what is best for a side

    int friends(int c, int side) {
        if (noCase(c) || out(side, 0, 1)) {
            return BAD;
        }
        int bits = 0;
        for (int j = 0; j < now.judges.size(); j++) {
            bits += verdict(now, c, j) == side + 1 ? 1 << j : 0;
        }
        return bits;
    }

    private int firstOf(int c, int side, int j, int what, int most) {
        if (noCase(c) || noJudge(j) || out(side, 0, 1)) {
            return BAD;
        }
        for (int v = 0; v <= most; v++) {
            World w = now.copy();
            w.suits.get(c).flames[side][what] = v;
            if (held(w, c, j) == side + 1) {
                return v;
            }
        }
        return NONE;
    }

    int wax(int c, int side, int j) {
        return firstOf(c, side, j, 0, 3);
    }

    int least(int c, int side, int j) {
        return firstOf(c, side, j, 1, 99);
    }

    int hand(int c, int side, int j) {
        return firstOf(c, side, j, 2, 9);
    }

    int turn(int c, int j, int s) {
        if (noCase(c) || noJudge(j) || out(s, 1, 9)) {
            return BAD;
        }
        for (int minute = 0; minute <= 20; minute++) {
            World w = now.copy();
            w.draughts.add(new int[] {minute, s});
            if (held(w, c, j) != verdict(now, c, j)) {
                return minute;
            }
        }
        return NONE;
    }

    private int guarded(int c, int j, int a, int b) {
        World w = now.copy();
        w.suits.get(c).flames[0][2] = a;
        w.suits.get(c).flames[1][2] = b;
        return held(w, c, j);
    }

    int sure(int c, int side, int j) {
        if (noCase(c) || noJudge(j) || out(side, 0, 1)) {
            return BAD;
        }
        for (int own = 0; own < 10; own++) {
            boolean always = true;
            for (int other = 0; other < 10; other++) {
                int v = side == 0 ? guarded(c, j, own, other) : guarded(c, j, other, own);
                always &= v == side + 1;
            }
            if (always) {
                return own;
            }
        }
        return NONE;
    }

    int rest(int c, int j, int what) {
        if (noCase(c) || noJudge(j) || out(what, 0, 1)) {
            return BAD;
        }
        int[][] table = new int[10][10];
        for (int a = 0; a < 10; a++) {
            for (int b = 0; b < 10; b++) {
                table[a][b] = List.of(1, 3, 2).indexOf(guarded(c, j, a, b));
            }
        }
        List<Integer> pairs = new ArrayList<>();
        for (int a = 0; a < 10; a++) {
            for (int b = 0; b < 10; b++) {
                int least = 9;
                int most = -1;
                for (int i = 0; i < 10; i++) {
                    least = Math.min(least, table[i][b]);
                    most = Math.max(most, table[a][i]);
                }
                if (table[a][b] == least && table[a][b] == most) {
                    pairs.add(10 * a + b);
                }
            }
        }
        return what == 0 ? pairs.size() : pairs.isEmpty() ? NONE : pairs.get(0);
    }

    int share(int side, int what) {
        int n = now.suits.size();
        if (out(side, 0, 1) || what != 0 && out(what, 10, 9 + n)) {
            return BAD;
        }
        int judges = now.judges.size();
        if (judges == 0) {
            return NONE;
        }
        int[] best = null;
        int most = -1;
        for (int code = 0; code < Math.pow(judges, n); code++) {
            int[] by = new int[n];
            for (int c = n - 1, left = code; c >= 0; c--, left /= judges) {
                by[c] = left % judges;
            }
            int won = 0;
            for (int c = 0; c < n; c++) {
                won += now.suits.get(c).verdict == 0 && verdict(now, c, by[c]) == side + 1 ? 1 : 0;
            }
            if (won > most) {
                most = won;
                best = by;
            }
        }
        if (what == 0) {
            return most;
        }
        return now.suits.get(what - 10).verdict != 0 ? NONE : best[what - 10];
    }

    int swap(int side, int what) {
        if (out(side, 0, 1) || out(what, 0, 1)) {
            return BAD;
        }
        int most = Integer.bitCount(won(behind(now), side + 1));
        int best = NONE;
        for (int places = 0; places < 60; places++) {
            int p = places / 10;
            int q = places % 10;
            if (p >= q || q >= now.docket.size()) {
                continue;
            }
            World w = now.copy();
            w.docket.get(p)[1] = now.docket.get(q)[1];
            w.docket.get(q)[1] = now.docket.get(p)[1];
            int won = Integer.bitCount(won(behind(w), side + 1));
            if (won > most) {
                most = won;
                best = places;
            }
        }
        return best == NONE ? NONE : what == 0 ? best : most;
    }

    // ---- draughts that come

    private interface Worth {
        int of(World w);
    }

    private static BigInteger weigh(World w, int i, int v, Worth worth) {
        if (i == w.draughts.size()) {
            return BigInteger.valueOf(worth.of(w));
        }
        World without = w.copy();
        without.draughts.remove(i);
        return weigh(without, i, v, worth).multiply(BigInteger.valueOf(v))
                .add(weigh(w, i + 1, v, worth).multiply(BigInteger.valueOf(10 - v)));
    }

    private long fraction(int v, Worth worth, int what) {
        BigInteger whole = BigInteger.TEN.pow(now.draughts.size());
        BigInteger part = weigh(now, 0, v, worth);
        BigInteger common = part.gcd(whole);
        return (what == 0 ? part : whole).divide(common).longValueExact();
    }

    long luck(int v, int c, int side, int j, int what) {
        if (out(v, 0, 10) || noCase(c) || out(side, 0, 1) || noJudge(j) || out(what, 0, 1)) {
            return BAD;
        }
        return fraction(v, w -> verdict(w, c, j) == side + 1 ? 1 : 0, what);
    }

    long mean(int v, int side, int what) {
        if (out(v, 0, 10) || out(side, 0, 1) || out(what, 0, 1)) {
            return BAD;
        }
        return fraction(v, w -> Integer.bitCount(won(behind(w), side + 1)), what);
    }

    // ---- which judge it was

    int see(int c, int j, int verdict) {
        if (noCase(c) || noJudge(j) || out(verdict, 1, 3)) {
            return BAD;
        }
        if (seen.size() == 6) {
            return FULL;
        }
        seen.add(new int[] {c, j, verdict});
        return seen.size();
    }

    int forget(int n) {
        return first(seen, n);
    }

    private boolean asSeen(World w) {
        return seen.stream().allMatch(s -> verdict(w, s[0], s[1]) == s[2]);
    }

    private int bitsAsSeen(int j, int what, int low, int high) {
        int bits = 0;
        for (int v = low; v <= high; v++) {
            World w = now.copy();
            w.judges.get(j)[what] = v;
            bits += asSeen(w) ? 1 << v : 0;
        }
        return bits;
    }

    int habits(int j) {
        return noJudge(j) ? BAD : bitsAsSeen(j, 0, 0, 3);
    }

    int slows(int j) {
        return noJudge(j) ? BAD : bitsAsSeen(j, 1, 1, 9);
    }

    int ask(int j, int what) {
        if (noJudge(j) || out(what, 0, 1)) {
            return BAD;
        }
        int habits = habits(j);
        int best = NONE;
        int fewest = Integer.bitCount(habits);
        for (int c = 0; c < now.suits.size(); c++) {
            int[] left = new int[4];
            for (int habit = 0; habit < 4; habit++) {
                World w = now.copy();
                w.judges.get(j)[0] = habit;
                left[held(w, c, j)] += habits >> habit & 1;
            }
            int worst = Arrays.stream(left).max().getAsInt();
            if (worst < fewest) {
                fewest = worst;
                best = c;
            }
        }
        return best == NONE ? NONE : what == 0 ? best : fewest;
    }

    // ---- by a seed

    int drift(int seed, int n, int what) {
        if (out(n, 1, 60) || out(what, 0, 1)) {
            return BAD;
        }
        if (now.suits.isEmpty() || now.judges.isEmpty()) {
            return STATE;
        }
        World w = now.copy();
        BigInteger s = BigInteger.valueOf(seed);
        int wins = 0;
        for (int i = 0; i < n; i++) {
            s = s.multiply(BigInteger.valueOf(1103515245)).add(BigInteger.valueOf(12345));
            int got = s.shiftRight(16).and(BigInteger.valueOf(32767)).intValueExact();
            int c = got % w.suits.size();
            w.suits.get(c).flames[(got / 8) % 2][1] = (got / 16) % 20;
            wins += held(w, c, (got / 512) % w.judges.size()) == 1 ? 1 : 0;
        }
        return what == 0 ? wins : w.lengths();
    }

    // ---- images, sheets

    int keep(int k) {
        if (out(k, 0, 1)) {
            return BAD;
        }
        int had = images[k] == null ? 0 : 1;
        images[k] = now.copy();
        return had;
    }

    int back(int k) {
        if (out(k, 0, 1)) {
            return BAD;
        }
        if (images[k] == null) {
            return STATE;
        }
        now = images[k].copy();
        return now.lengths();
    }

    int sheet(int k, int lane, int n) {
        if (out(k, 0, 3) || out(lane, 0, 2) || n > 40) {
            return BAD;
        }
        if (n < 0) {
            return -14;
        }
        sheets[k] = lane == 0 ? new byte[n] : lane == 1 ? new short[n] : (Object) new int[n];
        return 1;
    }

    /** Here the machine itself finds the FAULT. */
    int lay(int k, int i, int v) {
        if (out(k, 0, 3)) {
            return BAD;
        }
        try {
            if (sheets[k] instanceof byte[] row) {
                row[i] = (byte) v;
            } else if (sheets[k] instanceof short[] row) {
                row[i] = (short) v;
            } else {
                ((int[]) sheets[k])[i] = v;
            }
            return 1;
        } catch (NullPointerException e) {
            return -11;
        } catch (ArrayIndexOutOfBoundsException e) {
            return -12;
        }
    }

    private static int cell(Object sheet, int lane, int i) {
        return lane == 0 ? ((byte[]) sheet)[i] : lane == 1 ? ((short[]) sheet)[i] : ((int[]) sheet)[i];
    }

    int read(int k, int lane, int f, int n) {
        if (out(k, 0, 3) || out(lane, 0, 2) || out(n, 0, 20)) {
            return BAD;
        }
        World before = now.copy();
        int found = 0;
        int heard = 0;
        try {
            for (; heard < n; heard++) {
                int c = cell(sheets[k], lane, f + 2 * heard);
                int j = cell(sheets[k], lane, f + 2 * heard + 1);
                if (hear(c, j) < 0) {
                    now = before;
                    return -20 - heard;
                }
            }
        } catch (NullPointerException e) {
            found = 1;
        } catch (ArrayIndexOutOfBoundsException e) {
            found = 2;
        } catch (ClassCastException e) {
            found = 3;
        }
        torn = found;
        return heard;
    }

    int torn() {
        return torn;
    }

    int count(int what) {
        switch (what) {
            case 0: return seen.size();
            case 1: return (images[0] == null ? 0 : 1) + (images[1] == null ? 0 : 1);
            case 2: return tape.length();
            case 3: return sheets[0] == null ? NONE : java.lang.reflect.Array.getLength(sheets[0]);
            case 4: return now.suits.stream().mapToInt(s -> s.flames[0][2] + s.flames[1][2]).sum();
            case 5: return now.suits.stream().mapToInt(s -> s.appealed).sum();
            default: return BAD;
        }
    }
}
