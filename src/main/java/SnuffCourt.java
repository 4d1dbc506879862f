/** The court of a candle lit town: CASES of two FLAMES each, JUDGES, DRAUGHTS, and what may be asked of them. */
public final class SnuffCourt {
    public static final int BAD = -1, STATE = -2, FULL = -3, NONE = -4;

    private static final int CASES_MOST = 4, JUDGES_MOST = 3, DRAUGHTS_MOST = 4, HEARINGS_MOST = 6, SEEN_MOST = 6;
    private static final int FLAMES_MOST = 2 * CASES_MOST;
    private static final int TAPE_MOST = 160, SHEETS = 4, CELLS_MOST = 40, PAIRS_MOST = 20, TERMS_MOST = 60;
    private static final int KIND = 0, LENGTH = 1, GUARD = 2;
    private static final int LENGTH_MOST = 99, GUARD_MOST = 9, GUARDS = 10;
    private static final int LONG = 1, SHORT = 2, BARE = 3, HABITS = 4;
    private static final int SLOW_LEAST = 1, SLOW_MOST = 9, MINUTE_MOST = 20, STRENGTH_LEAST = 1, STRENGTH_MOST = 9;
    private static final int HUNG = 3;
    private static final int NULL_FAULT = 1, INDEX_FAULT = 2, CAST_FAULT = 3, SIZE_FAULT = 4;
    private static final int LANE_BYTES = 0, LANE_SHORTS = 1, LANE_INTS = 2;

    private static final int[] BURNS = {3, 2, 1, 6};
    private static final int[] FLAME_BOUNDS = {3, 99, 9};

    private final Court court = new Court();
    private final Court firstImage = new Court();
    private final Court secondImage = new Court();
    private final boolean[] kept = new boolean[2];
    private final Reader reader = new Reader();
    private final Trial trial = new Trial();
    private final Round round = new Round();
    private final Memory memory = new Memory();
    private final Sheets sheets = new Sheets();
    private final int[] verdictsByGuards = new int[GUARDS * GUARDS];
    private final int[] driftLengths = new int[FLAMES_MOST];
    private int lastTorn = 0;

    public SnuffCourt() {
    }

    // ---- the text, what there is

    public int feed(int c) {
        if (!isIn(c, 0, 127)) {
            return BAD;
        }
        return reader.add(c) ? reader.size : FULL;
    }

    public int end(int n) {
        if (!isIn(n, 0, reader.size)) {
            return BAD;
        }
        int had = reader.size;
        reader.size = n;
        return had;
    }

    public int text() {
        int lines = 0;
        boolean taken = reader.begins();
        while (taken && lines < TAPE_MOST && !reader.isAtEnd()) {
            taken = reader.takesLine();
            lines++;
        }
        taken = taken && reader.docketStands();
        reader.size = 0;
        if (!taken) {
            return -10 - reader.from;
        }
        court.becomes(reader.told);
        memory.size = 0;
        kept[0] = false;
        kept[1] = false;
        return lines;
    }

    public int fault() {
        return reader.wrong;
    }

    public int rule(int what) {
        switch (what) {
            case 0: return court.cases;
            case 1: return court.judges;
            case 2: return court.draughts;
            case 3: return court.hearings;
            case 4: return bitsOf(court.verdict, court.cases, 1);
            case 5: return bitsOf(court.verdict, court.cases, 2);
            case 6: return bitsOf(court.verdict, court.cases, HUNG);
            case 7: return court.sumOf(court.length);
            default: return BAD;
        }
    }

    public int flame(int c, int side, int what) {
        if (!isFlame(c, side)) {
            return BAD;
        }
        int at = 2 * c + side;
        switch (what) {
            case 0: return court.kind[at];
            case 1: return court.length[at];
            case 2: return court.guard[at];
            case 3: return BURNS[court.kind[at]];
            default: return BAD;
        }
    }

    public int suit(int c, int what) {
        if (!court.hasCase(c)) {
            return BAD;
        }
        switch (what) {
            case 0: return court.verdict[c];
            case 1: return court.appealed[c];
            case 2: return court.endMinute[c];
            case 3: return court.endJudge[c];
            default: return BAD;
        }
    }

    public int judge(int j, int what) {
        if (!court.hasJudge(j) || !isIn(what, 0, 1)) {
            return BAD;
        }
        return what == 0 ? court.habit[j] : court.slow[j];
    }

    public int draught(int i, int what) {
        if (!isIn(i, 0, court.draughts - 1) || !isIn(what, 0, 1)) {
            return BAD;
        }
        return what == 0 ? court.minute[i] : court.strength[i];
    }

    public int docket(int i, int what) {
        if (!isIn(i, 0, court.hearings - 1) || !isIn(what, 0, 1)) {
            return BAD;
        }
        return what == 0 ? court.docketCase[i] : court.docketJudge[i];
    }

    // ---- what is changed

    public int trim(int c, int side, int what, int v) {
        if (!isFlame(c, side) || !isIn(what, KIND, GUARD) || !isIn(v, 0, FLAME_BOUNDS[what])) {
            return BAD;
        }
        if (court.verdict[c] != 0) {
            return STATE;
        }
        return exchange(what == KIND ? court.kind : what == LENGTH ? court.length : court.guard, 2 * c + side, v);
    }

    public int train(int j, int what, int v) {
        if (!court.hasJudge(j) || !isIn(what, 0, 1)) {
            return BAD;
        }
        if (what == 0) {
            return isIn(v, 0, HABITS - 1) ? exchange(court.habit, j, v) : BAD;
        }
        return isIn(v, SLOW_LEAST, SLOW_MOST) ? exchange(court.slow, j, v) : BAD;
    }

    public int blow(int minute, int strength) {
        if (!isIn(minute, 0, MINUTE_MOST) || !isIn(strength, STRENGTH_LEAST, STRENGTH_MOST)) {
            return BAD;
        }
        return court.addDraught(minute, strength) ? court.draughts : FULL;
    }

    public int calm(int n) {
        if (!isIn(n, 0, court.draughts)) {
            return BAD;
        }
        int had = court.draughts;
        court.draughts = n;
        return had;
    }

    public int plan(int c, int j) {
        if (!court.hasCase(c) || !court.hasJudge(j)) {
            return BAD;
        }
        return court.addHearing(c, j) ? court.hearings : FULL;
    }

    public int cut(int n) {
        if (!isIn(n, 0, court.hearings)) {
            return BAD;
        }
        int had = court.hearings;
        court.hearings = n;
        return had;
    }

    // ---- hearings

    public int hear(int c, int j) {
        if (!court.hasCase(c) || !court.hasJudge(j)) {
            return BAD;
        }
        return court.verdict[c] != 0 ? STATE : hearForGood(c, j);
    }

    public int appeal(int c) {
        if (!court.hasCase(c)) {
            return BAD;
        }
        if (court.verdict[c] == 0 || court.appealed[c] != 0) {
            return STATE;
        }
        court.verdict[c] = 0;
        court.appealed[c] = 1;
        for (int at = 2 * c; at < 2 * c + 2; at++) {
            court.length[at] = Math.max(1, court.length[at]);
        }
        return court.length[2 * c] + court.length[2 * c + 1];
    }

    public int foretell(int c, int j, int what) {
        if (!court.hasCase(c) || !court.hasJudge(j) || !isIn(what, 0, 2)) {
            return BAD;
        }
        int verdict = verdictNow(c, j);
        if (what == 0) {
            return verdict;
        }
        return what == 1 ? trial.minute : trial.length[0] + trial.length[1];
    }

    public int runs(int what) {
        if (!isIn(what, 0, 4)) {
            return BAD;
        }
        round.goByDocket(court, trial, 0);
        if (what == 3) {
            return round.firstPassed;
        }
        return what == 4 ? round.minutes : bitsOf(round.verdict, court.cases, what + 1);
    }

    public int ahead(int c) {
        if (!court.hasCase(c)) {
            return BAD;
        }
        round.goByDocket(court, trial, 0);
        return round.verdict[c];
    }

    // ---- what is best for a side

    public int friends(int c, int side) {
        return isFlame(c, side) ? judgesFor(c, side) : BAD;
    }

    public int wax(int c, int side, int j) {
        return firstThatWins(c, side, j, KIND);
    }

    public int least(int c, int side, int j) {
        return firstThatWins(c, side, j, LENGTH);
    }

    public int hand(int c, int side, int j) {
        return firstThatWins(c, side, j, GUARD);
    }

    public int turn(int c, int j, int s) {
        if (!court.hasCase(c) || !court.hasJudge(j) || !isIn(s, STRENGTH_LEAST, STRENGTH_MOST)) {
            return BAD;
        }
        int verdict = verdictNow(c, j);
        for (int minute = 0; minute <= MINUTE_MOST; minute++) {
            prepare(c, j, 0);
            trial.blows(minute, s);
            if (trial.verdictHeld() != verdict) {
                return minute;
            }
        }
        return NONE;
    }

    public int sure(int c, int side, int j) {
        if (!isFlame(c, side) || !court.hasJudge(j)) {
            return BAD;
        }
        fillVerdictsByGuards(c, j);
        for (int own = 0; own < GUARDS; own++) {
            if (winsWhateverTheOther(side, own)) {
                return own;
            }
        }
        return NONE;
    }

    public int rest(int c, int j, int what) {
        if (!court.hasCase(c) || !court.hasJudge(j) || !isIn(what, 0, 1)) {
            return BAD;
        }
        fillVerdictsByGuards(c, j);
        int pairs = 0;
        int first = NONE;
        for (int pair = 0; pair < GUARDS * GUARDS; pair++) {
            if (isAtRest(pair / GUARDS, pair % GUARDS)) {
                pairs++;
                first = first == NONE ? pair : first;
            }
        }
        return what == 0 ? pairs : first;
    }

    public int share(int side, int what) {
        if (!isSide(side) || what != 0 && !court.hasCase(what - 10L)) {
            return BAD;
        }
        if (court.judges == 0) {
            return NONE;
        }
        return what == 0 ? casesThatMayBeWon(side) : bestJudge(what - 10, side);
    }

    public int swap(int side, int what) {
        if (!isSide(side) || !isIn(what, 0, 1)) {
            return BAD;
        }
        int most = wonByDocket(side, 0);
        int best = NONE;
        for (int p = 0; p < court.hearings; p++) {
            for (int q = p + 1; q < court.hearings; q++) {
                court.changeDocketJudges(p, q);
                int won = wonByDocket(side, 0);
                court.changeDocketJudges(p, q);
                if (won > most) {
                    most = won;
                    best = 10 * p + q;
                }
            }
        }
        return best == NONE || what == 0 ? best : most;
    }

    // ---- draughts that come

    public long luck(int v, int c, int side, int j, int what) {
        if (!isIn(v, 0, 10) || !isFlame(c, side) || !court.hasJudge(j) || !isIn(what, 0, 1)) {
            return BAD;
        }
        long part = 0;
        for (int away = 0; away < 1 << court.draughts; away++) {
            prepare(c, j, away);
            if (trial.verdictHeld() == side + 1) {
                part += weightOf(v, away);
            }
        }
        return inLowestTerms(part, tenths(), what);
    }

    public long mean(int v, int side, int what) {
        if (!isIn(v, 0, 10) || !isSide(side) || !isIn(what, 0, 1)) {
            return BAD;
        }
        long part = 0;
        for (int away = 0; away < 1 << court.draughts; away++) {
            part += weightOf(v, away) * wonByDocket(side, away);
        }
        return inLowestTerms(part, tenths(), what);
    }

    // ---- which judge it was

    public int see(int c, int j, int verdict) {
        if (!court.hasCase(c) || !court.hasJudge(j) || !isIn(verdict, 1, HUNG)) {
            return BAD;
        }
        return memory.add(c, j, verdict) ? memory.size : FULL;
    }

    public int forget(int n) {
        if (!isIn(n, 0, memory.size)) {
            return BAD;
        }
        int had = memory.size;
        memory.size = n;
        return had;
    }

    public int habits(int j) {
        return court.hasJudge(j) ? habitsAsSeen(j) : BAD;
    }

    public int slows(int j) {
        if (!court.hasJudge(j)) {
            return BAD;
        }
        int bits = 0;
        for (int slow = SLOW_LEAST; slow <= SLOW_MOST; slow++) {
            if (memory.fits(court, trial, j, court.habit[j], slow)) {
                bits |= 1 << slow;
            }
        }
        return bits;
    }

    public int ask(int j, int what) {
        if (!court.hasJudge(j) || !isIn(what, 0, 1)) {
            return BAD;
        }
        int habits = habitsAsSeen(j);
        int fewest = Integer.bitCount(habits);
        int best = NONE;
        for (int c = 0; c < court.cases; c++) {
            int left = leftAtTheWorst(c, j, habits);
            if (left < fewest) {
                fewest = left;
                best = c;
            }
        }
        return best == NONE || what == 0 ? best : fewest;
    }

    // ---- by a seed

    public int drift(int seed, int n, int what) {
        if (!isIn(n, 1, TERMS_MOST) || !isIn(what, 0, 1)) {
            return BAD;
        }
        if (court.cases == 0 || court.judges == 0) {
            return STATE;
        }
        copyRow(court.length, driftLengths);
        int wins = 0;
        int next = seed;
        for (int i = 0; i < n; i++) {
            next = next * 1103515245 + 12345;
            wins += driftVerdict((next >>> 16) & 0x7FFF) == 1 ? 1 : 0;
        }
        return what == 0 ? wins : court.sumOf(driftLengths);
    }

    // ---- images, sheets

    public int keep(int k) {
        if (!isIn(k, 0, 1)) {
            return BAD;
        }
        int had = kept[k] ? 1 : 0;
        imageOf(k).becomes(court);
        kept[k] = true;
        return had;
    }

    public int back(int k) {
        if (!isIn(k, 0, 1)) {
            return BAD;
        }
        if (!kept[k]) {
            return STATE;
        }
        court.becomes(imageOf(k));
        return court.sumOf(court.length);
    }

    public int sheet(int k, int lane, int n) {
        if (!isSheet(k, lane) || n > CELLS_MOST) {
            return BAD;
        }
        if (n < 0) {
            return -10 - SIZE_FAULT;
        }
        sheets.renew(k, lane, n);
        return 1;
    }

    public int lay(int k, int i, int v) {
        if (!isSheet(k, LANE_BYTES)) {
            return BAD;
        }
        if (sheets.isNothing(k)) {
            return -10 - NULL_FAULT;
        }
        if (!sheets.hasCell(k, i)) {
            return -10 - INDEX_FAULT;
        }
        sheets.put(k, i, v);
        return 1;
    }

    public int read(int k, int lane, int f, int n) {
        if (!isSheet(k, lane) || !isIn(n, 0, PAIRS_MOST)) {
            return BAD;
        }
        int refusal = n == 0 ? 0 : sheets.faultAs(k, lane);
        int whole = refusal == 0 ? sheets.wholePairs(k, f, n) : 0;
        int accepted = pairsAccepted(k, f, whole);
        if (accepted < whole) {
            return -20 - accepted;
        }
        for (int i = 0; i < whole; i++) {
            hearForGood(sheets.cell(k, f + 2 * i), sheets.cell(k, f + 2 * i + 1));
        }
        lastTorn = refusal == 0 && whole < n ? INDEX_FAULT : refusal;
        return whole;
    }

    public int torn() {
        return lastTorn;
    }

    public int count(int what) {
        switch (what) {
            case 0: return memory.size;
            case 1: return (kept[0] ? 1 : 0) + (kept[1] ? 1 : 0);
            case 2: return reader.size;
            case 3: return sheets.isNothing(0) ? NONE : sheets.size[0];
            case 4: return court.sumOf(court.guard);
            case 5: return Integer.bitCount(bitsOf(court.appealed, court.cases, 1));
            default: return BAD;
        }
    }

    // ---- what the calls have in common

    private static boolean isIn(long v, int low, int high) {
        return v >= low && v <= high;
    }

    private static boolean isSide(int side) {
        return isIn(side, 0, 1);
    }

    private static boolean isSheet(int k, int lane) {
        return isIn(k, 0, SHEETS - 1) && isIn(lane, LANE_BYTES, LANE_INTS);
    }

    private boolean isFlame(int c, int side) {
        return court.hasCase(c) && isSide(side);
    }

    private Court imageOf(int k) {
        return k == 0 ? firstImage : secondImage;
    }

    private static int exchange(int[] row, int at, int v) {
        int had = row[at];
        row[at] = v;
        return had;
    }

    private static void copyRow(int[] from, int[] to) {
        System.arraycopy(from, 0, to, 0, Math.min(from.length, to.length));
    }

    /** Of the first places of a row, those that hold this value. */
    private static int bitsOf(int[] row, int places, int value) {
        int bits = 0;
        for (int i = 0; i < places && i < row.length; i++) {
            bits |= row[i] == value ? 1 << i : 0;
        }
        return bits;
    }

    /** Ahead of a HEARING, were it now: away are the DRAUGHTS that stay away (bits). */
    private void prepare(int c, int j, int away) {
        trial.prepare(court, c, j, away);
    }

    private int verdictNow(int c, int j) {
        prepare(c, j, 0);
        return trial.verdictHeld();
    }

    private int hearForGood(int c, int j) {
        int verdict = verdictNow(c, j);
        court.length[2 * c] = trial.length[0];
        court.length[2 * c + 1] = trial.length[1];
        court.verdict[c] = verdict;
        court.endMinute[c] = trial.minute;
        court.endJudge[c] = j;
        return verdict;
    }

    /** How many of the pairs hear() would take, one behind another, until it refuses one. */
    private int pairsAccepted(int k, int f, int pairs) {
        int heard = 0;
        for (int i = 0; i < pairs; i++) {
            int c = sheets.cell(k, f + 2 * i);
            int j = sheets.cell(k, f + 2 * i + 1);
            if (!court.hasCase(c) || !court.hasJudge(j) || court.verdict[c] != 0 || (heard >> c & 1) != 0) {
                return i;
            }
            heard |= 1 << c;
        }
        return pairs;
    }

    private int judgesFor(int c, int side) {
        int bits = 0;
        for (int j = 0; j < court.judges; j++) {
            bits |= verdictNow(c, j) == side + 1 ? 1 << j : 0;
        }
        return bits;
    }

    private int firstThatWins(int c, int side, int j, int what) {
        if (!isFlame(c, side) || !court.hasJudge(j)) {
            return BAD;
        }
        for (int v = 0; v <= FLAME_BOUNDS[what]; v++) {
            prepare(c, j, 0);
            trial.change(side, what, v);
            if (trial.verdictHeld() == side + 1) {
                return v;
            }
        }
        return NONE;
    }

    private void fillVerdictsByGuards(int c, int j) {
        for (int pair = 0; pair < GUARDS * GUARDS; pair++) {
            prepare(c, j, 0);
            trial.change(0, GUARD, pair / GUARDS);
            trial.change(1, GUARD, pair % GUARDS);
            verdictsByGuards[pair] = trial.verdictHeld();
        }
    }

    private boolean winsWhateverTheOther(int side, int own) {
        for (int other = 0; other < GUARDS; other++) {
            int pair = side == 0 ? GUARDS * own + other : GUARDS * other + own;
            if (verdictsByGuards[pair] != side + 1) {
                return false;
            }
        }
        return true;
    }

    private boolean isAtRest(int a, int b) {
        int verdict = verdictsByGuards[GUARDS * a + b];
        for (int other = 0; other < GUARDS; other++) {
            if (worth(verdictsByGuards[GUARDS * other + b], 0) > worth(verdict, 0)
                    || worth(verdictsByGuards[GUARDS * a + other], 1) > worth(verdict, 1)) {
                return false;
            }
        }
        return true;
    }

    private static int worth(int verdict, int side) {
        if (verdict == HUNG) {
            return 1;
        }
        return verdict == side + 1 ? 2 : 0;
    }

    private int casesThatMayBeWon(int side) {
        int won = 0;
        for (int c = 0; c < court.cases; c++) {
            won += court.verdict[c] == 0 && judgesFor(c, side) != 0 ? 1 : 0;
        }
        return won;
    }

    /** CASES do not touch one another, so the first JUDGES of all are the first of each: JUDGE 0 where none helps. */
    private int bestJudge(int c, int side) {
        if (court.verdict[c] != 0) {
            return NONE;
        }
        int judges = judgesFor(c, side);
        return judges == 0 ? 0 : Integer.numberOfTrailingZeros(judges);
    }

    private int wonByDocket(int side, int away) {
        round.goByDocket(court, trial, away);
        return Integer.bitCount(bitsOf(round.verdict, court.cases, side + 1));
    }

    /** In how many of all tenths these DRAUGHTS stay away and the others come. */
    private long weightOf(int v, int away) {
        long weight = 1;
        for (int i = 0; i < court.draughts; i++) {
            weight *= (away >> i & 1) != 0 ? v : 10 - v;
        }
        return weight;
    }

    private long tenths() {
        long whole = 1;
        for (int i = 0; i < court.draughts; i++) {
            whole *= 10;
        }
        return whole;
    }

    private static long inLowestTerms(long part, long whole, int what) {
        long divisor = whole;
        long left = part;
        // the bound is only to be seen: numbers below 100,000 need some 25 steps
        for (int i = 0; i < 100 && left != 0; i++) {
            long rest = divisor % left;
            divisor = left;
            left = rest;
        }
        if (divisor <= 0) {
            return BAD;
        }
        return (what == 0 ? part : whole) / divisor;
    }

    private int habitsAsSeen(int j) {
        int bits = 0;
        for (int habit = 0; habit < HABITS; habit++) {
            bits |= memory.fits(court, trial, j, habit, court.slow[j]) ? 1 << habit : 0;
        }
        return bits;
    }

    private int leftAtTheWorst(int c, int j, int habits) {
        int most = 0;
        for (int verdict = 1; verdict <= HUNG; verdict++) {
            int left = 0;
            for (int habit = 0; habit < HABITS; habit++) {
                prepare(c, j, 0);
                trial.habit = habit;
                left += (habits >> habit & 1) != 0 && trial.verdictHeld() == verdict ? 1 : 0;
            }
            most = Math.max(most, left);
        }
        return most;
    }

    private int driftVerdict(int got) {
        if (court.cases == 0 || court.judges == 0) {
            return 0;
        }
        int c = got % court.cases;
        driftLengths[2 * c + got / 8 % 2] = got / 16 % 20;
        prepare(c, got / 512 % court.judges, 0);
        trial.change(0, LENGTH, driftLengths[2 * c]);
        trial.change(1, LENGTH, driftLengths[2 * c + 1]);
        int verdict = trial.verdictHeld();
        driftLengths[2 * c] = trial.length[0];
        driftLengths[2 * c + 1] = trial.length[1];
        return verdict;
    }

    /** All that an IMAGE holds. A FLAME's place in its rows is two times its CASE and its SIDE. */
    private static final class Court {
        int cases = 0;
        int judges = 0;
        int draughts = 0;
        int hearings = 0;
        final int[] kind = new int[FLAMES_MOST];
        final int[] length = new int[FLAMES_MOST];
        final int[] guard = new int[FLAMES_MOST];
        final int[] verdict = new int[CASES_MOST];
        final int[] appealed = new int[CASES_MOST];
        final int[] endMinute = new int[CASES_MOST];
        final int[] endJudge = new int[CASES_MOST];
        final int[] habit = new int[JUDGES_MOST];
        final int[] slow = new int[JUDGES_MOST];
        final int[] minute = new int[DRAUGHTS_MOST];
        final int[] strength = new int[DRAUGHTS_MOST];
        final int[] docketCase = new int[HEARINGS_MOST];
        final int[] docketJudge = new int[HEARINGS_MOST];

        boolean hasCase(long c) {
            return isIn(c, 0, cases - 1);
        }

        boolean hasJudge(int j) {
            return isIn(j, 0, judges - 1);
        }

        void clear() {
            cases = 0;
            judges = 0;
            draughts = 0;
            hearings = 0;
        }

        void becomes(Court other) {
            cases = other.cases;
            judges = other.judges;
            draughts = other.draughts;
            hearings = other.hearings;
            copyRow(other.kind, kind);
            copyRow(other.length, length);
            copyRow(other.guard, guard);
            copyRow(other.verdict, verdict);
            copyRow(other.appealed, appealed);
            copyRow(other.endMinute, endMinute);
            copyRow(other.endJudge, endJudge);
            copyRow(other.habit, habit);
            copyRow(other.slow, slow);
            copyRow(other.minute, minute);
            copyRow(other.strength, strength);
            copyRow(other.docketCase, docketCase);
            copyRow(other.docketJudge, docketJudge);
        }

        /** Its FLAMES stand in their rows already. */
        void addCase() {
            if (cases < CASES_MOST) {
                verdict[cases] = 0;
                appealed[cases] = 0;
                endMinute[cases] = NONE;
                endJudge[cases] = NONE;
                cases++;
            }
        }

        boolean addJudge(int itsHabit, int itsSlow) {
            if (judges >= JUDGES_MOST) {
                return false;
            }
            habit[judges] = itsHabit;
            slow[judges] = itsSlow;
            judges++;
            return true;
        }

        boolean addDraught(int itsMinute, int itsStrength) {
            if (draughts >= DRAUGHTS_MOST) {
                return false;
            }
            minute[draughts] = itsMinute;
            strength[draughts] = itsStrength;
            draughts++;
            return true;
        }

        boolean addHearing(int c, int j) {
            if (hearings >= HEARINGS_MOST) {
                return false;
            }
            docketCase[hearings] = c;
            docketJudge[hearings] = j;
            hearings++;
            return true;
        }

        void changeDocketJudges(int p, int q) {
            int j = docketJudge[p];
            docketJudge[p] = docketJudge[q];
            docketJudge[q] = j;
        }

        /** Of a row that has a place for each FLAME. */
        int sumOf(int[] row) {
            int sum = 0;
            for (int i = 0; i < 2 * cases && i < row.length; i++) {
                sum += row[i];
            }
            return sum;
        }
    }

    /** One HEARING by itself: what it is prepared with may be changed, the court it comes from stays as it is. */
    private static final class Trial {
        final int[] kind = new int[2];
        final int[] length = new int[2];
        final int[] guard = new int[2];
        final int[] strongest = new int[MINUTE_MOST + 1];
        int habit = 0;
        int slow = SLOW_LEAST;
        int minute = 0;

        void prepare(Court court, int c, int j, int away) {
            for (int side = 0; side < 2; side++) {
                kind[side] = court.kind[2 * c + side];
                length[side] = court.length[2 * c + side];
                guard[side] = court.guard[2 * c + side];
            }
            habit = court.habit[j];
            slow = court.slow[j];
            for (int m = 0; m < strongest.length; m++) {
                strongest[m] = 0;
            }
            for (int i = 0; i < court.draughts; i++) {
                if ((away >> i & 1) == 0) {
                    blows(court.minute[i], court.strength[i]);
                }
            }
        }

        void blows(int inMinute, int strength) {
            strongest[inMinute] = Math.max(strongest[inMinute], strength);
        }

        void change(int side, int what, int v) {
            if (what == KIND) {
                kind[side] = v;
            } else if (what == LENGTH) {
                length[side] = v;
            } else {
                guard[side] = v;
            }
        }

        int verdictHeld() {
            minute = 0;
            while (minute < slow && burnsStill(0) && burnsStill(1)) {
                length[0] = Math.max(0, length[0] - BURNS[kind[0]]);
                length[1] = Math.max(0, length[1] - BURNS[kind[1]]);
                minute++;
            }
            boolean burns0 = burnsStill(0);
            boolean burns1 = burnsStill(1);
            if (burns0 && burns1) {
                return goesTo() == 0 ? 2 : 1;
            }
            if (burns0) {
                return 1;
            }
            return burns1 ? 2 : HUNG;
        }

        boolean burnsStill(int side) {
            return length[side] > 0 && guard[side] >= strongest[minute];
        }

        int goesTo() {
            int longer = length[1] > length[0] ? 1 : 0;
            switch (habit) {
                case LONG: return longer;
                case SHORT: return 1 - longer;
                case BARE: return guard[1] < guard[0] ? 1 : 0;
                default: return 0;
            }
        }
    }

    /** What comes BY THE DOCKET. */
    private static final class Round {
        final int[] verdict = new int[CASES_MOST];
        int firstPassed = NONE;
        int minutes = 0;

        void goByDocket(Court court, Trial trial, int away) {
            copyRow(court.verdict, verdict);
            firstPassed = NONE;
            minutes = 0;
            for (int i = 0; i < court.hearings; i++) {
                int c = court.docketCase[i];
                if (verdict[c] == 0) {
                    trial.prepare(court, c, court.docketJudge[i], away);
                    verdict[c] = trial.verdictHeld();
                    minutes += trial.minute + 1;
                } else if (firstPassed == NONE) {
                    firstPassed = i;
                }
            }
        }
    }

    /** What is SEEN: it is held against the CASES as they are when it is asked of. */
    private static final class Memory {
        final int[] ofCase = new int[SEEN_MOST];
        final int[] ofJudge = new int[SEEN_MOST];
        final int[] verdict = new int[SEEN_MOST];
        int size = 0;

        boolean add(int c, int j, int v) {
            if (size >= SEEN_MOST) {
                return false;
            }
            ofCase[size] = c;
            ofJudge[size] = j;
            verdict[size] = v;
            size++;
            return true;
        }

        /** Whether all is as SEEN, were this JUDGE of this HABIT and so SLOW. */
        boolean fits(Court court, Trial trial, int j, int habit, int slow) {
            for (int i = 0; i < size; i++) {
                trial.prepare(court, ofCase[i], ofJudge[i], 0);
                if (ofJudge[i] == j) {
                    trial.habit = habit;
                    trial.slow = slow;
                }
                if (trial.verdictHeld() != verdict[i]) {
                    return false;
                }
            }
            return true;
        }
    }

    /** The rows of all SHEETS, one behind another; a SHEET of size NONE has nothing. */
    private static final class Sheets {
        final int[] cells = new int[SHEETS * CELLS_MOST];
        final int[] lane = new int[SHEETS];
        final int[] size = {NONE, NONE, NONE, NONE};

        void renew(int k, int itsLane, int n) {
            lane[k] = itsLane;
            size[k] = n;
            for (int i = 0; i < n; i++) {
                cells[k * CELLS_MOST + i] = 0;
            }
        }

        boolean isNothing(int k) {
            return size[k] == NONE;
        }

        boolean hasCell(int k, int i) {
            return isIn(i, 0, size[k] - 1);
        }

        int cell(int k, int i) {
            return hasCell(k, i) ? cells[k * CELLS_MOST + i] : NONE;
        }

        void put(int k, int i, int v) {
            int cut = v;
            if (lane[k] == LANE_BYTES) {
                cut = (byte) v;
            } else if (lane[k] == LANE_SHORTS) {
                cut = (short) v;
            }
            cells[k * CELLS_MOST + i] = cut;
        }

        /** What the machine refuses of a SHEET taken as of a lane, ahead of its CELLS. */
        int faultAs(int k, int wantedLane) {
            if (isNothing(k)) {
                return NULL_FAULT;
            }
            return lane[k] == wantedLane ? 0 : CAST_FAULT;
        }

        int wholePairs(int k, int f, int n) {
            return hasCell(k, f) ? Math.min(n, (size[k] - f) / 2) : 0;
        }
    }

    /** THE TAPE, and its text TOKEN by TOKEN. Every FAULT is of the TOKEN that is read: its place is from. */
    private static final class Reader {
        static final int END = 0, NAME = 1, NUMBER = 2, SIGN = 3, NOTHING = 4;

        final int[] tape = new int[TAPE_MOST];
        final Court told = new Court();
        int size = 0;
        int wrong = 0;
        boolean docketTold = false;
        int token = END;
        int from = 0;
        int behind = 0;
        int number = 0;

        boolean add(int c) {
            if (size >= TAPE_MOST) {
                return false;
            }
            tape[size] = c;
            size++;
            return true;
        }

        boolean begins() {
            told.clear();
            docketTold = false;
            wrong = 0;
            behind = 0;
            return readsNext();
        }

        boolean isAtEnd() {
            return token == END;
        }

        boolean fails(int withFault) {
            wrong = withFault;
            return false;
        }

        boolean docketStands() {
            for (int i = 0; i < told.hearings; i++) {
                if (!told.hasCase(told.docketCase[i]) || !told.hasJudge(told.docketJudge[i])) {
                    return fails(6);
                }
            }
            return true;
        }

        boolean takesLine() {
            if (isNamed("case")) {
                return takesCase();
            }
            if (isNamed("draught")) {
                return takesDraught();
            }
            if (isNamed("docket")) {
                return takesDocket();
            }
            int habit = habitNamed();
            return habit == NONE ? fails(2) : takesJudge(habit);
        }

        boolean takesCase() {
            if (told.cases >= CASES_MOST) {
                return fails(5);
            }
            if (!readsNext() || !takesFlame(2 * told.cases) || !takesFlame(2 * told.cases + 1)) {
                return false;
            }
            told.addCase();
            return takesSign();
        }

        /** Behind it the TOKEN that follows is read, as only that one shows whether a GUARD is told. */
        boolean takesFlame(int at) {
            int kind = kindNamed();
            if (kind == NONE) {
                return fails(2);
            }
            if (!readsNumber(0, LENGTH_MOST)) {
                return false;
            }
            told.kind[at] = kind;
            told.length[at] = number;
            told.guard[at] = 0;
            if (!readsNext()) {
                return false;
            }
            if (token != NUMBER) {
                return true;
            }
            told.guard[at] = number;
            return isNumberIn(0, GUARD_MOST) && readsNext();
        }

        boolean takesJudge(int habit) {
            if (told.judges >= JUDGES_MOST) {
                return fails(5);
            }
            if (!readsNumber(SLOW_LEAST, SLOW_MOST)) {
                return false;
            }
            told.addJudge(habit, number);
            return readsNext() && takesSign();
        }

        boolean takesDraught() {
            if (told.draughts >= DRAUGHTS_MOST) {
                return fails(5);
            }
            if (!readsNumber(0, MINUTE_MOST)) {
                return false;
            }
            int minute = number;
            if (!readsNumber(STRENGTH_LEAST, STRENGTH_MOST)) {
                return false;
            }
            told.addDraught(minute, number);
            return readsNext() && takesSign();
        }

        boolean takesDocket() {
            if (docketTold) {
                return fails(4);
            }
            docketTold = true;
            if (!readsNext()) {
                return false;
            }
            for (int i = 0; i < HEARINGS_MOST && token == NUMBER; i++) {
                if (!takesHearing()) {
                    return false;
                }
            }
            // behind the most that may be, what stands where one more would begin need be no NUMBER
            boolean isOneMore = told.hearings >= HEARINGS_MOST && token != SIGN && token != END;
            return isOneMore ? fails(5) : takesSign();
        }

        boolean takesHearing() {
            if (!isNumberIn(0, CASES_MOST - 1)) {
                return false;
            }
            int c = number;
            if (!readsNumber(0, JUDGES_MOST - 1)) {
                return false;
            }
            told.addHearing(c, number);
            return readsNext();
        }

        boolean takesSign() {
            return token == SIGN ? readsNext() : fails(2);
        }

        boolean readsNumber(int low, int high) {
            if (!readsNext()) {
                return false;
            }
            return token == NUMBER ? isNumberIn(low, high) : fails(2);
        }

        boolean isNumberIn(int low, int high) {
            return isIn(number, low, high) || fails(3);
        }

        boolean readsNext() {
            while (behind < size && tape[behind] == ' ') {
                behind++;
            }
            from = behind;
            if (from >= size) {
                token = END;
                return true;
            }
            token = tokenOf(tape[from]);
            behind++;
            while (behind < size && token != SIGN && tokenOf(tape[behind]) == token) {
                behind++;
            }
            if (token == NOTHING || token == NUMBER && behind - from > 2) {
                return fails(1);
            }
            number = token == NUMBER ? figuresRead() : NONE;
            return true;
        }

        int figuresRead() {
            int value = 0;
            for (int i = from; i < behind; i++) {
                value = 10 * value + tape[i] - '0';
            }
            return value;
        }

        static int tokenOf(int c) {
            if (c >= 'a' && c <= 'z') {
                return NAME;
            }
            if (c >= '0' && c <= '9') {
                return NUMBER;
            }
            return c == ';' ? SIGN : NOTHING;
        }

        int kindNamed() {
            if (isNamed("tallow")) {
                return 0;
            }
            if (isNamed("wax")) {
                return 1;
            }
            if (isNamed("bees")) {
                return 2;
            }
            return isNamed("thief") ? 3 : NONE;
        }

        int habitNamed() {
            if (isNamed("first")) {
                return 0;
            }
            if (isNamed("long")) {
                return LONG;
            }
            if (isNamed("short")) {
                return SHORT;
            }
            return isNamed("bare") ? BARE : NONE;
        }

        boolean isNamed(String name) {
            if (token != NAME || behind - from != name.length()) {
                return false;
            }
            for (int i = 0; i < name.length() && from + i < TAPE_MOST; i++) {
                if (tape[from + i] != name.charAt(i)) {
                    return false;
                }
            }
            return true;
        }
    }
}
