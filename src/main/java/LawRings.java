import java.util.Arrays;

/**
 * Whose law decides a case: lands, their books of rules, what each book says,
 * and how judges end who follow the sendings each in the way of their land.
 *
 * Sets of rules are the bits of a long (there are at most 60), so that what a
 * book says is its lowest bit, in one case as in all 15625 of them.
 */
public final class LawRings {
    public static final int NONE = -1, BAD = -2, NO = -3, FULL = -4;
    public static final int ENDLESS = -5;

    private static final int LANDS = 4, TIES = 6, KINDS = 3, DAYS = 1000, WAYS = 4;
    private static final int ENDS = 2, WHOMS = 11, WHATS = 14;
    private static final int MOST_CASES = 16, MOST_TOLD = 60, MOST_RULES = 60;
    private static final int MOST_TESTS = 2, MOST_TREATIES = 8, MOST_TRIALS = 12;

    private static final int INNER = 0, WHOLE = 1;
    private static final int NEVER = 0, ONCE = 1, TO_THE_END = 2, AS_THE_OTHER = 3;

    // What a TEST wants of its TIE, and of whom an END is.
    private static final int TOLD = 0, UNTOLD = 1, HERE = 2, ELSEWHERE = 3, LAND_0 = 4, SAME_AS_0 = 8;
    private static final int OF_THIS = 0, OF_LAND_0 = 1, OF_TIE_0 = 5;

    // In ALL CASES a TIE is none or one of the LANDS, a digit to the base 5.
    private static final int CHOICES = LANDS + 1, ALL = 15625;
    private static final int MOST_PLACES = 30;

    // What count(..) can tell, and ask(..).
    private static final int COUNTS = 5, ANSWERS = 3;

    // The calls that answer NONE tell a BAD number so; chain(..) has two more of its own.
    private static final int BAD_HERE = -10;
    private static final int CHAIN_END = -3, TOO_FEW = -5;

    private final Cases cases = new Cases();
    private final Rules rules = new Rules();
    private final Lands lands = new Lands();
    private final Treaties treaties = new Treaties();
    private final Trials trials = new Trials();
    private final Hearing hearing = new Hearing(rules, lands, treaties);
    private final AllCases allCases = new AllCases(rules, hearing);
    private final Striking striking = new Striking(cases, trials, hearing);
    private final Asking asking = new Asking(cases, allCases);
    private final Chain oneChain = new Chain();
    private final Chain otherChain = new Chain();

    public LawRings() {
    }

    // ---- cases, rules

    public int newCase(int day) {
        if (!isDay(day)) return BAD;
        if (cases.size >= MOST_CASES) return FULL;
        return cases.add(day);
    }

    public int tie(int case0, int tie, int land, int from) {
        if (!isCase(case0) || !isTie(tie) || !isDay(from)) return BAD;
        if (land != NONE && !isLand(land)) return BAD;
        if (cases.told >= MOST_TOLD) return FULL;
        return cases.tell(case0, tie, land, from);
    }

    public int which(int case0, int tie) {
        if (!isCase(case0) || !isTie(tie)) return BAD_HERE;
        return cases.landOf(case0, tie);
    }

    public int rule(int land, int kind, int end, int whom, int from) {
        if (!isLand(land) || !isKind(kind) || !isDay(from)) return BAD;
        if (!isBelow(end, ENDS) || !isBelow(whom, WHOMS)) return BAD;
        if (rules.size >= MOST_RULES) return FULL;
        return rules.add(land, kind, end, whom, from);
    }

    public int test(int rule, int tie, int what) {
        if (!isRule(rule) || !isTie(tie) || !isBelow(what, WHATS)) return BAD;
        if (rules.tests[rule] >= MOST_TESTS) return FULL;
        return rules.addTest(rule, tie, what);
    }

    public int strike(int rule, int day) {
        if (!isRule(rule) || !isDay(day)) return BAD;
        if (rules.struck[rule] != NONE) return NO;
        rules.struck[rule] = day;
        return 1;
    }

    public int sort(int land, int kind, int as) {
        if (!isLand(land) || !isKind(kind) || !isKind(as)) return BAD;
        int was = lands.ownKind(land, kind);
        lands.sorts[land * KINDS + kind] = as;
        return was;
    }

    public int way(int land, int v) {
        if (!isLand(land) || !isBelow(v, WAYS)) return BAD;
        int was = lands.ways[land];
        lands.ways[land] = v;
        return was;
    }

    public int treaty(int kind, int lands, int tie) {
        if (!isKind(kind) || !isBelow(lands, 1 << LANDS) || !isTie(tie)) return BAD;
        if (treaties.size >= MOST_TREATIES) return FULL;
        return treaties.add(kind, lands, tie);
    }

    // ---- one case

    public int holds(int rule, int case0) {
        if (!isRule(rule) || !isCase(case0)) return BAD;
        hearing.open(cases, case0);
        return (hearing.held >>> rule & 1L) != 0 ? 1 : 0;
    }

    public int says(int land, int case0, int kind) {
        if (!isQuestion(land, case0, kind)) return BAD_HERE;
        hearing.open(cases, case0);
        return rules.first(hearing.held, land, lands.ownKind(land, kind));
    }

    public int said(int land, int case0, int kind) {
        if (!isQuestion(land, case0, kind)) return BAD;
        hear(case0, kind);
        return 10 * hearing.end[land] + hearing.to[land];
    }

    public int ends(int land, int case0, int kind) {
        if (!isQuestion(land, case0, kind)) return BAD;
        hear(case0, kind);
        return hearing.outcome(land);
    }

    public int chain(int land, int case0, int kind, int what) {
        if (!isQuestion(land, case0, kind)) return BAD_HERE;
        if (what < 0 && what != NONE && what != CHAIN_END) return BAD_HERE;
        hear(case0, kind);
        oneChain.follow(hearing, land);
        if (what == NONE) return oneChain.size;
        if (what == CHAIN_END) return 10 * oneChain.back + oneChain.last;
        return what < oneChain.size ? oneChain.lands[what] : TOO_FEW;
    }

    public int parts(int a, int b, int case0, int kind) {
        if (!isQuestion(a, case0, kind) || !isOther(a, b)) return BAD;
        hear(case0, kind);
        oneChain.follow(hearing, a);
        otherChain.follow(hearing, b);
        for (int place = 1; place <= LANDS; place++) {
            if (oneChain.step(place) != otherChain.step(place)) return place;
        }
        return 0;
    }

    // ---- all cases

    public int endsIn(int land, int kind, int day, int i) {
        if (!isTable(land, kind, day) || !isBelow(i, ALL)) return BAD;
        allCases.start(day);
        allCases.turnTo(i, kind);
        return hearing.outcome(land);
    }

    public int unlike(int a, int b, int kind, int day) {
        if (!isTable(a, kind, day) || !isOther(a, b)) return BAD;
        return allCases.countUnlike(a, b, kind, day);
    }

    public int least(int a, int b, int kind, int day) {
        if (!isTable(a, kind, day) || !isOther(a, b)) return BAD;
        return allCases.leastUnlike(a, b, kind, day);
    }

    public int reached(int land, int kind, int day) {
        if (!isTable(land, kind, day)) return BAD;
        return allCases.landsReached(land, kind, day);
    }

    public int same(int kind, int day) {
        if (!isKind(kind) || !isDay(day)) return BAD;
        return allCases.countAlike(kind, day);
    }

    public int dead(int land, int day) {
        if (!isLand(land) || !isDay(day)) return BAD;
        long living = allCases.everFirst(land, day, lands.kindsSorted(land));
        return rules.placesWithout(living, land, day);
    }

    // ---- what to do

    public int trial(int rule) {
        if (!isRule(rule) || trials.has(rule)) return BAD;
        if (trials.size >= MOST_TRIALS) return FULL;
        return trials.add(rule);
    }

    public int untry() {
        int were = trials.size;
        trials.size = 0;
        return were;
    }

    public int kindOf(int case0, int kind) {
        if (!isCase(case0) || !isKind(kind)) return BAD;
        int was = cases.kind[case0];
        cases.kind[case0] = kind;
        return was;
    }

    public int fewest() {
        if (cases.size == 0) return NO;
        return striking.fewestOf();
    }

    public int ask(int case0, int kind, int wished, int free, int what) {
        if (!isQuestion(wished, case0, kind)) return BAD;
        if (!isBelow(free, 1 << TIES) || !isBelow(what, ANSWERS)) return BAD;
        asking.search(case0, kind, wished, free);
        return what == 0 ? asking.changes : what == 1 ? asking.judge : asking.number;
    }

    public int count(int what) {
        if (!isBelow(what, COUNTS)) return BAD;
        switch (what) {
            case 0: return cases.size;
            case 1: return cases.told;
            case 2: return rules.size;
            case 3: return treaties.size;
            default: return trials.size;
        }
    }

    public long digest() {
        long h = 397L;
        for (int what = 0; what < COUNTS; what++) h = mix(h, count(what));
        for (int i = 0; i < cases.size; i++) h = mixCase(h, i);
        for (int i = 0; i < rules.size; i++) h = mixRule(h, i);
        h = mixAll(h, lands.sorts, lands.sorts.length);
        h = mixAll(h, lands.ways, lands.ways.length);
        for (int i = 0; i < treaties.size; i++) h = mixTreaty(h, i);
        return mixAll(h, trials.rule, trials.size);
    }

    private long mixCase(long before, int i) {
        long h = mix(mix(before, cases.day[i]), cases.kind[i]);
        hearing.open(cases, i);
        h = mixAll(h, hearing.ties, TIES);
        for (int kind = 0; kind < KINDS; kind++) {
            hearing.readBooks(kind);
            for (int land = 0; land < LANDS; land++) h = mix(h, hearing.outcome(land));
        }
        return h;
    }

    private long mixRule(long before, int i) {
        long h = mix(mix(before, rules.land[i]), rules.kind[i]);
        h = mix(mix(h, rules.end[i]), rules.whom[i]);
        h = mix(mix(h, rules.from[i]), rules.struck[i]);
        h = mix(h, rules.tests[i]);
        for (int n = 0; n < rules.tests[i]; n++) {
            int at = i * MOST_TESTS + n;
            h = mix(mix(h, rules.tie[at]), rules.what[at]);
        }
        return h;
    }

    private long mixTreaty(long before, int i) {
        return mix(mix(mix(before, treaties.kind[i]), treaties.lands[i]), treaties.tie[i]);
    }

    private static long mixAll(long before, int[] values, int size) {
        long h = before;
        for (int i = 0; i < size; i++) h = mix(h, values[i]);
        return h;
    }

    private static long mix(long h, int v) {
        return 31L * h + v;
    }

    private void hear(int case0, int kind) {
        hearing.open(cases, case0);
        hearing.readBooks(kind);
    }

    private boolean isCase(int case0) {
        return isBelow(case0, cases.size);
    }

    private boolean isRule(int rule) {
        return isBelow(rule, rules.size);
    }

    private boolean isQuestion(int land, int case0, int kind) {
        return isLand(land) && isCase(case0) && isKind(kind);
    }

    private static boolean isTable(int land, int kind, int day) {
        return isLand(land) && isKind(kind) && isDay(day);
    }

    private static boolean isOther(int a, int b) {
        return isLand(b) && a != b;
    }

    private static boolean isLand(int land) {
        return isBelow(land, LANDS);
    }

    private static boolean isTie(int tie) {
        return isBelow(tie, TIES);
    }

    private static boolean isKind(int kind) {
        return isBelow(kind, KINDS);
    }

    private static boolean isDay(int day) {
        return isBelow(day, DAYS);
    }

    private static boolean isBelow(int number, int bound) {
        return number >= 0 && number < bound;
    }

    /**
     * The CASES. A CASE's DAY never changes, so of all that is told of a TIE
     * only what counts on that DAY is kept, and from which DAY it was told.
     */
    private static final class Cases {
        int size;
        int told;
        final int[] day = new int[MOST_CASES];
        final int[] kind = new int[MOST_CASES];
        final int[] land = new int[MOST_CASES * TIES];
        final int[] since = new int[MOST_CASES * TIES];

        Cases() {
            Arrays.fill(land, NONE);
            Arrays.fill(since, NONE);
        }

        int add(int onDay) {
            day[size] = onDay;
            size++;
            return size - 1;
        }

        int tell(int number, int tie, int itsLand, int from) {
            int at = number * TIES + tie;
            if (from <= day[number] && from >= since[at]) {
                land[at] = itsLand;
                since[at] = from;
            }
            told++;
            return told;
        }

        int landOf(int number, int tie) {
            return land[number * TIES + tie];
        }
    }

    /** The RULES of all books, as they were told and as bits by what lets them hold. */
    private static final class Rules {
        int size;
        final int[] land = new int[MOST_RULES];
        final int[] kind = new int[MOST_RULES];
        final int[] end = new int[MOST_RULES];
        final int[] whom = new int[MOST_RULES];
        final int[] from = new int[MOST_RULES];
        final int[] struck = new int[MOST_RULES];
        final int[] tests = new int[MOST_RULES];
        final int[] tie = new int[MOST_RULES * MOST_TESTS];
        final int[] what = new int[MOST_RULES * MOST_TESTS];

        // By LAND and KIND: the RULES of that book.
        final long[] book = new long[LANDS * KINDS];
        // By TIE and its LAND (none first): the RULES that cannot hold then.
        final long[] broken = new long[TIES * CHOICES];
        // By two TIES, the lower first: the RULES that hold only if they are the same.
        final long[] paired = new long[TIES * TIES];

        int add(int ofLand, int ofKind, int itsEnd, int ofWhom, int fromDay) {
            int number = size;
            land[number] = ofLand;
            kind[number] = ofKind;
            end[number] = itsEnd;
            whom[number] = ofWhom;
            from[number] = fromDay;
            struck[number] = NONE;
            book[ofLand * KINDS + ofKind] |= 1L << number;
            if (ofWhom >= OF_TIE_0) broken[(ofWhom - OF_TIE_0) * CHOICES] |= 1L << number;
            size++;
            return number;
        }

        int addTest(int rule, int ofTie, int wanted) {
            int at = rule * MOST_TESTS + tests[rule];
            tie[at] = ofTie;
            what[at] = wanted;
            for (int x = NONE; x < LANDS; x++) {
                if (!fits(wanted, x, land[rule])) broken[ofTie * CHOICES + x + 1] |= 1L << rule;
            }
            if (wanted >= SAME_AS_0) pair(rule, ofTie, wanted - SAME_AS_0);
            tests[rule]++;
            return tests[rule];
        }

        private void pair(int rule, int a, int b) {
            paired[Math.min(a, b) * TIES + Math.max(a, b)] |= 1L << rule;
        }

        /** Whether a TIE's LAND x alone lets the TEST be so; that two are the same is seen to by pairs. */
        private static boolean fits(int wanted, int x, int here) {
            if (wanted == UNTOLD) return x == NONE;
            if (wanted == TOLD || wanted >= SAME_AS_0) return x != NONE;
            if (wanted == HERE) return x == here;
            if (wanted == ELSEWHERE) return x != NONE && x != here;
            return x == wanted - LAND_0;
        }

        boolean stands(int rule, int day) {
            return from[rule] <= day && (struck[rule] == NONE || day < struck[rule]);
        }

        long standing(int day) {
            long bits = 0L;
            for (int i = 0; i < size; i++) {
                if (stands(i, day)) bits |= 1L << i;
            }
            return bits;
        }

        /** The RULES that one TIE, and it beside those above it, lets hold. */
        long letBy(int[] ties, int t) {
            long bits = ~broken[t * CHOICES + ties[t] + 1];
            for (int u = t + 1; u < TIES; u++) {
                // Two TIES that are both untold are let pass: the TEST's own TIE is broken then.
                if (ties[u] != ties[t]) bits &= ~paired[t * TIES + u];
            }
            return bits;
        }

        int first(long held, int ofLand, int ownKind) {
            long mine = held & book[ofLand * KINDS + ownKind];
            return mine == 0L ? NONE : Long.bitCount((mine & -mine) - 1L);
        }

        int landMeant(int rule, int[] ties) {
            int ofWhom = whom[rule];
            if (ofWhom == OF_THIS) return land[rule];
            return ofWhom < OF_TIE_0 ? ofWhom - OF_LAND_0 : ties[ofWhom - OF_TIE_0];
        }

        /** Of a LAND's RULES that stand, those that are not living, as bits by their place. */
        int placesWithout(long living, int ofLand, int day) {
            int bits = 0;
            int place = 0;
            for (int i = 0; i < size; i++) {
                if (land[i] != ofLand || !stands(i, day)) continue;
                if (place < MOST_PLACES && (living >>> i & 1L) == 0L) bits |= 1 << place;
                place++;
            }
            return bits;
        }
    }

    /** The SORTS and the WAYS of the LANDS. */
    private static final class Lands {
        final int[] sorts = new int[LANDS * KINDS];
        final int[] ways = new int[LANDS];

        Lands() {
            for (int i = 0; i < LANDS * KINDS; i++) sorts[i] = i % KINDS;
        }

        int ownKind(int land, int kind) {
            return sorts[land * KINDS + kind];
        }

        /** The KINDS under which a LAND looks at all, as bits. */
        int kindsSorted(int land) {
            int bits = 0;
            for (int kind = 0; kind < KINDS; kind++) bits |= 1 << ownKind(land, kind);
            return bits;
        }
    }

    /** The TREATIES, above all books. */
    private static final class Treaties {
        int size;
        final int[] kind = new int[MOST_TREATIES];
        final int[] lands = new int[MOST_TREATIES];
        final int[] tie = new int[MOST_TREATIES];

        int add(int ofKind, int among, int byTie) {
            kind[size] = ofKind;
            lands[size] = among;
            tie[size] = byTie;
            size++;
            return size - 1;
        }

        /** The LAND that the first TREATY that tells has for a judge, or NONE. */
        int tells(int judge, int ofKind, int[] ties) {
            for (int i = 0; i < size; i++) {
                int x = ties[tie[i]];
                if (kind[i] != ofKind || x == NONE) continue;
                if ((lands[i] >>> judge & 1) != 0 && (lands[i] >>> x & 1) != 0) return x;
            }
            return NONE;
        }
    }

    /** One CASE before all judges: its TIES, the RULES that hold, and for a KIND what each BOOK SAYS. */
    private static final class Hearing {
        final Rules rules;
        final Lands lands;
        final Treaties treaties;
        final int[] ties = new int[TIES];
        long held;
        int kind;
        final int[] end = new int[LANDS];
        final int[] to = new int[LANDS];
        final Chain chain = new Chain();

        Hearing(Rules rules, Lands lands, Treaties treaties) {
            this.rules = rules;
            this.lands = lands;
            this.treaties = treaties;
        }

        void open(Cases cases, int number) {
            takeTies(cases, number);
            held = rules.standing(cases.day[number]);
            for (int t = 0; t < TIES; t++) held &= rules.letBy(ties, t);
        }

        void takeTies(Cases cases, int number) {
            for (int t = 0; t < TIES; t++) ties[t] = cases.landOf(number, t);
        }

        void readBooks(int ofKind) {
            kind = ofKind;
            for (int land = 0; land < LANDS; land++) {
                int rule = rules.first(held, land, lands.ownKind(land, ofKind));
                end[land] = rule == NONE ? INNER : rules.end[rule];
                to[land] = rule == NONE ? land : rules.landMeant(rule, ties);
            }
        }

        /**
         * HOW a judge ENDS. A judge who waits for another is left for that other. When as many
         * have waited as there are LANDS, the next one asked has come before, and waits again.
         */
        int outcome(int land) {
            int judge = land;
            for (int waiting = 0; waiting < LANDS; waiting++) {
                int told = treaties.tells(judge, kind, ties);
                if (told != NONE) return told;
                if (wayTaken(judge) != AS_THE_OTHER) return byBooks(judge);
                judge = to[judge];
            }
            return ENDLESS;
        }

        /** A judge whose BOOK names no other LAND's WHOLE law follows nothing, whatever the WAY. */
        private int wayTaken(int judge) {
            return end[judge] == WHOLE && to[judge] != judge ? lands.ways[judge] : NEVER;
        }

        private int byBooks(int judge) {
            int taken = wayTaken(judge);
            if (taken == ONCE) return to[to[judge]];
            if (taken == TO_THE_END) {
                // It ends where THE CHAIN does, INNER or back.
                chain.follow(this, judge);
                return chain.last;
            }
            return to[judge];
        }

        boolean allAlike() {
            int one = outcome(0);
            for (int land = 1; land < LANDS; land++) {
                if (outcome(land) != one) return false;
            }
            return true;
        }
    }

    /** THE CHAIN of a LAND: its LANDS, and how it ends. */
    private static final class Chain {
        // What the last step is more than a LAND, so that no LAND is like it.
        private static final int ENDING = 100;

        final int[] lands = new int[LANDS];
        int size;
        int back;
        int last;

        void follow(Hearing hearing, int land) {
            int met = 1 << land;
            lands[0] = land;
            size = 1;
            for (int step = 0; step < LANDS; step++) {
                int at = lands[size - 1];
                back = hearing.end[at];
                last = hearing.to[at];
                if (back == INNER || (met >>> last & 1) != 0 || size >= LANDS) return;
                met |= 1 << last;
                lands[size] = last;
                size++;
            }
        }

        /** What stands at a place behind the first LAND: a LAND, then how it ends, then nothing. */
        int step(int place) {
            if (place < size) return lands[place];
            return place == size ? ENDING + 10 * back + last : NONE;
        }
    }

    /** ALL CASES of a DAY, turned to one after the other in the hearing. */
    private static final class AllCases {
        final Rules rules;
        final Hearing hearing;
        // The RULES that stand and that the TIES from this one upward let hold.
        final long[] letFrom = new long[TIES + 1];

        AllCases(Rules rules, Hearing hearing) {
            this.rules = rules;
            this.hearing = hearing;
        }

        void start(int day) {
            Arrays.fill(hearing.ties, NONE);
            letFrom[TIES] = rules.standing(day);
            letBelow(TIES - 1);
        }

        void turnTo(int number, int kind) {
            setTies(number);
            hearing.readBooks(kind);
        }

        /** Only TIES that change are looked at anew, and those below: tie 0 changes the most often. */
        void setTies(int number) {
            int rest = number;
            int highest = NONE;
            for (int t = 0; t < TIES; t++) {
                int x = rest % CHOICES - 1;
                rest /= CHOICES;
                if (hearing.ties[t] != x) {
                    hearing.ties[t] = x;
                    highest = t;
                }
            }
            letBelow(highest);
        }

        private void letBelow(int highest) {
            for (int t = highest; t >= 0; t--) {
                letFrom[t] = letFrom[t + 1] & rules.letBy(hearing.ties, t);
            }
            hearing.held = letFrom[0];
        }

        private boolean partIn(int number, int a, int b, int kind) {
            turnTo(number, kind);
            return hearing.outcome(a) != hearing.outcome(b);
        }

        int countUnlike(int a, int b, int kind, int day) {
            int found = 0;
            start(day);
            for (int i = 0; i < ALL; i++) {
                if (partIn(i, a, b, kind)) found++;
            }
            return found;
        }

        int leastUnlike(int a, int b, int kind, int day) {
            int best = NONE;
            int fewestTold = TIES + 1;
            start(day);
            for (int i = 0; i < ALL; i++) {
                if (!partIn(i, a, b, kind)) continue;
                int told = tiesTold();
                if (told < fewestTold) {
                    fewestTold = told;
                    best = i;
                }
            }
            return best;
        }

        private int tiesTold() {
            int told = 0;
            for (int t = 0; t < TIES; t++) {
                if (hearing.ties[t] != NONE) told++;
            }
            return told;
        }

        int landsReached(int land, int kind, int day) {
            int bits = 0;
            start(day);
            for (int i = 0; i < ALL; i++) {
                turnTo(i, kind);
                int reached = hearing.outcome(land);
                bits |= 1 << (reached == ENDLESS ? LANDS : reached);
            }
            return bits;
        }

        int countAlike(int kind, int day) {
            int found = 0;
            start(day);
            for (int i = 0; i < ALL; i++) {
                turnTo(i, kind);
                if (hearing.allAlike()) found++;
            }
            return found;
        }

        /** The RULES of a LAND that are the first that hold in any CASE under one of these KINDS. */
        long everFirst(int land, int day, int kinds) {
            long firsts = 0L;
            start(day);
            for (int i = 0; i < ALL; i++) {
                setTies(i);
                for (int kind = 0; kind < KINDS; kind++) {
                    int rule = (kinds >>> kind & 1) == 0 ? NONE : rules.first(hearing.held, land, kind);
                    if (rule != NONE) firsts |= 1L << rule;
                }
            }
            return firsts;
        }
    }

    /** The RULES told for trial. */
    private static final class Trials {
        int size;
        final int[] rule = new int[MOST_TRIALS];

        boolean has(int number) {
            for (int i = 0; i < size; i++) {
                if (rule[i] == number) return true;
            }
            return false;
        }

        int add(int number) {
            rule[size] = number;
            size++;
            return size;
        }

        /** The RULES at these places, as bits by their numbers. */
        long rulesAt(int places) {
            long bits = 0L;
            for (int i = 0; i < size; i++) {
                if ((places >>> i & 1) != 0) bits |= 1L << rule[i];
            }
            return bits;
        }
    }

    /** FEWEST STRUCK. */
    private static final class Striking {
        final Cases cases;
        final Trials trials;
        final Hearing hearing;
        // Of each CASE the RULES that hold in it, found once for all the sets to try.
        final long[] held = new long[MOST_CASES];

        Striking(Cases cases, Trials trials, Hearing hearing) {
            this.cases = cases;
            this.trials = trials;
            this.hearing = hearing;
        }

        int fewestOf() {
            for (int i = 0; i < cases.size; i++) {
                hearing.open(cases, i);
                held[i] = hearing.held;
            }
            for (int size = 0; size <= trials.size; size++) {
                for (int set = 0; set < 1 << trials.size; set++) {
                    if (Integer.bitCount(set) == size && allAlikeWithout(trials.rulesAt(set))) return set;
                }
            }
            return NONE;
        }

        private boolean allAlikeWithout(long struck) {
            for (int i = 0; i < cases.size; i++) {
                hearing.takeTies(cases, i);
                hearing.held = held[i] & ~struck;
                hearing.readBooks(cases.kind[i]);
                if (!hearing.allAlike()) return false;
            }
            return true;
        }
    }

    /** WHERE TO ASK: the best way found, or NONE in all three. */
    private static final class Asking {
        final Cases cases;
        final AllCases allCases;
        int changes;
        int judge;
        int number;

        Asking(Cases cases, AllCases allCases) {
            this.cases = cases;
            this.allCases = allCases;
        }

        void search(int case0, int kind, int wished, int free) {
            changes = NONE;
            judge = NONE;
            number = NONE;
            allCases.start(cases.day[case0]);
            for (int i = 0; i < ALL; i++) {
                allCases.setTies(i);
                int made = tiesMade(case0, free);
                if (made == NONE || (changes != NONE && made > changes)) continue;
                allCases.hearing.readBooks(kind);
                keepIfBetter(i, made, judgeEndingIn(wished));
            }
        }

        /** How many TIES are other than the CASE's; NONE if one is that is not free, or made none. */
        private int tiesMade(int case0, int free) {
            int made = 0;
            for (int t = 0; t < TIES; t++) {
                int x = allCases.hearing.ties[t];
                if (x == cases.landOf(case0, t)) continue;
                if (x == NONE || (free >>> t & 1) == 0) return NONE;
                made++;
            }
            return made;
        }

        private int judgeEndingIn(int wished) {
            for (int land = 0; land < LANDS; land++) {
                if (allCases.hearing.outcome(land) == wished) return land;
            }
            return NONE;
        }

        /** Numbers come rising, so that of like ones the first is kept. */
        private void keepIfBetter(int i, int made, int land) {
            if (land == NONE) return;
            if (changes == NONE || made < changes || land < judge) {
                changes = made;
                judge = land;
                number = i;
            }
        }
    }
}
