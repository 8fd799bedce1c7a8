import java.util.ArrayList;
import java.util.List;
import java.util.Random;

// Long runs of calls beside a model that is the document read word by word, without any cunning.
public final class PlainModelTest {
    private static final int NONE = -1, BAD = -2, NO = -3, FULL = -4, ENDLESS = -5;
    private static final int ALL = 15625;

    private static final String[] CALLS = {
        "newCase", "tie", "which", "rule", "test", "strike", "sort", "way", "treaty",
        "holds", "says", "said", "ends", "chain", "parts",
        "endsIn", "unlike", "least", "reached", "same", "dead",
        "trial", "untry", "kindOf", "fewest", "ask", "count", "digest" };
    private static final int[] ARGUMENTS = {
        1, 4, 2, 5, 3, 2, 3, 2, 3,
        2, 3, 3, 3, 4, 4,
        4, 4, 4, 3, 2, 2,
        1, 0, 2, 0, 5, 1, 0 };
    // How often each call comes in the first part of a run, where things are told, and in the rest.
    private static final int[] TELLING = {
        6, 24, 1, 30, 24, 4, 6, 8, 5,
        1, 1, 1, 2, 1, 1,
        1, 0, 0, 0, 0, 0,
        8, 1, 3, 0, 0, 1, 1 };
    private static final int[] LOOKING = {
        1, 4, 4, 4, 3, 2, 2, 4, 1,
        10, 10, 10, 20, 20, 20,
        10, 1, 1, 1, 1, 1,
        3, 1, 3, 2, 1, 1, 2 };

    private static int wrong = 0;

    public static void main(String[] args) {
        int runs = 90;
        int[] seen = new int[CALLS.length];
        for (int seed = 0; seed < runs && wrong < 20; seed++) run(seed, seen);
        for (int i = 0; i < CALLS.length; i++) {
            if (seen[i] == 0) complain(CALLS[i] + " was never called");
        }
        System.out.println(wrong == 0 ? "all runs answer as the plain model" : wrong + " answers are not as due");
        if (wrong != 0) System.exit(1);
    }

    private static void complain(String what) {
        wrong++;
        System.out.println(what);
    }

    private static void run(int seed, int[] seen) {
        Random random = new Random(seed);
        LawRings program = new LawRings();
        Plain plain = new Plain();
        for (int n = 0; n < 500; n++) {
            int call = pick(random, n < 200 ? TELLING : LOOKING);
            if (seed % 3 != 0 && isTooMuch(seed % 3, random, call, plain)) continue;
            int[] a = arguments(random, call, plain);
            if (seed % 3 == RINGS) makeRings(random, call, a);
            if (seed % 3 == ALIKE) makeAlike(random, call, a);
            long got = program(program, call, a);
            long want = plain.answer(call, a);
            seen[call]++;
            if (got == want) continue;
            complain("run " + seed + ", call " + n + ": " + CALLS[call] + java.util.Arrays.toString(a)
                + " answered " + got + ", due is " + want);
            return;
        }
    }

    // By chance alone rings are rare, and all lands hardly ever end alike: two runs of three are bent to it.
    private static final int RINGS = 1, ALIKE = 2;

    private static boolean isTooMuch(int bent, Random random, int call, Plain plain) {
        switch (CALLS[call]) {
            case "newCase": return plain.cases.size() >= 2;
            case "rule": return plain.rules.size() >= (bent == RINGS ? 40 : 24);
            case "treaty": return bent == ALIKE || plain.treaties.size() >= 1;
            case "test": case "strike": case "untry": return bent == ALIKE && random.nextInt(5) != 0;
            default: return false;
        }
    }

    private static void makeRings(Random random, int call, int[] a) {
        String name = CALLS[call];
        if (name.equals("rule") && random.nextInt(4) != 0) {
            a[1] = 0;
            a[3] = 1 + random.nextInt(4);
            a[4] = 0;
        }
        if (name.equals("way") && random.nextInt(3) != 0) a[1] = 3;
        if (name.equals("treaty")) a[0] = 1;
        if (name.equals("sort") && random.nextInt(3) != 0) a[2] = a[1];
        if (random.nextInt(4) == 0) return;
        if (name.equals("says") || name.equals("said") || name.equals("ends") || name.equals("chain")) a[2] = 0;
        if (name.equals("parts")) a[3] = 0;
        if (name.equals("endsIn") || name.equals("reached")) a[1] = 0;
        if (name.equals("unlike") || name.equals("least")) a[2] = 0;
    }

    private static void makeAlike(Random random, int call, int[] a) {
        String name = CALLS[call];
        if (name.equals("rule")) {
            a[1] = random.nextInt(8) / 7;
            a[2] = random.nextInt(4) / 3;
            a[3] = 1 + random.nextInt(2);
            a[4] = 0;
        }
        if (name.equals("sort") && random.nextInt(3) != 0) a[2] = a[1];
        if (name.equals("kindOf") && random.nextInt(3) != 0) a[1] = 0;
        if (name.equals("unlike") || name.equals("least")) a[2] = 0;
        if (name.equals("same")) a[0] = 0;
    }

    private static int pick(Random random, int[] weights) {
        int sum = 0;
        for (int w : weights) sum += w;
        int at = random.nextInt(sum);
        int i = 0;
        while (at >= weights[i]) at -= weights[i++];
        return i;
    }

    private static int[] arguments(Random random, int call, Plain plain) {
        int[] a = new int[ARGUMENTS[call]];
        int[] bounds = plain.bounds(call);
        for (int i = 0; i < a.length; i++) a[i] = random.nextInt(Math.max(1, bounds[i]));
        if (call == 1 && random.nextInt(4) == 0) a[2] = NONE;
        if (call == 13 && random.nextInt(2) == 0) a[3] = random.nextBoolean() ? NONE : -3;
        // The days are few, so that many are alike; WHOLE comes often, so that there are rings.
        if (call == 3 && random.nextInt(3) != 0) a[2] = 1;
        if (call == 5) a[1] = 8 + random.nextInt(12);
        if (a.length > 0 && random.nextInt(25) == 0) {
            int[] odd = { -1, -2, -3, -4, 1000, Integer.MAX_VALUE, Integer.MIN_VALUE, bounds[0], 16, 64, ALL };
            a[random.nextInt(a.length)] = odd[random.nextInt(odd.length)];
        }
        return a;
    }

    private static long program(LawRings x, int call, int[] a) {
        switch (CALLS[call]) {
            case "newCase": return x.newCase(a[0]);
            case "tie": return x.tie(a[0], a[1], a[2], a[3]);
            case "which": return x.which(a[0], a[1]);
            case "rule": return x.rule(a[0], a[1], a[2], a[3], a[4]);
            case "test": return x.test(a[0], a[1], a[2]);
            case "strike": return x.strike(a[0], a[1]);
            case "sort": return x.sort(a[0], a[1], a[2]);
            case "way": return x.way(a[0], a[1]);
            case "treaty": return x.treaty(a[0], a[1], a[2]);
            case "holds": return x.holds(a[0], a[1]);
            case "says": return x.says(a[0], a[1], a[2]);
            case "said": return x.said(a[0], a[1], a[2]);
            case "ends": return x.ends(a[0], a[1], a[2]);
            case "chain": return x.chain(a[0], a[1], a[2], a[3]);
            case "parts": return x.parts(a[0], a[1], a[2], a[3]);
            case "endsIn": return x.endsIn(a[0], a[1], a[2], a[3]);
            case "unlike": return x.unlike(a[0], a[1], a[2], a[3]);
            case "least": return x.least(a[0], a[1], a[2], a[3]);
            case "reached": return x.reached(a[0], a[1], a[2]);
            case "same": return x.same(a[0], a[1]);
            case "dead": return x.dead(a[0], a[1]);
            case "trial": return x.trial(a[0]);
            case "untry": return x.untry();
            case "kindOf": return x.kindOf(a[0], a[1]);
            case "fewest": return x.fewest();
            case "ask": return x.ask(a[0], a[1], a[2], a[3], a[4]);
            case "count": return x.count(a[0]);
            default: return x.digest();
        }
    }

    private static final class Rule {
        int land, kind, end, whom, from, struck = NONE;
        final List<int[]> tests = new ArrayList<>();

        boolean stands(int day) {
            return day >= from && (struck == NONE || day < struck);
        }

        boolean holds(int[] ties) {
            for (int[] test : tests) {
                if (!so(ties, ties[test[0]], test[1])) return false;
            }
            return whom < 5 || ties[whom - 5] != NONE;
        }

        boolean so(int[] ties, int tied, int what) {
            switch (what) {
                case 0: return tied != NONE;
                case 1: return tied == NONE;
                case 2: return tied == land;
                case 3: return tied != NONE && tied != land;
                case 4: case 5: case 6: case 7: return tied == what - 4;
                default: return tied != NONE && tied == ties[what - 8];
            }
        }

        int of(int[] ties) {
            return whom == 0 ? land : whom < 5 ? whom - 1 : ties[whom - 5];
        }
    }

    private static final class Case {
        int day, kind;
        final List<int[]> told = new ArrayList<>();

        int which(int tie) {
            int latest = -1, land = NONE;
            for (int[] t : told) {
                if (t[0] == tie && t[2] <= day && t[2] >= latest) {
                    latest = t[2];
                    land = t[1];
                }
            }
            return land;
        }

        int[] ties() {
            int[] ties = new int[6];
            for (int t = 0; t < 6; t++) ties[t] = which(t);
            return ties;
        }
    }

    private static final class Plain {
        final List<Case> cases = new ArrayList<>();
        final List<Rule> rules = new ArrayList<>();
        final List<int[]> treaties = new ArrayList<>();
        final List<Integer> trials = new ArrayList<>();
        final List<Rule> without = new ArrayList<>();
        final int[][] sorts = { { 0, 1, 2 }, { 0, 1, 2 }, { 0, 1, 2 }, { 0, 1, 2 } };
        final int[] ways = new int[4];

        int told() {
            int sum = 0;
            for (Case c : cases) sum += c.told.size();
            return sum;
        }

        int[] bounds(int call) {
            int c = cases.size(), r = rules.size();
            switch (CALLS[call]) {
                case "newCase": return new int[] { 20 };
                case "tie": return new int[] { c, 6, 4, 20 };
                case "which": return new int[] { c, 6 };
                case "rule": return new int[] { 4, 3, 2, 11, 20 };
                case "test": return new int[] { r, 6, 14 };
                case "strike": return new int[] { r, 20 };
                case "sort": return new int[] { 4, 3, 3 };
                case "way": return new int[] { 4, 4 };
                case "treaty": return new int[] { 3, 16, 6 };
                case "holds": return new int[] { r, c };
                case "says": case "said": case "ends": return new int[] { 4, c, 3 };
                case "chain": return new int[] { 4, c, 3, 5 };
                case "parts": return new int[] { 4, 4, c, 3 };
                case "endsIn": return new int[] { 4, 3, 20, ALL };
                case "unlike": case "least": return new int[] { 4, 4, 3, 20 };
                case "reached": return new int[] { 4, 3, 20 };
                case "same": return new int[] { 3, 20 };
                case "dead": return new int[] { 4, 20 };
                case "trial": return new int[] { r };
                case "kindOf": return new int[] { c, 3 };
                case "ask": return new int[] { c, 3, 4, 64, 3 };
                case "count": return new int[] { 5 };
                default: return new int[0];
            }
        }

        // What each number must be: c CASE, t TIE, l LAND, n LAND or NONE, k KIND, d DAY, r RULE, or a bound.
        String form(int call) {
            switch (CALLS[call]) {
                case "newCase": return "d";
                case "tie": return "c t n d";
                case "which": return "c t";
                case "rule": return "l k 2 11 d";
                case "test": return "r t 14";
                case "strike": return "r d";
                case "sort": return "l k k";
                case "way": return "l 4";
                case "treaty": return "k 16 t";
                case "holds": return "r c";
                case "says": case "said": case "ends": return "l c k";
                case "chain": return "l c k w";
                case "parts": return "l l c k";
                case "endsIn": return "l k d 15625";
                case "unlike": case "least": return "l l k d";
                case "reached": return "l k d";
                case "same": return "k d";
                case "dead": return "l d";
                case "trial": return "r";
                case "kindOf": return "c k";
                case "ask": return "c k l 64 3";
                case "count": return "5";
                default: return "";
            }
        }

        boolean asTold(String form, int v) {
            switch (form) {
                case "c": return v >= 0 && v < cases.size();
                case "r": return v >= 0 && v < rules.size();
                case "t": return v >= 0 && v < 6;
                case "l": return v >= 0 && v < 4;
                case "n": return v >= -1 && v < 4;
                case "k": return v >= 0 && v < 3;
                case "d": return v >= 0 && v < 1000;
                case "w": return v >= 0 || v == NONE || v == -3;
                default: return v >= 0 && v < Integer.parseInt(form);
            }
        }

        boolean isBad(int call, int[] a) {
            String form = form(call);
            String[] forms = form.isEmpty() ? new String[0] : form.split(" ");
            for (int i = 0; i < a.length; i++) {
                if (!asTold(forms[i], a[i])) return true;
            }
            if (form.startsWith("l l")) return a[0] == a[1];
            return CALLS[call].equals("trial") && trials.contains(a[0]);
        }

        long answer(int call, int[] a) {
            String name = CALLS[call];
            if (isBad(call, a)) {
                return name.equals("which") || name.equals("says") || name.equals("chain") ? -10 : BAD;
            }
            switch (name) {
                case "newCase": return newCase(a[0]);
                case "tie":
                    if (told() == 60) return FULL;
                    cases.get(a[0]).told.add(new int[] { a[1], a[2], a[3] });
                    return told();
                case "which": return cases.get(a[0]).which(a[1]);
                case "rule": return rule(a);
                case "test":
                    if (rules.get(a[0]).tests.size() == 2) return FULL;
                    rules.get(a[0]).tests.add(new int[] { a[1], a[2] });
                    return rules.get(a[0]).tests.size();
                case "strike":
                    if (rules.get(a[0]).struck != NONE) return NO;
                    rules.get(a[0]).struck = a[1];
                    return 1;
                case "sort": return swap(sorts[a[0]], a[1], a[2]);
                case "way": return swap(ways, a[0], a[1]);
                case "treaty":
                    if (treaties.size() == 8) return FULL;
                    treaties.add(a);
                    return treaties.size() - 1;
                case "trial":
                    if (trials.size() == 12) return FULL;
                    trials.add(a[0]);
                    return trials.size();
                case "untry":
                    int were = trials.size();
                    trials.clear();
                    return were;
                case "kindOf":
                    int was = cases.get(a[0]).kind;
                    cases.get(a[0]).kind = a[1];
                    return was;
                default: return looked(name, a);
            }
        }

        long looked(String name, int[] a) {
            switch (name) {
                case "holds": {
                    Rule r = rules.get(a[0]);
                    Case c = cases.get(a[1]);
                    return r.stands(c.day) && r.holds(c.ties()) ? 1 : 0;
                }
                case "says": {
                    Rule r = says(a[0], cases.get(a[1]).ties(), cases.get(a[1]).day, a[2]);
                    return r == null ? NONE : rules.indexOf(r);
                }
                case "said": return said(a[0], cases.get(a[1]).ties(), cases.get(a[1]).day, a[2]);
                case "ends": return ends(a[0], cases.get(a[1]).ties(), cases.get(a[1]).day, a[2]);
                case "chain": return chain(a);
                case "parts": return parts(a);
                case "endsIn": return ends(a[0], numbered(a[3]), a[2], a[1]);
                case "unlike": return unlike(a).size();
                case "least": return least(a);
                case "reached": return reached(a);
                case "same": return same(a);
                case "dead": return dead(a[0], a[1]);
                case "fewest": return fewest();
                case "ask": return ask(a);
                case "count": return count(a[0]);
                default: return digest();
            }
        }

        int newCase(int day) {
            if (cases.size() == 16) return FULL;
            Case c = new Case();
            c.day = day;
            cases.add(c);
            return cases.size() - 1;
        }

        int rule(int[] a) {
            if (rules.size() == 60) return FULL;
            Rule r = new Rule();
            r.land = a[0];
            r.kind = a[1];
            r.end = a[2];
            r.whom = a[3];
            r.from = a[4];
            rules.add(r);
            return rules.size() - 1;
        }

        int swap(int[] row, int at, int v) {
            int was = row[at];
            row[at] = v;
            return was;
        }

        Rule firstOf(int land, int[] ties, int day, int ownKind) {
            for (Rule r : rules) {
                if (r.land == land && r.kind == ownKind && r.stands(day) && r.holds(ties)
                    && !without.contains(r)) return r;
            }
            return null;
        }

        Rule says(int land, int[] ties, int day, int kind) {
            return firstOf(land, ties, day, sorts[land][kind]);
        }

        int said(int land, int[] ties, int day, int kind) {
            Rule r = says(land, ties, day, kind);
            return r == null ? land : 10 * r.end + r.of(ties);
        }

        int ends(int land, int[] ties, int day, int kind) {
            return ends(land, ties, day, kind, new ArrayList<>());
        }

        int ends(int land, int[] ties, int day, int kind, List<Integer> waiting) {
            for (int[] t : treaties) {
                int x = ties[t[2]];
                if (t[0] == kind && x != NONE && (t[1] & 1 << land) != 0 && (t[1] & 1 << x) != 0) return x;
            }
            int said = said(land, ties, day, kind);
            int x = said % 10;
            if (said < 10 || x == land) return x;
            switch (ways[land]) {
                case 0: return x;
                case 1: return said(x, ties, day, kind) % 10;
                case 2: return toTheEnd(land, x, ties, day, kind);
                default:
                    waiting.add(land);
                    return waiting.contains(x) ? ENDLESS : ends(x, ties, day, kind, waiting);
            }
        }

        int toTheEnd(int judge, int x, int[] ties, int day, int kind) {
            List<Integer> met = new ArrayList<>(List.of(judge));
            int at = x;
            while (true) {
                met.add(at);
                int said = said(at, ties, day, kind);
                if (said < 10 || met.contains(said % 10)) return said % 10;
                at = said % 10;
            }
        }

        /** The lands of the chain, and how it ends as the last. */
        List<String> chainOf(int land, int number, int kind) {
            int[] ties = cases.get(number).ties();
            List<String> chain = new ArrayList<>();
            int at = land;
            while (true) {
                chain.add("" + at);
                int said = said(at, ties, cases.get(number).day, kind);
                if (said < 10) chain.add("inner " + said);
                else if (chain.contains("" + said % 10)) chain.add("back " + said);
                else {
                    at = said % 10;
                    continue;
                }
                return chain;
            }
        }

        int chain(int[] a) {
            List<String> chain = chainOf(a[0], a[1], a[2]);
            int size = chain.size() - 1;
            if (a[3] == NONE) return size;
            if (a[3] == -3) return Integer.parseInt(chain.get(size).split(" ")[1]);
            return a[3] < size ? Integer.parseInt(chain.get(a[3])) : -5;
        }

        int parts(int[] a) {
            List<String> one = chainOf(a[0], a[2], a[3]), two = chainOf(a[1], a[2], a[3]);
            for (int i = 1; i < Math.min(one.size(), two.size()); i++) {
                if (!one.get(i).equals(two.get(i))) return i;
            }
            return 0;
        }

        int[] numbered(int number) {
            int[] ties = new int[6];
            for (int t = 0, rest = number; t < 6; t++, rest /= 5) ties[t] = rest % 5 - 1;
            return ties;
        }

        List<Integer> unlike(int[] a) {
            List<Integer> found = new ArrayList<>();
            for (int i = 0; i < ALL; i++) {
                int[] ties = numbered(i);
                if (ends(a[0], ties, a[3], a[2]) != ends(a[1], ties, a[3], a[2])) found.add(i);
            }
            return found;
        }

        int least(int[] a) {
            int best = NONE;
            for (int i : unlike(a)) {
                if (best == NONE || toldOf(i) < toldOf(best)) best = i;
            }
            return best;
        }

        int toldOf(int number) {
            int told = 0;
            for (int x : numbered(number)) if (x != NONE) told++;
            return told;
        }

        int reached(int[] a) {
            int bits = 0;
            for (int i = 0; i < ALL; i++) {
                int end = ends(a[0], numbered(i), a[2], a[1]);
                bits |= end == ENDLESS ? 16 : 1 << end;
            }
            return bits;
        }

        boolean allAlike(int[] ties, int day, int kind) {
            int end = ends(0, ties, day, kind);
            return end == ends(1, ties, day, kind) && end == ends(2, ties, day, kind)
                && end == ends(3, ties, day, kind);
        }

        int same(int[] a) {
            int found = 0;
            for (int i = 0; i < ALL; i++) if (allAlike(numbered(i), a[1], a[0])) found++;
            return found;
        }

        int dead(int land, int day) {
            List<Rule> standing = new ArrayList<>();
            for (Rule r : rules) if (r.land == land && r.stands(day)) standing.add(r);
            int bits = 0;
            for (int place = 0; place < standing.size() && place < 30; place++) bits |= 1 << place;
            for (int i = 0; i < ALL; i++) {
                for (int kind = 0; kind < 3; kind++) {
                    int place = standing.indexOf(says(land, numbered(i), day, kind));
                    if (place >= 0 && place < 30) bits &= ~(1 << place);
                }
            }
            return bits;
        }

        int fewest() {
            if (cases.isEmpty()) return NO;
            int best = NONE;
            for (int set = 0; set < 1 << trials.size(); set++) {
                if (best != NONE && Integer.bitCount(set) >= Integer.bitCount(best)) continue;
                without.clear();
                for (int i = 0; i < trials.size(); i++) {
                    if ((set & 1 << i) != 0) without.add(rules.get(trials.get(i)));
                }
                boolean all = true;
                for (Case c : cases) all = all && allAlike(c.ties(), c.day, c.kind);
                if (all) best = set;
            }
            without.clear();
            return best;
        }

        int ask(int[] a) {
            Case c = cases.get(a[0]);
            int[] own = c.ties();
            int[] best = null;
            for (int i = 0; i < ALL; i++) {
                int[] ties = numbered(i);
                int made = 0;
                boolean may = true;
                for (int t = 0; t < 6; t++) {
                    if (ties[t] == own[t]) continue;
                    made++;
                    if ((a[3] & 1 << t) == 0 || ties[t] == NONE) may = false;
                }
                for (int judge = 0; may && judge < 4; judge++) {
                    if (ends(judge, ties, c.day, a[1]) != a[2]) continue;
                    int[] found = { made, judge, i };
                    if (best == null || java.util.Arrays.compare(found, best) < 0) best = found;
                }
            }
            return best == null ? NONE : best[a[4]];
        }

        int count(int what) {
            int[] counts = { cases.size(), told(), rules.size(), treaties.size(), trials.size() };
            return counts[what];
        }

        long digest() {
            List<Integer> all = new ArrayList<>();
            for (int what = 0; what < 5; what++) all.add(count(what));
            for (Case c : cases) {
                all.add(c.day);
                all.add(c.kind);
                for (int t = 0; t < 6; t++) all.add(c.which(t));
                for (int kind = 0; kind < 3; kind++) {
                    for (int land = 0; land < 4; land++) all.add(ends(land, c.ties(), c.day, kind));
                }
            }
            for (Rule r : rules) {
                all.addAll(List.of(r.land, r.kind, r.end, r.whom, r.from, r.struck, r.tests.size()));
                for (int[] t : r.tests) all.addAll(List.of(t[0], t[1]));
            }
            for (int[] sort : sorts) for (int as : sort) all.add(as);
            for (int way : ways) all.add(way);
            for (int[] t : treaties) all.addAll(List.of(t[0], t[1], t[2]));
            all.addAll(trials);
            long h = 397;
            for (int v : all) h = 31 * h + v;
            return h;
        }
    }
}
