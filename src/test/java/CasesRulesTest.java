// Promises 1 to 10: a new object, and what is told of cases and rules.
public final class CasesRulesTest extends Sentences {
    public static void main(String[] args) {
        runAll(CasesRulesTest.class, 1, 10);
    }

    // ---- 1, a new object

    static void promise01_nothingIsCounted() {
        LawRings x = new LawRings();
        for (int what = 0; what < 5; what++) due("count " + what, x.count(what), 0);
    }

    static void promise01_constants() {
        due("NONE", LawRings.NONE, -1);
        due("BAD", LawRings.BAD, -2);
        due("NO", LawRings.NO, -3);
        due("FULL", LawRings.FULL, -4);
        due("ENDLESS", LawRings.ENDLESS, -5);
    }

    static void promise01_noCaseIsThere() {
        LawRings x = new LawRings();
        x.rule(0, 0, INNER, THIS, 0);
        due("tie", x.tie(0, 0, 0, 0), BAD);
        due("which", x.which(0, 0), BAD_HERE);
        due("holds", x.holds(0, 0), BAD);
        due("says", x.says(0, 0, 0), BAD_HERE);
        due("said", x.said(0, 0, 0), BAD);
        due("ends", x.ends(0, 0, 0), BAD);
        due("chain", x.chain(0, 0, 0, 0), BAD_HERE);
        due("chain's length", x.chain(0, 0, 0, NONE), BAD_HERE);
        due("parts", x.parts(0, 1, 0, 0), BAD);
        due("kindOf", x.kindOf(0, 0), BAD);
        due("ask", x.ask(0, 0, 0, 0, 0), BAD);
        due("fewest", x.fewest(), NO);
    }

    static void promise01_noRuleIsThere() {
        LawRings x = new LawRings();
        x.newCase(0);
        due("test", x.test(0, 0, 0), BAD);
        due("strike", x.strike(0, 0), BAD);
        due("holds", x.holds(0, 0), BAD);
        due("trial", x.trial(0), BAD);
        for (int land = 0; land < 4; land++) {
            due("says", x.says(land, 0, 2), NONE);
            due("said", x.said(land, 0, 2), land);
            due("ends", x.ends(land, 0, 2), land);
        }
    }

    static void promise01_noneIsForTrial() {
        due("untry", new LawRings().untry(), 0);
    }

    static void promise01_waysAreNeverAtFirst() {
        LawRings x = new LawRings();
        for (int land = 0; land < 4; land++) due("way of " + land, x.way(land, NEVER), NEVER);
    }

    static void promise01_sortsAreTheSameAtFirst() {
        LawRings x = new LawRings();
        for (int land = 0; land < 4; land++) {
            for (int kind = 0; kind < 3; kind++) due("sort of " + land, x.sort(land, kind, kind), kind);
        }
    }

    static void promise01_allCasesOfTheEmptyObject() {
        LawRings x = new LawRings();
        for (int land = 0; land < 4; land++) {
            due("endsIn of the first", x.endsIn(land, 0, 0, 0), land);
            due("endsIn of the last", x.endsIn(land, 2, 999, ALL - 1), land);
            due("reached", x.reached(land, 1, 500), 1 << land);
            due("dead", x.dead(land, 0), 0);
        }
        due("unlike", x.unlike(0, 3, 0, 0), ALL);
        due("least", x.least(0, 3, 0, 0), 0);
        due("same", x.same(0, 0), 0);
    }

    static void promise01_digestOfTheEmptyObject() {
        long h = 397;
        for (int what = 0; what < 5; what++) h = 31 * h;
        for (int land = 0; land < 4; land++) {
            for (int kind = 0; kind < 3; kind++) h = 31 * h + kind;
        }
        for (int land = 0; land < 4; land++) h = 31 * h;
        due("digest", new LawRings().digest(), h);
    }

    static void promise01_objectsAreApart() {
        LawRings other = Worlds.full();
        LawRings x = new LawRings();
        Worlds.alike("beside a full one", x, new LawRings());
        due("the full one", other.digest(), Worlds.full().digest());
    }

    static void promise01_the512thCallIsAnswered() {
        LawRings x = new LawRings();
        x.newCase(3);
        for (int call = 2; call <= 511; call++) due("call " + call, x.kindOf(0, call % 3), call == 2 ? 0 : (call - 1) % 3);
        due("the 512th call", x.newCase(3), 1);
    }

    // ---- 2, newCase

    private static Edges newCase() {
        return new Edges("newCase", Worlds::some, (x, a) -> x.newCase(a[0]), BAD, 0);
    }

    static void promise02_theDayIs0To999() {
        newCase().bounds(0, 0, 999);
    }

    static void promise02_numbersComeInTurnUpTo15() {
        LawRings x = new LawRings();
        for (int i = 0; i < 16; i++) due("newCase", x.newCase(999 - i), i);
    }

    static void promise02_badIsNoCaseBetween() {
        LawRings x = new LawRings();
        due("BAD in the empty object", x.newCase(1000), BAD);
        due("the first", x.newCase(0), 0);
        due("BAD", x.newCase(-1), BAD);
        due("the second", x.newCase(999), 1);
    }

    static void promise02_oneShortOfFullThenFull() {
        LawRings x = new LawRings();
        for (int i = 0; i < 15; i++) x.newCase(1);
        due("BAD one short of full", x.newCase(1000), BAD);
        due("the last", x.newCase(1), 15);
        due("one more", x.newCase(1), FULL);
        due("and one more", x.newCase(0), FULL);
        due("count", x.count(0), 16);
    }

    static void promise02_badAheadOfFull() {
        LawRings x = Worlds.full();
        for (int day : new int[] { -1, 1000, LEAST_INT, GREATEST_INT }) due("newCase " + day, x.newCase(day), BAD);
    }

    static void promise02_fullChangesNothing() {
        LawRings x = Worlds.full();
        due("newCase", x.newCase(500), FULL);
        Worlds.alike("newCase FULL", x, Worlds.full());
    }

    static void promise02_theFirstAndTheLastDay() {
        LawRings x = new LawRings();
        x.newCase(0);
        x.newCase(999);
        int[] from = { 0, 1, 998, 999 };
        for (int i = 0; i < 4; i++) {
            int rule = x.rule(0, 0, INNER, THIS, from[i]);
            due("on day 0, from " + from[i], x.holds(rule, 0), i == 0 ? 1 : 0);
            due("on day 999, from " + from[i], x.holds(rule, 1), 1);
        }
    }

    static void promise02_aNewCaseHasNoTiesAndKind0() {
        LawRings x = Worlds.some();
        int c = x.newCase(10);
        for (int t = 0; t < 6; t++) due("which " + t, x.which(c, t), NONE);
        due("kindOf", x.kindOf(c, 0), 0);
    }

    // ---- 3, tie

    private static Edges tie() {
        return new Edges("tie", Worlds::some, (x, a) -> x.tie(a[0], a[1], a[2], a[3]), BAD, 0, 0, 0, 0);
    }

    static void promise03_theCaseIsThere() {
        tie().bounds(0, 0, 2);
    }

    static void promise03_theOnlyCase() {
        new Edges("tie", Worlds::single, (x, a) -> x.tie(a[0], 1, 2, 3), BAD, 0).bounds(0, 0, 0);
    }

    static void promise03_theLastOfSixteenCases() {
        LawRings x = new LawRings();
        for (int i = 0; i < 16; i++) x.newCase(i);
        due("case 15", x.tie(15, 0, 3, 15), 1);
        due("which", x.which(15, 0), 3);
        due("case 16", x.tie(16, 0, 3, 15), BAD);
    }

    static void promise03_theTieIs0To5() {
        tie().bounds(1, 0, 5);
    }

    static void promise03_theLandIsNoneOr0To3() {
        tie().bounds(2, NONE, 3);
    }

    static void promise03_theDayIs0To999() {
        tie().bounds(3, 0, 999);
    }

    static void promise03_howManyWereToldOfAllCases() {
        LawRings x = new LawRings();
        x.newCase(5);
        x.newCase(5);
        due("the first", x.tie(0, 0, 1, 0), 1);
        due("of another case", x.tie(1, 0, 1, 0), 2);
        due("none", x.tie(0, 0, NONE, 0), 3);
        due("behind the case's day", x.tie(0, 0, 1, 6), 4);
        due("the same again", x.tie(0, 0, 1, 6), 5);
        due("one that does not count", x.tie(1, 0, 2, 0), 6);
        due("BAD is not counted", x.tie(1, 0, 4, 0), BAD);
        due("the next", x.tie(1, 0, 3, 0), 7);
        due("count", x.count(1), 7);
    }

    private static LawRings told(int many) {
        LawRings x = new LawRings();
        for (int c = 0; c < 3; c++) x.newCase(c);
        for (int i = 0; i < many; i++) x.tie(i % 3, i % 5, i % 4, 0);
        return x;
    }

    static void promise03_oneShortOfFullThenFull() {
        LawRings x = told(59);
        due("BAD one short of full", x.tie(0, 6, 0, 0), BAD);
        due("the last", x.tie(2, 5, 3, 0), 60);
        due("which", x.which(2, 5), 3);
        due("one more", x.tie(2, 5, 2, 0), FULL);
        due("of another case", x.tie(0, 0, 2, 0), FULL);
        due("none", x.tie(2, 5, NONE, 0), FULL);
        due("behind the day", x.tie(2, 5, NONE, 999), FULL);
        due("which is as before", x.which(2, 5), 3);
        due("count", x.count(1), 60);
    }

    static void promise03_fullForANewCaseToo() {
        LawRings x = told(60);
        int c = x.newCase(9);
        due("tie", x.tie(c, 0, 0, 0), FULL);
        due("which", x.which(c, 0), NONE);
    }

    static void promise03_badAheadOfFull() {
        LawRings x = told(60);
        due("case", x.tie(3, 0, 0, 0), BAD);
        due("case below", x.tie(-1, 0, 0, 0), BAD);
        due("tie", x.tie(0, 6, 0, 0), BAD);
        due("land", x.tie(0, 0, 4, 0), BAD);
        due("land below none", x.tie(0, 0, -2, 0), BAD);
        due("day", x.tie(0, 0, 0, 1000), BAD);
        due("day below", x.tie(0, 0, 0, -1), BAD);
    }

    static void promise03_fullChangesNothing() {
        LawRings x = Worlds.full();
        due("tie", x.tie(15, 0, 2, 0), FULL);
        due("tie of none", x.tie(0, 0, NONE, 0), FULL);
        Worlds.alike("tie FULL", x, Worlds.full());
    }

    // ---- 4, which

    private static Edges which() {
        return new Edges("which", Worlds::some, (x, a) -> x.which(a[0], a[1]), BAD_HERE, 0, 0);
    }

    static void promise04_theCaseIsThere() {
        which().bounds(0, 0, 2);
        new Edges("which of 16", Worlds::full, (x, a) -> x.which(a[0], 5), BAD_HERE, 0).bounds(0, 0, 15);
    }

    static void promise04_theTieIs0To5() {
        which().bounds(1, 0, 5);
    }

    static void promise04_noneAtFirst() {
        LawRings x = new LawRings();
        for (int c = 0; c < 16; c++) x.newCase(0);
        for (int t = 0; t < 6; t++) {
            due("of the first", x.which(0, t), NONE);
            due("of the last", x.which(15, t), NONE);
        }
    }

    static void promise04_eachLand() {
        LawRings x = Worlds.single();
        for (int land = 0; land < 4; land++) {
            x.tie(0, 5, land, 0);
            due("which", x.which(0, 5), land);
        }
    }

    static void promise04_onTheCasesDayNotBehindIt() {
        for (int day : new int[] { 0, 1, 10, 998, 999 }) {
            LawRings x = new LawRings();
            x.newCase(day);
            if (day < 999) x.tie(0, 2, 1, day + 1);
            x.tie(0, 3, 1, 999);
            due("behind day " + day, x.which(0, 2), NONE);
            due("from 999 on, day " + day, x.which(0, 3), day == 999 ? 1 : NONE);
            x.tie(0, 2, 2, day);
            due("on day " + day, x.which(0, 2), 2);
            x.tie(0, 4, 3, 0);
            due("from 0 on, day " + day, x.which(0, 4), 3);
        }
    }

    static void promise04_theLatestDayCounts() {
        LawRings x = new LawRings();
        x.newCase(10);
        x.tie(0, 0, 1, 8);
        x.tie(0, 0, 2, 9);
        due("a later day", x.which(0, 0), 2);
        x.tie(0, 0, 3, 8);
        due("an older day told later", x.which(0, 0), 2);
        x.tie(0, 0, 0, 0);
        due("day 0 told later", x.which(0, 0), 2);
        x.tie(0, 0, 3, 11);
        due("a day behind the case's", x.which(0, 0), 2);
        x.tie(0, 0, 0, 10);
        due("the case's day", x.which(0, 0), 0);
    }

    static void promise04_ofLikeOnesTheOneToldLast() {
        LawRings x = new LawRings();
        x.newCase(10);
        x.tie(0, 0, 1, 10);
        x.tie(0, 0, 3, 10);
        due("the last", x.which(0, 0), 3);
        x.tie(0, 0, 2, 10);
        due("a lesser land told last", x.which(0, 0), 2);
        x.newCase(0);
        x.tie(1, 0, 3, 0);
        x.tie(1, 0, 1, 0);
        due("on day 0", x.which(1, 0), 1);
    }

    static void promise04_toldAsNone() {
        LawRings x = new LawRings();
        x.newCase(10);
        x.tie(0, 0, 1, 5);
        x.tie(0, 0, NONE, 6);
        due("none from a later day", x.which(0, 0), NONE);
        x.tie(0, 0, 2, 5);
        due("an older one stays behind none", x.which(0, 0), NONE);
        x.tie(0, 0, 2, 6);
        due("told again", x.which(0, 0), 2);
        x.tie(0, 0, NONE, 6);
        due("none told last", x.which(0, 0), NONE);
        x.tie(0, 1, 3, 0);
        x.tie(0, 1, NONE, 11);
        due("none behind the case's day", x.which(0, 1), 3);
    }

    static void promise04_eachTieOfEachCaseIsItsOwn() {
        LawRings x = new LawRings();
        for (int c = 0; c < 16; c++) x.newCase(c);
        x.tie(7, 5, 1, 0);
        x.tie(8, 0, 2, 0);
        for (int c = 0; c < 16; c++) {
            for (int t = 0; t < 6; t++) {
                int want = c == 7 && t == 5 ? 1 : c == 8 && t == 0 ? 2 : NONE;
                due("case " + c + ", tie " + t, x.which(c, t), want);
            }
        }
    }

    // ---- 5, rule

    private static Edges rule() {
        return new Edges("rule", Worlds::some, (x, a) -> x.rule(a[0], a[1], a[2], a[3], a[4]), BAD, 0, 0, 0, 0, 0);
    }

    static void promise05_theLandIs0To3() {
        rule().bounds(0, 0, 3);
    }

    static void promise05_theKindIs0To2() {
        rule().bounds(1, 0, 2);
    }

    static void promise05_theEndIsInnerOrWhole() {
        rule().bounds(2, 0, 1);
    }

    static void promise05_ofWhomIs0To10() {
        rule().bounds(3, 0, 10);
    }

    static void promise05_theDayIs0To999() {
        rule().bounds(4, 0, 999);
    }

    static void promise05_numbersComeInTurnUpTo59() {
        LawRings x = new LawRings();
        for (int i = 0; i < 60; i++) due("rule", x.rule(i % 4, i % 3, i % 2, i % 11, i * 16), i);
    }

    static void promise05_oneShortOfFullThenFull() {
        LawRings x = new LawRings();
        for (int i = 0; i < 59; i++) x.rule(0, 0, INNER, THIS, 0);
        due("BAD one short of full", x.rule(0, 0, INNER, 11, 0), BAD);
        due("the last", x.rule(3, 2, INNER, LAND, 0), 59);
        due("one more", x.rule(3, 2, INNER, LAND, 0), FULL);
        due("of another land", x.rule(1, 0, INNER, LAND, 999), FULL);
        due("count", x.count(2), 60);
        x.newCase(0);
        due("the last says", x.says(3, 0, 2), 59);
        due("the last holds", x.holds(59, 0), 1);
        due("of another land there is none", x.says(1, 0, 0), NONE);
    }

    static void promise05_badAheadOfFull() {
        LawRings x = Worlds.full();
        due("land", x.rule(4, 0, 0, 0, 0), BAD);
        due("kind", x.rule(0, 3, 0, 0, 0), BAD);
        due("end", x.rule(0, 0, 2, 0, 0), BAD);
        due("whom", x.rule(0, 0, 0, 11, 0), BAD);
        due("day", x.rule(0, 0, 0, 0, 1000), BAD);
        due("day below", x.rule(0, 0, 0, 0, -1), BAD);
    }

    static void promise05_fullChangesNothing() {
        LawRings x = Worlds.full();
        due("rule", x.rule(0, 0, WHOLE, OF_TIE, 0), FULL);
        due("rule", x.rule(3, 2, INNER, LAND, 0), FULL);
        Worlds.alike("rule FULL", x, Worlds.full());
    }

    static void promise05_ofWhom() {
        // This LAND is 2, TIES 0 to 5 are LANDS 3, 2, 1, 0, 3, 2.
        int[] meant = { 2, 0, 1, 2, 3, 3, 2, 1, 0, 3, 2 };
        for (int whom = 0; whom <= 10; whom++) {
            LawRings x = new LawRings();
            x.newCase(0);
            for (int t = 0; t < 6; t++) x.tie(0, t, (9 - t + 2) % 4, 0);
            x.rule(2, 0, WHOLE, whom, 0);
            due("WHOLE of " + whom, x.said(2, 0, 0), 10 + meant[whom]);
        }
    }

    static void promise05_withNoTests() {
        LawRings x = new LawRings();
        x.newCase(0);
        for (int whom = 0; whom <= 10; whom++) {
            due("of " + whom + ", no tie told", x.holds(x.rule(1, 0, INNER, whom, 0), 0), whom < OF_TIE ? 1 : 0);
        }
    }

    static void promise05_fromItsDayOn() {
        LawRings x = new LawRings();
        int[] days = { 0, 1, 499, 500, 501, 998, 999 };
        for (int day : days) x.newCase(day);
        for (int from : new int[] { 0, 1, 500, 999 }) {
            int rule = x.rule(0, 0, INNER, THIS, from);
            for (int c = 0; c < days.length; c++) {
                due("from " + from + " on day " + days[c], x.holds(rule, c), days[c] >= from ? 1 : 0);
            }
        }
    }

    // ---- 6, test

    private static Edges test() {
        return new Edges("test", Worlds::some, (x, a) -> x.test(a[0], a[1], a[2]), BAD, 1, 0, 0);
    }

    static void promise06_theRuleIsThere() {
        test().bounds(0, 0, 5);
        new Edges("test of one", Worlds::single, (x, a) -> x.test(a[0], 0, 0), BAD, 0).bounds(0, 0, 0);
    }

    static void promise06_theTieIs0To5() {
        test().bounds(1, 0, 5);
    }

    static void promise06_whatIs0To13() {
        test().bounds(2, 0, 13);
    }

    static void promise06_howManyItHas() {
        LawRings x = new LawRings();
        for (int i = 0; i < 60; i++) x.rule(0, 0, INNER, THIS, 0);
        for (int rule : new int[] { 0, 1, 31, 32, 58, 59 }) {
            due("BAD", x.test(rule, 0, 14), BAD);
            due("the first", x.test(rule, 0, TOLD), 1);
            due("BAD one short of full", x.test(rule, 6, 0), BAD);
            due("the second", x.test(rule, 0, TOLD), 2);
            due("one more", x.test(rule, 0, TOLD), FULL);
        }
        due("another rule", x.test(2, 5, 13), 1);
        due("rule 60", x.test(60, 0, 0), BAD);
    }

    static void promise06_badAheadOfFull() {
        LawRings x = Worlds.full();
        due("FULL", x.test(0, 0, 0), FULL);
        due("tie", x.test(0, 6, 0), BAD);
        due("tie below", x.test(0, -1, 0), BAD);
        due("what", x.test(0, 0, 14), BAD);
        due("what below", x.test(0, 0, -1), BAD);
    }

    static void promise06_fullChangesNothing() {
        LawRings x = Worlds.full();
        for (int what = 0; what < 14; what++) due("test", x.test(0, what % 6, what), FULL);
        Worlds.alike("test FULL", x, Worlds.full());
    }

    static void promise06_aRefusedTestIsNone() {
        LawRings x = Worlds.single();
        x.tie(0, 0, 1, 0);
        x.test(0, 0, TOLD);
        x.test(0, 0, IS_LAND + 1);
        due("FULL", x.test(0, 0, UNTOLD), FULL);
        due("BAD", x.test(0, 0, 14), BAD);
        due("it holds", x.holds(0, 0), 1);
        due("in all cases", x.dead(0, 0), 0);
    }

    /** A new RULE of LAND 1 with that TEST, in CASE 0 with TIES 0 and 1 of LAND 1, 2 of LAND 3, the others none. */
    private static int holdsWith(int tie, int what) {
        LawRings x = new LawRings();
        x.newCase(0);
        x.tie(0, 0, 1, 0);
        x.tie(0, 1, 1, 0);
        x.tie(0, 2, 3, 0);
        x.rule(1, 0, INNER, THIS, 0);
        x.test(0, tie, what);
        return x.holds(0, 0);
    }

    static void promise06_whatOfATieToThisLand() {
        int[] so = { 1, 0, 1, 0, 0, 1, 0, 0, 1, 1, 0, 0, 0, 0 };
        for (int what = 0; what < 14; what++) due("what " + what, holdsWith(0, what), so[what]);
    }

    static void promise06_whatOfATieToAnotherLand() {
        int[] so = { 1, 0, 0, 1, 0, 0, 0, 1, 0, 0, 1, 0, 0, 0 };
        for (int what = 0; what < 14; what++) due("what " + what, holdsWith(2, what), so[what]);
    }

    static void promise06_whatOfATieThatIsNotTold() {
        int[] so = { 0, 1, 0, 0, 0, 0, 0, 0, 0, 0, 0, 0, 0, 0 };
        for (int what = 0; what < 14; what++) {
            due("tie 3, what " + what, holdsWith(3, what), so[what]);
            due("tie 5, what " + what, holdsWith(5, what), so[what]);
        }
    }

    static void promise06_eachLandAndEachTieByItsNumber() {
        for (int land = 0; land < 4; land++) {
            LawRings x = new LawRings();
            x.newCase(0);
            x.tie(0, 5, land, 0);
            for (int what = 4; what < 8; what++) {
                int rule = x.rule(0, 0, INNER, THIS, 0);
                x.test(rule, 5, what);
                due("land " + land + ", what " + what, x.holds(rule, 0), what - 4 == land ? 1 : 0);
            }
        }
        for (int tie = 0; tie < 6; tie++) {
            LawRings x = new LawRings();
            x.newCase(0);
            for (int t = 0; t < 6; t++) x.tie(0, t, t == tie ? 3 : 2, 0);
            int lone = x.rule(0, 0, INNER, THIS, 0);
            x.test(lone, tie, AS_TIE + tie);
            due("the same as itself", x.holds(lone, 0), 1);
            int other = x.rule(0, 0, INNER, THIS, 0);
            x.test(other, (tie + 1) % 6, AS_TIE + tie);
            due("not the same as tie " + tie, x.holds(other, 0), 0);
            int turned = x.rule(0, 0, INNER, THIS, 0);
            x.test(turned, tie, AS_TIE + (tie + 1) % 6);
            due("tie " + tie + " not the same as the next", x.holds(turned, 0), 0);
        }
    }

    static void promise06_theSameTestOfManyRules() {
        for (int what = 0; what < 14; what++) {
            LawRings x = new LawRings();
            x.newCase(0);
            x.tie(0, 0, 1, 0);
            for (int t = 1; t < 6; t++) x.tie(0, t, 2, 0);
            int want = what == TOLD || what == ELSEWHERE || what == IS_LAND + 1 || what == AS_TIE ? 1 : 0;
            for (int i = 0; i < 3; i++) x.test(x.rule(0, 0, INNER, THIS, 0), 0, what);
            for (int i = 0; i < 3; i++) due("rule " + i + ", what " + what, x.holds(i, 0), want);
        }
    }

    static void promise06_allItsTestsMustBeSo() {
        for (int set = 0; set < 4; set++) {
            LawRings x = Worlds.single();
            if ((set & 1) != 0) x.tie(0, 0, 1, 0);
            if ((set & 2) != 0) x.tie(0, 5, 1, 0);
            x.test(0, 0, TOLD);
            x.test(0, 5, TOLD);
            due("told " + set, x.holds(0, 0), set == 3 ? 1 : 0);
        }
    }

    static void promise06_testsOfOneTieThatCannotBothBe() {
        LawRings x = Worlds.single();
        x.newCase(0);
        x.tie(0, 0, 1, 0);
        x.test(0, 0, TOLD);
        x.test(0, 0, UNTOLD);
        due("told", x.holds(0, 0), 0);
        due("not told", x.holds(0, 1), 0);
    }

    // ---- 7, strike

    private static Edges strike() {
        return new Edges("strike", Worlds::some, (x, a) -> x.strike(a[0], a[1]), BAD, 1, 0);
    }

    static void promise07_theRuleIsThere() {
        strike().bounds(0, 0, 5);
        new Edges("strike of one", Worlds::single, (x, a) -> x.strike(a[0], 0), BAD, 0).bounds(0, 0, 0);
        LawRings x = Worlds.full();
        due("rule 59 of 60", x.strike(59, 0), 1);
        due("rule 60", x.strike(60, 0), BAD);
    }

    static void promise07_theDayIs0To999() {
        strike().bounds(1, 0, 999);
    }

    static void promise07_it1ThenNo() {
        for (int day : new int[] { 0, 1, 500, 999 }) {
            LawRings x = Worlds.single();
            due("strike", x.strike(0, day), 1);
            for (int again : new int[] { 0, day, 999 }) due("struck from " + day, x.strike(0, again), NO);
        }
    }

    static void promise07_badAheadOfNo() {
        LawRings x = Worlds.single();
        x.strike(0, 5);
        for (int day : new int[] { -1, 1000, LEAST_INT, GREATEST_INT }) due("day " + day, x.strike(0, day), BAD);
        due("another rule", x.strike(1, 5), BAD);
    }

    static void promise07_noChangesNothing() {
        LawRings x = Worlds.some();
        due("strike", x.strike(4, 0), NO);
        due("strike", x.strike(4, 999), NO);
        due("it stands still on day 10", x.holds(4, 1), 1);
        due("it is struck still on day 999", x.holds(4, 2), 0);
        LawRings twin = Worlds.some();
        Worlds.alike("strike NO", x, twin);
    }

    static void promise07_standsAheadOfThatDay() {
        LawRings x = new LawRings();
        int[] days = { 0, 1, 4, 5, 6, 7, 8, 998, 999 };
        for (int day : days) x.newCase(day);
        int[][] fromAndStruck = { { 0, 0 }, { 0, 1 }, { 0, 999 }, { 5, 7 }, { 5, 6 }, { 5, 5 }, { 5, 4 }, { 5, 0 },
            { 999, 999 }, { 999, 0 }, { 998, 999 } };
        for (int[] f : fromAndStruck) {
            int rule = x.rule(0, 0, INNER, THIS, f[0]);
            x.strike(rule, f[1]);
            for (int c = 0; c < days.length; c++) {
                int want = days[c] >= f[0] && days[c] < f[1] ? 1 : 0;
                due("from " + f[0] + ", struck from " + f[1] + ", day " + days[c], x.holds(rule, c), want);
            }
        }
    }

    static void promise07_aStruckOneTakesTestsAndTrialsStill() {
        LawRings x = Worlds.single();
        x.strike(0, 0);
        due("test", x.test(0, 0, 0), 1);
        due("trial", x.trial(0), 1);
        due("count", x.count(2), 1);
    }

    // ---- 8, sort

    private static Edges sort() {
        return new Edges("sort", Worlds::some, (x, a) -> x.sort(a[0], a[1], a[2]), BAD, 0, 0, 0);
    }

    static void promise08_theLandIs0To3() {
        sort().bounds(0, 0, 3);
    }

    static void promise08_theKindIs0To2() {
        sort().bounds(1, 0, 2);
    }

    static void promise08_asWhichIs0To2() {
        sort().bounds(2, 0, 2);
    }

    static void promise08_whatItWas() {
        LawRings x = new LawRings();
        for (int land = 0; land < 4; land++) {
            for (int kind = 0; kind < 3; kind++) {
                due("at first", x.sort(land, kind, (kind + 1) % 3), kind);
                due("was", x.sort(land, kind, (kind + 2) % 3), (kind + 1) % 3);
                due("was the same", x.sort(land, kind, (kind + 2) % 3), (kind + 2) % 3);
            }
        }
        for (int land = 0; land < 4; land++) {
            for (int kind = 0; kind < 3; kind++) due("each its own", x.sort(land, kind, 0), (kind + 2) % 3);
        }
    }

    static void promise08_looksUnderItsOwnKindAlone() {
        LawRings x = new LawRings();
        x.newCase(0);
        for (int kind = 0; kind < 3; kind++) x.rule(1, kind, INNER, LAND + kind, 0);
        for (int as = 0; as < 3; as++) {
            x.sort(1, 0, as);
            due("sorted as " + as, x.says(1, 0, 0), as);
        }
        due("another kind", x.says(1, 0, 1), 1);
        due("another land", x.says(2, 0, 0), NONE);
    }

    static void promise08_sortedOnceNotTwice() {
        LawRings x = new LawRings();
        x.newCase(0);
        for (int kind = 0; kind < 3; kind++) x.rule(1, kind, INNER, LAND + kind, 0);
        x.sort(1, 0, 1);
        x.sort(1, 1, 2);
        due("kind 0 as 1", x.says(1, 0, 0), 1);
        due("kind 1 as 2", x.says(1, 0, 1), 2);
    }

    static void promise08_eachLandSortsTheQuestionItself() {
        LawRings x = new LawRings();
        x.newCase(0);
        x.rule(0, 2, WHOLE, LAND + 1, 0);
        x.rule(1, 0, INNER, LAND + 3, 0);
        x.rule(1, 2, INNER, LAND + 2, 0);
        x.sort(0, 0, 2);
        x.way(0, TO_THE_END);
        due("land 1 looks under kind 0", x.ends(0, 0, 0), 3);
        due("and under kind 2", x.ends(0, 0, 2), 2);
    }

    // ---- 9, way

    private static Edges way() {
        return new Edges("way", Worlds::some, (x, a) -> x.way(a[0], a[1]), BAD, 0, 0);
    }

    static void promise09_theLandIs0To3() {
        way().bounds(0, 0, 3);
    }

    static void promise09_theWayIs0To3() {
        way().bounds(1, 0, 3);
    }

    static void promise09_whatItWas() {
        LawRings x = new LawRings();
        for (int land = 0; land < 4; land++) {
            due("at first", x.way(land, AS_THE_OTHER), NEVER);
            due("was", x.way(land, ONCE), AS_THE_OTHER);
            due("was", x.way(land, TO_THE_END), ONCE);
            due("the same", x.way(land, TO_THE_END), TO_THE_END);
            due("was", x.way(land, land), TO_THE_END);
        }
        for (int land = 0; land < 4; land++) due("each its own", x.way(land, 0), land);
    }

    // ---- 10, treaty

    private static Edges treaty() {
        return new Edges("treaty", Worlds::some, (x, a) -> x.treaty(a[0], a[1], a[2]), BAD, 0, 15, 0);
    }

    static void promise10_theKindIs0To2() {
        treaty().bounds(0, 0, 2);
    }

    static void promise10_landsAreFourBits() {
        treaty().bounds(1, 0, 15);
    }

    static void promise10_theTieIs0To5() {
        treaty().bounds(2, 0, 5);
    }

    static void promise10_numbersComeInTurnUpTo7ThenFull() {
        LawRings x = new LawRings();
        for (int i = 0; i < 7; i++) due("treaty", x.treaty(i % 3, 15 - i, i % 6), i);
        due("BAD one short of full", x.treaty(0, 16, 0), BAD);
        due("the last", x.treaty(0, 15, 5), 7);
        due("one more", x.treaty(0, 15, 5), FULL);
        due("of another kind", x.treaty(2, 1, 0), FULL);
        due("count", x.count(3), 8);
    }

    static void promise10_theEighthTells() {
        LawRings x = new LawRings();
        x.newCase(0);
        for (int i = 0; i < 7; i++) x.treaty(0, 0, 0);
        x.tie(0, 5, 3, 0);
        due("ahead of it", x.ends(0, 0, 0), 0);
        x.treaty(0, 9, 5);
        due("by it", x.ends(0, 0, 0), 3);
    }

    static void promise10_badAheadOfFull() {
        LawRings x = Worlds.full();
        due("FULL", x.treaty(0, 15, 0), FULL);
        due("kind", x.treaty(3, 15, 0), BAD);
        due("lands", x.treaty(0, 16, 0), BAD);
        due("lands below", x.treaty(0, -1, 0), BAD);
        due("tie", x.treaty(0, 15, 6), BAD);
        due("tie below", x.treaty(0, 15, -1), BAD);
    }

    static void promise10_fullChangesNothing() {
        LawRings x = Worlds.full();
        for (int kind = 0; kind < 3; kind++) due("treaty", x.treaty(kind, 15, kind), FULL);
        Worlds.alike("treaty FULL", x, Worlds.full());
    }

    static void promise10_judgesOfTheseLandsByATieToOneOfThese() {
        for (int lands = 0; lands < 16; lands++) {
            for (int tied = NONE; tied < 4; tied++) {
                LawRings x = new LawRings();
                x.newCase(0);
                x.tie(0, 3, tied, 0);
                x.treaty(2, lands, 3);
                for (int judge = 0; judge < 4; judge++) {
                    boolean tells = tied != NONE && (lands >> judge & 1) == 1 && (lands >> tied & 1) == 1;
                    due("lands " + lands + ", tie " + tied, x.ends(judge, 0, 2), tells ? tied : judge);
                }
            }
        }
    }

    static void promise10_ofItsKindAlone() {
        LawRings x = new LawRings();
        x.newCase(0);
        x.tie(0, 0, 3, 0);
        x.treaty(1, 15, 0);
        due("kind 0", x.ends(0, 0, 0), 0);
        due("kind 1", x.ends(0, 0, 1), 3);
        due("kind 2", x.ends(0, 0, 2), 0);
        x.sort(0, 0, 1);
        x.sort(0, 1, 0);
        due("kind 0 sorted as 1", x.ends(0, 0, 0), 0);
        due("kind 1 sorted as 0", x.ends(0, 0, 1), 3);
    }

    static void promise10_theFirstThatTellsCounts() {
        LawRings x = new LawRings();
        x.newCase(0);
        x.tie(0, 1, 2, 0);
        x.tie(0, 2, 3, 0);
        x.treaty(0, 15, 0);
        x.treaty(1, 15, 2);
        x.treaty(0, 3, 2);
        x.treaty(0, 7, 1);
        x.treaty(0, 15, 2);
        due("a tie not told, another kind, a land outside do not tell", x.ends(0, 0, 0), 2);
        due("nor for one who is no judge of these", x.ends(3, 0, 0), 3);
        x.tie(0, 0, 1, 0);
        due("now the first tells", x.ends(0, 0, 0), 1);
        due("for all", x.ends(3, 0, 0), 1);
    }

    static void promise10_aboveTheBookAndTheWay() {
        for (int v = NEVER; v <= AS_THE_OTHER; v++) {
            LawRings x = new LawRings();
            x.newCase(0);
            x.tie(0, 0, 0, 0);
            x.rule(0, 0, WHOLE, LAND + 1, 0);
            x.rule(1, 0, INNER, LAND + 2, 0);
            x.way(0, v);
            x.treaty(0, 5, 0);
            due("way " + v, x.ends(0, 0, 0), 0);
            due("the book says as before", x.said(0, 0, 0), 11);
        }
    }
}
