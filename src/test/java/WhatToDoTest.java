import java.math.BigInteger;
import java.util.ArrayList;
import java.util.List;

// Promises 23 to 29: rules for trial, where to ask, counts and the digest.
public final class WhatToDoTest extends Sentences {
    public static void main(String[] args) {
        runAll(WhatToDoTest.class, 23, 29);
    }

    private static LawRings withoutTrials() {
        LawRings x = Worlds.some();
        x.untry();
        return x;
    }

    private static LawRings withRules(int many) {
        LawRings x = new LawRings();
        for (int i = 0; i < many; i++) x.rule(0, 0, INNER, LAND + 1, 0);
        return x;
    }

    // ---- 23, trial

    static void promise23_theRuleIsThere() {
        new Edges("trial", WhatToDoTest::withoutTrials, (x, a) -> x.trial(a[0]), BAD, 0).bounds(0, 0, 5);
        new Edges("trial of 60", () -> withRules(60), (x, a) -> x.trial(a[0]), BAD, 0).bounds(0, 0, 59);
    }

    static void promise23_howMany() {
        LawRings x = withRules(60);
        int[] rules = { 59, 0, 31, 32, 58, 1 };
        for (int i = 0; i < rules.length; i++) due("trial", x.trial(rules[i]), i + 1);
        due("count", x.count(4), 6);
    }

    static void promise23_toldIsBad() {
        LawRings x = withRules(3);
        x.trial(1);
        due("the only one again", x.trial(1), BAD);
        x.trial(2);
        x.trial(0);
        for (int rule = 0; rule < 3; rule++) due("again", x.trial(rule), BAD);
        due("count", x.count(4), 3);
    }

    static void promise23_toldChangesNothing() {
        LawRings x = Worlds.some();
        due("trial", x.trial(0), BAD);
        due("trial", x.trial(2), BAD);
        Worlds.alike("trial told", x, Worlds.some());
    }

    static void promise23_oneShortOfFullThenFull() {
        LawRings x = withRules(14);
        for (int i = 0; i < 11; i++) x.trial(i);
        due("BAD one short of full", x.trial(14), BAD);
        due("told one short of full", x.trial(10), BAD);
        due("the last", x.trial(11), 12);
        due("one more", x.trial(12), FULL);
        due("and one more", x.trial(13), FULL);
        due("count", x.count(4), 12);
    }

    static void promise23_badAheadOfFull() {
        LawRings x = Worlds.full();
        due("FULL", x.trial(1), FULL);
        for (int i = 0; i < 12; i++) due("told", x.trial(i * 5), BAD);
        for (int rule : new int[] { -1, 60, LEAST_INT, GREATEST_INT }) due("rule " + rule, x.trial(rule), BAD);
    }

    static void promise23_fullChangesNothing() {
        LawRings x = Worlds.full();
        due("trial", x.trial(1), FULL);
        due("trial", x.trial(59), FULL);
        Worlds.alike("trial FULL", x, Worlds.full());
    }

    static void promise23_aStruckRuleToo() {
        LawRings x = withRules(1);
        x.strike(0, 0);
        due("trial", x.trial(0), 1);
    }

    // ---- 24, untry

    static void promise24_howManyWere() {
        LawRings x = withRules(13);
        due("none", x.untry(), 0);
        x.trial(3);
        due("one", x.untry(), 1);
        due("none again", x.untry(), 0);
        for (int i = 0; i < 12; i++) x.trial(i);
        due("FULL", x.trial(12), FULL);
        due("twelve", x.untry(), 12);
        due("count", x.count(4), 0);
    }

    static void promise24_roomForTwelveAgain() {
        LawRings x = withRules(24);
        for (int i = 0; i < 12; i++) x.trial(i);
        x.untry();
        for (int i = 0; i < 12; i++) due("trial", x.trial(i + 6), i + 1);
        due("one more", x.trial(0), FULL);
    }

    static void promise24_placesBeginAnew() {
        LawRings x = withRules(2);
        x.newCase(0);
        for (int land = 0; land < 4; land++) x.rule(land, 0, INNER, LAND + 2, 0);
        x.trial(2);
        x.trial(0);
        x.trial(1);
        due("places 1 and 2", x.fewest(), 6);
        x.untry();
        due("none for trial", x.fewest(), NONE);
        x.trial(1);
        x.trial(0);
        due("places 0 and 1", x.fewest(), 3);
    }

    static void promise24_nothingElseChanges() {
        LawRings x = Worlds.some();
        due("untry", x.untry(), 2);
        x.trial(0);
        x.trial(2);
        Worlds.alike("untry", x, Worlds.some());
    }

    // ---- 25, kindOf

    private static Edges kindOf() {
        return new Edges("kindOf", Worlds::some, (x, a) -> x.kindOf(a[0], a[1]), BAD, 0, 0);
    }

    static void promise25_theCaseIsThere() {
        kindOf().bounds(0, 0, 2);
        new Edges("kindOf of 16", Worlds::full, (x, a) -> x.kindOf(a[0], 1), BAD, 0).bounds(0, 0, 15);
    }

    static void promise25_theKindIs0To2() {
        kindOf().bounds(1, 0, 2);
    }

    static void promise25_whatItWas() {
        LawRings x = new LawRings();
        for (int c = 0; c < 16; c++) {
            x.newCase(0);
            due("0 at first", x.kindOf(c, 2), 0);
            due("was", x.kindOf(c, 2), 2);
            due("was", x.kindOf(c, c % 3), 2);
        }
        for (int c = 0; c < 16; c++) due("each its own", x.kindOf(c, 0), c % 3);
    }

    // ---- 26, fewest

    /** In CASE 0 LANDS 0 and 1 end in 1, 2 and 3 in 2; without RULES 0 and 1 all in 2, without 2 and 3 all in 1. */
    private static LawRings twoCamps() {
        LawRings x = new LawRings();
        x.newCase(0);
        for (int land = 0; land < 4; land++) x.rule(land, 0, INNER, land < 2 ? LAND + 1 : LAND + 2, 0);
        for (int land = 0; land < 4; land++) x.rule(land, 0, INNER, land < 2 ? LAND + 2 : LAND + 1, 0);
        return x;
    }

    static void promise26_noWithoutCases() {
        LawRings x = new LawRings();
        due("the empty object", x.fewest(), NO);
        x.rule(0, 0, INNER, LAND, 0);
        x.trial(0);
        due("with trials", x.fewest(), NO);
        x.newCase(999);
        due("with a case", x.fewest(), NONE);
    }

    static void promise26_withoutTrials() {
        LawRings x = new LawRings();
        x.newCase(0);
        due("unlike", x.fewest(), NONE);
        for (int land = 0; land < 4; land++) x.rule(land, 0, INNER, LAND + 3, 0);
        due("alike", x.fewest(), 0);
    }

    static void promise26_noneNeedBeStruck() {
        LawRings x = new LawRings();
        x.newCase(0);
        for (int land = 0; land < 4; land++) x.rule(land, 0, INNER, LAND + 3, 0);
        for (int land = 0; land < 4; land++) x.trial(land);
        due("alike", x.fewest(), 0);
    }

    static void promise26_allEndlessIsAlike() {
        LawRings x = new LawRings();
        x.newCase(0);
        for (int land = 0; land < 4; land++) {
            x.rule(land, 0, WHOLE, LAND + (land + 1) % 4, 0);
            x.way(land, AS_THE_OTHER);
        }
        x.trial(0);
        due("fewest", x.fewest(), 0);
        x.rule(0, 1, INNER, LAND, 0);
        x.sort(0, 0, 1);
        due("as all wait for LAND 0 they are alike still", x.fewest(), 0);
    }

    static void promise26_noSetDoes() {
        LawRings x = twoCamps();
        for (int rule : new int[] { 0, 2, 4, 5, 6, 7 }) x.trial(rule);
        due("only one of each two for trial, and their rests", x.fewest(), NONE);
    }

    static void promise26_fewestAheadOfTheLeastBits() {
        LawRings x = new LawRings();
        x.newCase(0);
        x.rule(0, 0, INNER, LAND + 1, 0);
        for (int land = 1; land < 4; land++) x.rule(land, 0, INNER, LAND, 0);
        for (int land = 1; land < 4; land++) x.rule(land, 0, INNER, LAND + 1, 0);
        for (int rule = 1; rule < 4; rule++) x.trial(rule);
        due("three", x.fewest(), 7);
        x.trial(0);
        due("one at a higher place", x.fewest(), 8);
    }

    static void promise26_ofLikeOnesTheLeastAsBits() {
        LawRings x = twoCamps();
        for (int rule : new int[] { 0, 2, 3, 1 }) x.trial(rule);
        due("places 1 and 2 ahead of 0 and 3", x.fewest(), 6);
        x = twoCamps();
        for (int rule : new int[] { 2, 0, 1, 3 }) x.trial(rule);
        due("places 1 and 2 ahead of 0 and 3, turned", x.fewest(), 6);
    }

    static void promise26_theTwelfthPlace() {
        LawRings x = withRules(1);
        x.newCase(0);
        for (int land = 0; land < 4; land++) x.rule(land, 0, INNER, LAND, 0);
        for (int i = 0; i < 11; i++) x.rule(3, 2, INNER, LAND, 0);
        for (int i = 0; i < 11; i++) x.trial(5 + i);
        due("eleven that do not matter", x.fewest(), NONE);
        due("the twelfth", x.trial(0), 12);
        due("fewest", x.fewest(), 1 << 11);
    }

    static void promise26_allTwelve() {
        LawRings x = new LawRings();
        x.newCase(0);
        for (int i = 0; i < 44; i++) x.rule(3, 2, INNER, LAND, 0);
        for (int i = 0; i < 12; i++) x.rule(0, 0, INNER, LAND + 3, 0);
        for (int land = 0; land < 4; land++) x.rule(land, 0, INNER, LAND, 0);
        for (int i = 0; i < 12; i++) {
            due("not all", x.fewest(), NONE);
            x.trial(44 + i);
        }
        due("all", x.fewest(), 4095);
    }

    static void promise26_inEachCaseThereIs() {
        LawRings x = new LawRings();
        for (int c = 0; c < 16; c++) x.newCase(c);
        x.rule(0, 0, INNER, LAND + 1, 15);
        for (int land = 0; land < 4; land++) x.rule(land, 0, INNER, LAND, 0);
        due("the last case is unlike", x.fewest(), NONE);
        x.trial(0);
        due("without the rule", x.fewest(), 1);
        x.strike(0, 15);
        due("struck", x.fewest(), 0);
        x = new LawRings();
        for (int c = 0; c < 16; c++) x.newCase(c);
        x.rule(0, 0, INNER, LAND + 1, 0);
        x.strike(0, 1);
        for (int land = 0; land < 4; land++) x.rule(land, 0, INNER, LAND, 0);
        due("the first case is unlike", x.fewest(), NONE);
        x.trial(0);
        due("without the rule", x.fewest(), 1);
    }

    static void promise26_oneSetForAllCases() {
        LawRings x = new LawRings();
        x.newCase(0);
        x.newCase(0);
        x.tie(1, 0, 1, 0);
        x.test(x.rule(0, 0, INNER, LAND + 1, 0), 0, UNTOLD);
        x.test(x.rule(0, 0, INNER, LAND + 1, 0), 0, TOLD);
        for (int land = 0; land < 4; land++) x.rule(land, 0, INNER, LAND, 0);
        x.trial(0);
        due("one case is unlike still", x.fewest(), NONE);
        x.trial(1);
        due("both", x.fewest(), 3);
    }

    static void promise26_byTheTiesOfEachCase() {
        LawRings x = new LawRings();
        for (int c = 0; c < 3; c++) x.newCase(0);
        for (int c = 0; c < 3; c++) x.tie(c, 0, 1, 0);
        x.rule(0, 0, INNER, OF_TIE, 0);
        for (int land = 1; land < 4; land++) x.rule(land, 0, INNER, LAND + 1, 0);
        due("alike", x.fewest(), 0);
        for (int c = 0; c < 3; c++) {
            x.tie(c, 0, 2, 0);
            due("case " + c + " is unlike", x.fewest(), NONE);
            x.tie(c, 0, 1, 0);
        }
    }

    static void promise26_byTreaties() {
        LawRings x = new LawRings();
        x.newCase(0);
        x.newCase(0);
        x.tie(0, 0, 1, 0);
        x.treaty(0, 15, 0);
        due("the second has no tie", x.fewest(), NONE);
        x.tie(1, 0, 2, 0);
        due("alike by a treaty", x.fewest(), 0);
        x.tie(0, 0, NONE, 0);
        due("the first has no tie", x.fewest(), NONE);
    }

    static void promise26_byTheKindToldWithIt() {
        LawRings x = new LawRings();
        x.newCase(0);
        x.newCase(0);
        for (int land = 0; land < 4; land++) x.rule(land, 2, INNER, LAND, 0);
        x.kindOf(0, 2);
        due("the other is of kind 0", x.fewest(), NONE);
        x.kindOf(1, 2);
        due("both of kind 2", x.fewest(), 0);
        x.kindOf(0, 1);
        due("one of kind 1", x.fewest(), NONE);
    }

    static void promise26_changesNothing() {
        LawRings x = Worlds.some();
        x.fewest();
        Worlds.alike("fewest", x, Worlds.some());
    }

    // ---- 27, ask

    private static Edges ask() {
        return new Edges("ask", Worlds::some, (x, a) -> x.ask(a[0], a[1], a[2], a[3], a[4]), BAD, 0, 0, 0, 0, 0);
    }

    static void promise27_theCaseIsThere() {
        ask().bounds(0, 0, 2);
    }

    static void promise27_theKindIs0To2() {
        ask().bounds(1, 0, 2);
    }

    static void promise27_wishedIsALand() {
        ask().bounds(2, 0, 3);
    }

    static void promise27_freeAreSixBits() {
        ask().bounds(3, 0, 63);
    }

    static void promise27_whatIs0To2() {
        ask().bounds(4, 0, 2);
    }

    private static void dueAsk(String what, LawRings x, int wished, int free, int... want) {
        for (int i = 0; i < 3; i++) due(what + ", " + i, x.ask(0, 0, wished, free, i), want[i]);
    }

    /** All LANDS end in LAND 0, but in LAND 3 if each TIE is told; CASE 0 has no TIES. */
    private static LawRings allTold() {
        LawRings x = new LawRings();
        x.newCase(7);
        for (int land = 0; land < 4; land++) {
            for (int t = 0; t < 6; t++) x.test(x.rule(land, 0, INNER, LAND, 0), t, UNTOLD);
            x.rule(land, 0, INNER, LAND + 3, 0);
        }
        return x;
    }

    static void promise27_noneMadeOther() {
        LawRings x = new LawRings();
        x.newCase(0);
        for (int land = 0; land < 4; land++) {
            dueAsk("each its own, none free", x, land, 0, 0, land, 0);
            dueAsk("each its own, all free", x, land, 63, 0, land, 0);
        }
        for (int t = 0; t < 6; t++) x.tie(0, t, 3, 0);
        dueAsk("the case's number", x, 2, 63, 0, 2, ALL - 1);
    }

    static void promise27_allSixMadeOther() {
        LawRings x = allTold();
        dueAsk("six", x, 3, 63, 6, 0, number(0, 0, 0, 0, 0, 0));
        x.tie(0, 5, 3, 0);
        dueAsk("one told already", x, 3, 31, 5, 0, number(0, 0, 0, 0, 0, 3));
        dueAsk("one told already, all free", x, 3, 63, 5, 0, number(0, 0, 0, 0, 0, 3));
    }

    static void promise27_nowhere() {
        LawRings x = allTold();
        for (int t = 0; t < 6; t++) dueAsk("tie " + t + " not free", x, 3, 63 - (1 << t), NONE, NONE, NONE);
        dueAsk("none free", x, 3, 0, NONE, NONE, NONE);
        dueAsk("a land in which none ends", x, 2, 63, NONE, NONE, NONE);
    }

    static void promise27_eachTieByItsBit() {
        for (int t = 0; t < 6; t++) {
            LawRings x = new LawRings();
            x.newCase(0);
            for (int land = 0; land < 4; land++) {
                x.rule(land, 0, INNER, OF_TIE + t, 0);
                x.rule(land, 0, INNER, LAND, 0);
            }
            dueAsk("tie " + t + " not free", x, 3, 63 - (1 << t), NONE, NONE, NONE);
            dueAsk("tie " + t + " free", x, 3, 1 << t, 1, 0, 4 * power5(t));
        }
    }

    static void promise27_toAnyLand() {
        LawRings x = new LawRings();
        x.newCase(0);
        x.tie(0, 0, 1, 0);
        x.tie(0, 1, 2, 0);
        for (int land = 0; land < 4; land++) x.rule(land, 0, INNER, OF_TIE, 0);
        for (int wished = 0; wished < 4; wished++) {
            dueAsk("LAND " + wished, x, wished, 63, wished == 1 ? 0 : 1, 0, number(wished, 2));
        }
    }

    static void promise27_toALandNotToNone() {
        LawRings x = new LawRings();
        x.newCase(0);
        x.tie(0, 0, 1, 0);
        for (int land = 0; land < 4; land++) x.test(x.rule(land, 0, INNER, LAND + 3, 0), 0, UNTOLD);
        for (int land = 0; land < 4; land++) x.rule(land, 0, INNER, LAND, 0);
        dueAsk("only by none", x, 3, 63, NONE, NONE, NONE);
        x.tie(0, 0, NONE, 0);
        dueAsk("none as it is", x, 3, 63, 0, 0, 0);
    }

    static void promise27_fewestAheadOfTheLeastJudge() {
        LawRings x = new LawRings();
        x.newCase(0);
        x.rule(3, 0, INNER, LAND, 0);
        x.test(x.rule(2, 0, INNER, LAND + 3, 0), 5, IS_LAND + 3);
        int two = x.rule(0, 0, INNER, LAND + 3, 0);
        x.test(two, 0, TOLD);
        x.test(two, 1, TOLD);
        dueAsk("one tie, judge 2", x, 3, 63, 1, 2, 4 * power5(5));
        dueAsk("two ties, judge 0", x, 3, 31, 2, 0, number(0, 0));
    }

    static void promise27_theLeastJudgeAheadOfTheLeastNumber() {
        LawRings x = new LawRings();
        x.newCase(0);
        x.rule(3, 0, INNER, LAND, 0);
        x.test(x.rule(2, 0, INNER, LAND + 3, 0), 0, IS_LAND);
        x.test(x.rule(1, 0, INNER, LAND + 3, 0), 4, IS_LAND + 2);
        dueAsk("judge 1", x, 3, 63, 1, 1, 3 * power5(4));
        dueAsk("judge 2", x, 3, 1, 1, 2, 1);
    }

    static void promise27_thenTheLeastNumber() {
        LawRings x = new LawRings();
        x.newCase(0);
        x.rule(3, 0, INNER, LAND, 0);
        for (int t = 5; t > 0; t--) x.test(x.rule(1, 0, INNER, LAND + 3, 0), t, ELSEWHERE);
        dueAsk("tie 1 to LAND 0", x, 3, 63, 1, 1, power5(1));
        dueAsk("tie 3 to LAND 0", x, 3, 8 + 16 + 32, 1, 1, power5(3));
    }

    static void promise27_aNumberMayBeLessThanTheCases() {
        LawRings x = new LawRings();
        x.newCase(0);
        x.tie(0, 0, 3, 0);
        x.tie(0, 1, 3, 0);
        for (int land = 0; land < 4; land++) x.rule(land, 0, INNER, OF_TIE + 1, 0);
        dueAsk("tie 1 to LAND 0", x, 0, 63, 1, 0, number(3, 0));
    }

    static void promise27_onTheCasesDayAndKind() {
        LawRings x = new LawRings();
        x.newCase(5);
        x.newCase(6);
        for (int land = 0; land < 4; land++) x.rule(land, 1, INNER, OF_TIE, 6);
        due("of day 5", x.ask(0, 1, 3, 1, 1), 3);
        due("of day 6", x.ask(1, 1, 3, 1, 1), 3);
        due("of day 6, as it is", x.ask(1, 1, 3, 0, 0), 0);
        for (int land = 0; land < 4; land++) x.rule(land, 1, INNER, LAND, 6);
        due("of day 6, judge 0", x.ask(1, 1, 3, 1, 1), 0);
        due("of day 6, one tie", x.ask(1, 1, 3, 1, 0), 1);
        due("another kind", x.ask(1, 0, 3, 1, 0), 0);
    }

    static void promise27_byTreatiesAndWays() {
        LawRings x = new LawRings();
        x.newCase(0);
        for (int land = 0; land < 4; land++) {
            x.rule(land, 0, WHOLE, LAND + (land + 1) % 4, 0);
            x.way(land, AS_THE_OTHER);
        }
        dueAsk("all wait without end", x, 0, 63, NONE, NONE, NONE);
        x.treaty(0, 12, 2);
        dueAsk("a treaty of those waited for", x, 3, 63, 1, 0, 4 * power5(2));
        dueAsk("its other lands", x, 0, 63, NONE, NONE, NONE);
    }

    static void promise27_changesNothing() {
        LawRings x = Worlds.some();
        for (int what = 0; what < 3; what++) x.ask(1, 0, 2, 63, what);
        Worlds.alike("ask", x, Worlds.some());
    }

    // ---- 28, count

    static void promise28_whatIs0To4() {
        new Edges("count", Worlds::some, (x, a) -> x.count(a[0]), BAD, 0).bounds(0, 0, 4);
        new Edges("count of the empty object", Worlds::empty, (x, a) -> x.count(a[0]), BAD, 0).bounds(0, 0, 4);
    }

    static void promise28_eachCount() {
        LawRings x = Worlds.some();
        int[] want = { 3, 9, 6, 2, 2 };
        for (int what = 0; what < 5; what++) due("count " + what, x.count(what), want[what]);
    }

    static void promise28_fullTables() {
        LawRings x = Worlds.full();
        int[] want = { 16, 60, 60, 8, 12 };
        for (int what = 0; what < 5; what++) due("count " + what, x.count(what), want[what]);
        x.newCase(0);
        x.tie(0, 0, 0, 0);
        x.rule(0, 0, 0, 0, 0);
        x.treaty(0, 1, 0);
        x.trial(1);
        for (int what = 0; what < 5; what++) due("count " + what + " behind FULL", x.count(what), want[what]);
    }

    static void promise28_struckRulesCountStill() {
        LawRings x = withRules(2);
        x.strike(0, 0);
        due("count", x.count(2), 2);
    }

    // ---- 29, digest

    private static long mixed(List<Integer> values) {
        BigInteger h = BigInteger.valueOf(397);
        for (int v : values) h = h.multiply(BigInteger.valueOf(31)).add(BigInteger.valueOf(v));
        return h.longValue();
    }

    private static List<Integer> listed(int... values) {
        List<Integer> all = new ArrayList<>();
        for (int v : values) all.add(v);
        return all;
    }

    static void promise29_eachValueInItsPlace() {
        LawRings x = new LawRings();
        x.newCase(9);
        x.kindOf(0, 2);
        x.tie(0, 0, 3, 9);
        x.tie(0, 1, 2, 10);
        x.rule(1, 2, WHOLE, 1, 4);
        x.rule(0, 1, INNER, 7, 0);
        x.test(1, 4, 13);
        x.test(1, 2, 1);
        x.strike(1, 6);
        x.sort(2, 0, 1);
        x.way(1, AS_THE_OTHER);
        x.way(3, TO_THE_END);
        x.treaty(1, 9, 0);
        x.trial(1);
        x.trial(0);
        due("digest", x.digest(), mixed(listed(1, 2, 2, 1, 2,
            9, 2, 3, -1, -1, -1, -1, -1,
            0, 1, 2, 3, 3, 1, 2, 3, 0, 0, 2, 3,
            1, 2, 1, 1, 4, -1, 0,
            0, 1, 0, 7, 0, 6, 2, 4, 13, 2, 1,
            0, 1, 2, 0, 1, 2, 1, 1, 2, 0, 1, 2,
            0, 3, 0, 2,
            1, 9, 0,
            1, 0)));
    }

    static void promise29_endlessIsMinusFive() {
        LawRings x = new LawRings();
        x.newCase(0);
        x.rule(0, 0, WHOLE, LAND + 1, 0);
        x.rule(1, 0, WHOLE, LAND, 0);
        x.way(0, AS_THE_OTHER);
        x.way(1, AS_THE_OTHER);
        due("digest", x.digest(), mixed(listed(1, 0, 2, 0, 0,
            0, 0, -1, -1, -1, -1, -1, -1,
            -5, -5, 2, 3, 0, 1, 2, 3, 0, 1, 2, 3,
            0, 0, 1, 2, 0, -1, 0,
            1, 0, 1, 1, 0, -1, 0,
            0, 1, 2, 0, 1, 2, 0, 1, 2, 0, 1, 2,
            3, 3, 0, 0)));
    }

    static void promise29_struckFromDay0IsNotNone() {
        for (int struck = NONE; struck <= 0; struck++) {
            LawRings x = withRules(1);
            if (struck != NONE) x.strike(0, struck);
            due("struck " + struck, x.digest(), mixed(listed(0, 0, 1, 0, 0, 0, 0, 0, 2, 0, struck, 0,
                0, 1, 2, 0, 1, 2, 0, 1, 2, 0, 1, 2, 0, 0, 0, 0)));
        }
    }

    /** With every table full the numbers are far beyond a long's: h wraps around. */
    static void promise29_wrapsAroundWithFullTables() {
        LawRings x = Worlds.full();
        List<Integer> all = listed(16, 60, 60, 8, 12);
        for (int c = 0; c < 16; c++) {
            all.add(c * 3);
            all.add(0);
            for (int t = 0; t < 6; t++) all.add(x.which(c, t));
            for (int kind = 0; kind < 3; kind++) {
                for (int land = 0; land < 4; land++) all.add(x.ends(land, c, kind));
            }
        }
        for (int i = 0; i < 60; i++) {
            all.addAll(listed(i % 4, i % 3, i % 2, i % 11, i % 40, i == 0 ? 20 : NONE));
            all.addAll(i == 0 ? listed(2, 0, 0, 1, 2) : i == 59 ? listed(1, 2, 3) : listed(0));
        }
        for (int land = 0; land < 4; land++) all.addAll(listed(0, 1, 2));
        all.addAll(listed(0, 3, 0, 2));
        for (int i = 0; i < 8; i++) all.addAll(listed(i % 3, 3 + i, i % 6));
        for (int i = 0; i < 12; i++) all.add(i * 5);
        due("digest", x.digest(), mixed(all));
    }

    static void promise29_looksChangeNothing() {
        LawRings x = Worlds.some();
        long before = x.digest();
        x.which(0, 0);
        x.holds(0, 0);
        x.says(0, 0, 0);
        x.said(0, 0, 0);
        x.ends(0, 0, 0);
        x.chain(0, 0, 0, NONE);
        x.parts(0, 1, 0, 0);
        x.endsIn(0, 0, 0, 77);
        x.unlike(0, 1, 0, 0);
        x.least(0, 1, 0, 0);
        x.reached(0, 0, 0);
        x.same(0, 0);
        x.dead(0, 0);
        x.fewest();
        x.ask(0, 0, 3, 63, 0);
        x.count(0);
        due("digest", x.digest(), before);
        Worlds.alike("looks", x, Worlds.some());
    }

    static void promise29_whatDoesNotCountIsCountedAlone() {
        LawRings x = new LawRings();
        LawRings y = new LawRings();
        x.newCase(5);
        y.newCase(5);
        x.tie(0, 0, 3, 6);
        y.tie(0, 5, 1, 999);
        due("ties behind the case's day", x.digest(), y.digest());
    }
}
