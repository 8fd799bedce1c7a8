// Promises 11 to 16: looks at one case.
public final class OneCaseTest extends Sentences {
    public static void main(String[] args) {
        runAll(OneCaseTest.class, 11, 16);
    }

    /** LAND 0 sends to 1, 1 to 2, 2 to 3, and 3 by the last RULE; CASE 0 has no TIES. */
    private static LawRings line(int lastEnd, int lastLand) {
        LawRings x = new LawRings();
        x.newCase(10);
        for (int land = 0; land < 3; land++) x.rule(land, 0, WHOLE, LAND + land + 1, 0);
        x.rule(3, 0, lastEnd, LAND + lastLand, 0);
        return x;
    }

    private static LawRings line(int lastEnd, int lastLand, int way) {
        LawRings x = line(lastEnd, lastLand);
        for (int land = 0; land < 4; land++) x.way(land, way);
        return x;
    }

    /** Lands as told: each sends WHOLE to the land that stands there; INNER of itself where that is NONE. */
    private static LawRings sending(int... to) {
        LawRings x = new LawRings();
        x.newCase(0);
        for (int land = 0; land < to.length; land++) {
            if (to[land] != NONE) x.rule(land, 0, WHOLE, LAND + to[land], 0);
        }
        return x;
    }

    // ---- 11, holds

    private static Edges holds() {
        return new Edges("holds", Worlds::some, (x, a) -> x.holds(a[0], a[1]), BAD, 0, 0);
    }

    static void promise11_theRuleIsThere() {
        holds().bounds(0, 0, 5);
        new Edges("holds of 60", Worlds::full, (x, a) -> x.holds(a[0], 0), BAD, 0).bounds(0, 0, 59);
    }

    static void promise11_theCaseIsThere() {
        holds().bounds(1, 0, 2);
        new Edges("holds of 16", Worlds::full, (x, a) -> x.holds(0, a[0]), BAD, 0).bounds(0, 0, 15);
    }

    static void promise11_standsAndHolds() {
        LawRings x = new LawRings();
        x.newCase(10);
        x.newCase(20);
        x.tie(1, 0, 2, 0);
        x.rule(0, 0, INNER, THIS, 20);
        x.test(0, 0, UNTOLD);
        due("holds, stands not", x.holds(0, 0), 0);
        due("stands, holds not", x.holds(0, 1), 0);
        x.newCase(20);
        due("both", x.holds(0, 2), 1);
    }

    static void promise11_ofATieThatMustBeTold() {
        for (int t = 0; t < 6; t++) {
            LawRings x = new LawRings();
            x.newCase(0);
            for (int end = INNER; end <= WHOLE; end++) {
                int rule = x.rule(0, 0, end, OF_TIE + t, 0);
                due("tie " + t + " not told", x.holds(rule, 0), 0);
            }
            x.tie(0, t, 3, 0);
            for (int rule = 0; rule < 2; rule++) due("tie " + t + " told", x.holds(rule, 0), 1);
            x.tie(0, t, NONE, 0);
            for (int rule = 0; rule < 2; rule++) due("tie " + t + " told as none", x.holds(rule, 0), 0);
        }
    }

    static void promise11_whateverItsLandSortsAndIsAhead() {
        LawRings x = new LawRings();
        x.newCase(0);
        x.rule(0, 0, INNER, LAND, 0);
        x.rule(0, 0, INNER, LAND, 0);
        x.sort(0, 0, 1);
        due("behind another", x.holds(1, 0), 1);
        due("under a kind that is not looked at", x.holds(0, 0), 1);
    }

    static void promise11_rulesBeyondTheBitsOfAnInt() {
        LawRings x = new LawRings();
        x.newCase(0);
        for (int i = 0; i < 60; i++) x.test(x.rule(0, 0, INNER, THIS, 0), 0, i % 2);
        for (int i : new int[] { 0, 1, 30, 31, 32, 33, 58, 59 }) due("rule " + i, x.holds(i, 0), i % 2);
    }

    // ---- 12, says

    private static Edges says() {
        return new Edges("says", Worlds::some, (x, a) -> x.says(a[0], a[1], a[2]), BAD_HERE, 0, 0, 0);
    }

    static void promise12_theLandIs0To3() {
        says().bounds(0, 0, 3);
    }

    static void promise12_theCaseIsThere() {
        says().bounds(1, 0, 2);
    }

    static void promise12_theKindIs0To2() {
        says().bounds(2, 0, 2);
    }

    static void promise12_noneOfAnEmptyBook() {
        LawRings x = new LawRings();
        x.newCase(0);
        x.rule(1, 0, INNER, LAND, 0);
        x.rule(0, 1, INNER, LAND, 0);
        x.rule(0, 2, INNER, LAND, 0);
        due("other lands' and other kinds' rules", x.says(0, 0, 0), NONE);
    }

    static void promise12_theFirstByNumbersThatStandsAndHolds() {
        LawRings x = new LawRings();
        x.newCase(10);
        x.rule(0, 0, INNER, OF_TIE, 0);
        x.rule(0, 0, INNER, LAND + 3, 11);
        x.rule(0, 0, INNER, LAND + 2, 0);
        x.rule(0, 0, INNER, LAND + 1, 0);
        x.rule(0, 0, INNER, LAND, 5);
        x.strike(2, 10);
        due("not the one that does not hold, nor yet stands, nor is struck", x.says(0, 0, 0), 3);
        x.tie(0, 0, 3, 0);
        due("the first", x.says(0, 0, 0), 0);
        x.strike(0, 11);
        due("struck behind the case's day", x.says(0, 0, 0), 0);
    }

    static void promise12_noneWhereNoneHolds() {
        LawRings x = new LawRings();
        x.newCase(10);
        x.rule(0, 0, INNER, OF_TIE + 5, 0);
        x.rule(0, 0, INNER, THIS, 11);
        x.rule(0, 0, INNER, THIS, 0);
        x.strike(2, 10);
        due("says", x.says(0, 0, 0), NONE);
        due("said", x.said(0, 0, 0), 0);
    }

    static void promise12_theFirstAndTheLastRule() {
        LawRings x = new LawRings();
        x.newCase(0);
        for (int i = 0; i < 60; i++) x.rule(i == 0 ? 0 : i == 59 ? 3 : 1, 0, INNER, LAND, 0);
        due("rule 0", x.says(0, 0, 0), 0);
        due("rule 1", x.says(1, 0, 0), 1);
        due("rule 59", x.says(3, 0, 0), 59);
        for (int i = 1; i < 58; i++) x.strike(i, 0);
        due("rule 58", x.says(1, 0, 0), 58);
    }

    static void promise12_theRuleWhateverTreatiesAre() {
        LawRings x = sending(1, NONE, NONE, NONE);
        x.tie(0, 0, 0, 0);
        x.treaty(0, 15, 0);
        due("says", x.says(0, 0, 0), 0);
        due("said", x.said(0, 0, 0), 11);
    }

    // ---- 13, said

    private static Edges said() {
        return new Edges("said", Worlds::some, (x, a) -> x.said(a[0], a[1], a[2]), BAD, 0, 0, 0);
    }

    static void promise13_theLandIs0To3() {
        said().bounds(0, 0, 3);
    }

    static void promise13_theCaseIsThere() {
        said().bounds(1, 0, 2);
    }

    static void promise13_theKindIs0To2() {
        said().bounds(2, 0, 2);
    }

    static void promise13_withoutAnyInnerOfThisLand() {
        LawRings x = new LawRings();
        x.newCase(0);
        for (int land = 0; land < 4; land++) {
            for (int kind = 0; kind < 3; kind++) due("said", x.said(land, 0, kind), land);
        }
    }

    static void promise13_tenTimesTheEndAndTheLand() {
        for (int end = INNER; end <= WHOLE; end++) {
            for (int whose = 0; whose < 4; whose++) {
                LawRings x = new LawRings();
                x.newCase(0);
                x.tie(0, 5, whose, 0);
                for (int land = 0; land < 4; land++) {
                    x.rule(land, 0, end, LAND + whose, 0);
                    x.rule(land, 1, end, OF_TIE + 5, 0);
                    x.rule(land, 2, end, THIS, 0);
                    due("of a land", x.said(land, 0, 0), 10 * end + whose);
                    due("of a tie", x.said(land, 0, 1), 10 * end + whose);
                    due("of this land", x.said(land, 0, 2), 10 * end + land);
                }
            }
        }
    }

    // ---- 14, ends

    private static Edges ends() {
        return new Edges("ends", Worlds::some, (x, a) -> x.ends(a[0], a[1], a[2]), BAD, 0, 0, 0);
    }

    static void promise14_theLandIs0To3() {
        ends().bounds(0, 0, 3);
    }

    static void promise14_theCaseIsThere() {
        ends().bounds(1, 0, 2);
    }

    static void promise14_theKindIs0To2() {
        ends().bounds(2, 0, 2);
    }

    static void promise14_innerOfALandWhateverTheWay() {
        for (int v = NEVER; v <= AS_THE_OTHER; v++) {
            LawRings x = line(INNER, 0, v);
            due("way " + v, x.ends(3, 0, 0), 0);
        }
    }

    static void promise14_wholeOfItselfWhateverTheWay() {
        for (int v = NEVER; v <= AS_THE_OTHER; v++) {
            LawRings x = new LawRings();
            x.newCase(0);
            x.tie(0, 0, 2, 0);
            for (int land = 0; land < 4; land++) x.way(land, v);
            x.rule(0, 0, WHOLE, THIS, 0);
            x.rule(1, 0, WHOLE, LAND + 1, 0);
            x.rule(2, 0, WHOLE, OF_TIE, 0);
            for (int land = 0; land < 3; land++) due("way " + v, x.ends(land, 0, 0), land);
        }
    }

    static void promise14_never() {
        LawRings x = line(WHOLE, 0);
        for (int land = 0; land < 4; land++) due("NEVER", x.ends(land, 0, 0), (land + 1) % 4);
    }

    static void promise14_once() {
        LawRings x = line(WHOLE, 0, ONCE);
        for (int land = 0; land < 4; land++) due("ONCE, WHOLE", x.ends(land, 0, 0), (land + 2) % 4);
        x = line(INNER, 1, ONCE);
        due("ONCE, INNER", x.ends(2, 0, 0), 1);
        due("ONCE, back to the judge's own", sendingOnce(1, 0).ends(0, 0, 0), 0);
        due("ONCE, WHOLE of itself", sendingOnce(1, 1).ends(0, 0, 0), 1);
        due("ONCE, by no rule", sendingOnce(1, NONE).ends(0, 0, 0), 1);
    }

    private static LawRings sendingOnce(int... to) {
        LawRings x = sending(to);
        x.way(0, ONCE);
        return x;
    }

    static void promise14_onceByTheBookNotTheWayNorTreaties() {
        LawRings x = line(INNER, 0, ONCE);
        x.way(1, TO_THE_END);
        due("the other's way", x.ends(0, 0, 0), 2);
        x.tie(0, 0, 1, 0);
        x.treaty(0, 2, 0);
        due("the other's treaty", x.ends(0, 0, 0), 2);
    }

    static void promise14_toTheEndInner() {
        for (int y = 0; y < 4; y++) {
            LawRings x = line(INNER, y, TO_THE_END);
            for (int land = 0; land < 4; land++) due("INNER of " + y, x.ends(land, 0, 0), y);
        }
        LawRings x = sending(1, 2, NONE, NONE);
        x.way(0, TO_THE_END);
        due("by no rule", x.ends(0, 0, 0), 2);
    }

    static void promise14_toTheEndALandMetAhead() {
        for (int back = 0; back < 4; back++) {
            LawRings x = line(WHOLE, back, TO_THE_END);
            due("back to " + back, x.ends(0, 0, 0), back);
        }
    }

    static void promise14_toTheEndTheJudgesOwnIsTheFirstMet() {
        LawRings x = line(WHOLE, 0, TO_THE_END);
        for (int land = 0; land < 4; land++) due("a ring of four", x.ends(land, 0, 0), land);
        x = sending(1, 0, NONE, NONE);
        x.way(0, TO_THE_END);
        x.way(1, TO_THE_END);
        due("a ring of two", x.ends(0, 0, 0), 0);
        due("a ring of two", x.ends(1, 0, 0), 1);
        x = line(WHOLE, 1, TO_THE_END);
        due("a ring the judge is not in", x.ends(0, 0, 0), 1);
        due("within it", x.ends(2, 0, 0), 2);
    }

    static void promise14_toTheEndByBooksAlone() {
        LawRings x = line(INNER, 0);
        x.way(0, TO_THE_END);
        for (int v = NEVER; v <= AS_THE_OTHER; v++) {
            x.way(1, v);
            x.way(2, v);
            due("others' ways", x.ends(0, 0, 0), 0);
        }
        x.tie(0, 0, 2, 0);
        x.treaty(0, 4 | 2, 0);
        due("others' treaties", x.ends(0, 0, 0), 0);
    }

    static void promise14_asTheOtherByItsWay() {
        LawRings x = line(WHOLE, 1);
        x.way(0, AS_THE_OTHER);
        due("NEVER", x.ends(0, 0, 0), 2);
        x.way(1, ONCE);
        due("ONCE", x.ends(0, 0, 0), 3);
        x.way(1, TO_THE_END);
        due("TO THE END: the other's own is the first met", x.ends(0, 0, 0), 1);
        x.way(1, AS_THE_OTHER);
        due("AS THE OTHER, who never sends on", x.ends(0, 0, 0), 3);
    }

    static void promise14_asTheOtherByTreaties() {
        LawRings x = line(WHOLE, 0, AS_THE_OTHER);
        x.tie(0, 0, 3, 0);
        due("no treaty", x.ends(0, 0, 0), ENDLESS);
        x.treaty(0, 8, 0);
        for (int land = 0; land < 4; land++) due("a treaty of the last", x.ends(land, 0, 0), 3);
    }

    static void promise14_asTheOtherThroughAllFour() {
        for (int y = 0; y < 4; y++) {
            LawRings x = line(INNER, y, AS_THE_OTHER);
            due("to INNER of " + y, x.ends(0, 0, 0), y);
        }
        due("to WHOLE of itself", line(WHOLE, 3, AS_THE_OTHER).ends(0, 0, 0), 3);
    }

    static void promise14_endless() {
        for (int back = 0; back < 3; back++) {
            LawRings x = line(WHOLE, back, AS_THE_OTHER);
            for (int land = 0; land < 4; land++) due("back to " + back, x.ends(land, 0, 0), ENDLESS);
        }
    }

    static void promise14_notEndlessIfOneOfTheRingDoesNotWait() {
        for (int one = 0; one < 4; one++) {
            LawRings x = line(WHOLE, 0, AS_THE_OTHER);
            x.way(one, NEVER);
            for (int land = 0; land < 4; land++) due("NEVER of " + one, x.ends(land, 0, 0), (one + 1) % 4);
            x.way(one, TO_THE_END);
            for (int land = 0; land < 4; land++) due("TO THE END of " + one, x.ends(land, 0, 0), one);
        }
    }

    static void promise14_theOtherSortsForItself() {
        LawRings x = line(INNER, 0, AS_THE_OTHER);
        x.sort(1, 0, 2);
        due("by no rule of the other", x.ends(0, 0, 0), 1);
    }

    // ---- 15, chain

    private static Edges chain() {
        return new Edges("chain", Worlds::some, (x, a) -> x.chain(a[0], a[1], a[2], a[3]), BAD_HERE, 0, 0, 0, 0);
    }

    static void promise15_theLandIs0To3() {
        chain().bounds(0, 0, 3);
    }

    static void promise15_theCaseIsThere() {
        chain().bounds(1, 0, 2);
    }

    static void promise15_theKindIs0To2() {
        chain().bounds(2, 0, 2);
    }

    static void promise15_whatIsNoneOrItsEndOrAPlace() {
        LawRings x = line(INNER, 1);
        for (int what : new int[] { LEAST_INT, LEAST_INT + 1, -100, -10, -5, -4, -2 }) {
            due("what " + what, x.chain(0, 0, 0, what), BAD_HERE);
        }
        due("how it ends", x.chain(0, 0, 0, -3), 1);
        due("how many", x.chain(0, 0, 0, -1), 4);
        due("the first", x.chain(0, 0, 0, 0), 0);
    }

    static void promise15_notSoMany() {
        LawRings x = line(INNER, 1);
        for (int land = 0; land < 4; land++) {
            int size = 4 - land;
            due("how many", x.chain(land, 0, 0, NONE), size);
            for (int i = 0; i < size; i++) due("the i-th", x.chain(land, 0, 0, i), land + i);
            for (int i : new int[] { size, size + 1, 4, 5, 1000, GREATEST_INT - 1, GREATEST_INT }) {
                due("place " + i, x.chain(land, 0, 0, i), TOO_FEW);
            }
        }
    }

    static void promise15_badAheadOfNotSoMany() {
        LawRings x = line(INNER, 1);
        due("land", x.chain(4, 0, 0, 99), BAD_HERE);
        due("case", x.chain(0, 1, 0, 99), BAD_HERE);
        due("kind", x.chain(0, 0, 3, 99), BAD_HERE);
    }

    static void promise15_ofOneLand() {
        LawRings x = new LawRings();
        x.newCase(0);
        x.rule(0, 0, WHOLE, THIS, 0);
        x.rule(1, 0, INNER, LAND + 3, 0);
        int[] end = { 10, 3, 2, 3 };
        for (int land = 0; land < 4; land++) {
            due("how many", x.chain(land, 0, 0, NONE), 1);
            due("the first", x.chain(land, 0, 0, 0), land);
            due("the second", x.chain(land, 0, 0, 1), TOO_FEW);
            due("how it ends", x.chain(land, 0, 0, CHAIN_END), end[land]);
        }
    }

    static void promise15_innerOfALandThatIsInItIsNotBack() {
        for (int y = 0; y < 4; y++) {
            LawRings x = line(INNER, y);
            due("how many", x.chain(0, 0, 0, NONE), 4);
            due("INNER of " + y, x.chain(0, 0, 0, CHAIN_END), y);
        }
    }

    static void promise15_backToALandOfIt() {
        for (int y = 0; y < 4; y++) {
            LawRings x = line(WHOLE, y);
            due("how many", x.chain(0, 0, 0, NONE), 4);
            due("back to " + y, x.chain(0, 0, 0, CHAIN_END), 10 + y);
        }
        LawRings x = line(WHOLE, 0);
        for (int land = 0; land < 4; land++) {
            due("a ring of four", x.chain(land, 0, 0, NONE), 4);
            due("the last of it", x.chain(land, 0, 0, 3), (land + 3) % 4);
            due("back to itself", x.chain(land, 0, 0, CHAIN_END), 10 + land);
        }
    }

    static void promise15_aRingBehindTheFirstLand() {
        LawRings x = sending(1, 2, 1, 0);
        due("a ring of two", x.chain(0, 0, 0, NONE), 3);
        due("back to 1", x.chain(0, 0, 0, CHAIN_END), 11);
        due("behind two lands", x.chain(3, 0, 0, NONE), 4);
        due("back to 1", x.chain(3, 0, 0, CHAIN_END), 11);
        x = sending(1, 1, NONE, NONE);
        due("WHOLE of itself", x.chain(0, 0, 0, NONE), 2);
        due("back to 1", x.chain(0, 0, 0, CHAIN_END), 11);
        due("the second", x.chain(0, 0, 0, 1), 1);
        due("no third", x.chain(0, 0, 0, 2), TOO_FEW);
    }

    static void promise15_whateverWaysAndTreatiesAre() {
        for (int v = NEVER; v <= AS_THE_OTHER; v++) {
            LawRings x = line(WHOLE, 1, v);
            x.tie(0, 0, 3, 0);
            x.treaty(0, 15, 0);
            due("how many", x.chain(0, 0, 0, NONE), 4);
            due("how it ends", x.chain(0, 0, 0, CHAIN_END), 11);
        }
    }

    // ---- 16, parts

    private static Edges parts() {
        return new Edges("parts", Worlds::some, (x, a) -> x.parts(a[0], a[1], a[2], a[3]), BAD, 1, 2, 0, 0);
    }

    static void promise16_theOneLandIs0To3() {
        parts().bounds(0, 0, 3);
    }

    static void promise16_theOtherLandIs0To3() {
        Edges other = new Edges("parts", Worlds::some, (x, a) -> x.parts(2, a[0], 0, 0), BAD, 0);
        other.bounds(0, 0, 3);
    }

    static void promise16_theCaseIsThere() {
        parts().bounds(2, 0, 2);
    }

    static void promise16_theKindIs0To2() {
        parts().bounds(3, 0, 2);
    }

    static void promise16_alikeIsBad() {
        LawRings x = line(WHOLE, 0);
        for (int land = 0; land < 4; land++) due("parts", x.parts(land, land, 0, 0), BAD);
        due("alike and no land", x.parts(4, 4, 0, 0), BAD);
    }

    static void promise16_none() {
        LawRings x = sending(2, 2, NONE, NONE);
        due("INNER alike", x.parts(0, 1, 0, 0), 0);
        due("turned", x.parts(1, 0, 0, 0), 0);
        due("a ring alike", sending(2, 2, 3, 2).parts(0, 1, 0, 0), 0);
        x = sending(NONE, NONE, NONE, NONE);
        x.rule(1, 0, INNER, LAND, 0);
        due("ends alike at once", x.parts(0, 1, 0, 0), 0);
    }

    static void promise16_theFirstLandsThemselvesDoNotCount() {
        LawRings x = sending(3, 3, 3, NONE);
        for (int a = 0; a < 3; a++) due("parts", x.parts(a, (a + 1) % 3, 0, 0), 0);
    }

    static void promise16_atTheFirst() {
        due("ends", sending(NONE, NONE, NONE, NONE).parts(0, 3, 0, 0), 1);
        due("lands", sending(2, 3, NONE, NONE).parts(0, 1, 0, 0), 1);
        due("a land beside an end", sending(2, NONE, NONE, NONE).parts(0, 1, 0, 0), 1);
        due("an end beside a land", sending(2, NONE, NONE, NONE).parts(1, 0, 0, 0), 1);
    }

    static void promise16_anEndIsUnlikeALandOfItsNumber() {
        LawRings x = sending(2, NONE, NONE, NONE);
        x.rule(1, 0, INNER, LAND + 2, 0);
        due("INNER of 2 beside LAND 2", x.parts(0, 1, 0, 0), 1);
        x = sending(0, NONE, NONE, NONE);
        x.rule(1, 0, INNER, LAND, 0);
        due("back to 0 beside INNER of 0", x.parts(0, 1, 0, 0), 1);
    }

    static void promise16_atTheSecond() {
        LawRings x = sending(2, 2, 0, NONE);
        due("2, back to 0 beside 2, 0", x.parts(0, 1, 0, 0), 2);
        due("turned", x.parts(1, 0, 0, 0), 2);
    }

    static void promise16_atTheThird() {
        LawRings x = sending(2, 2, 3, 0);
        due("2, 3, back to 0 beside 2, 3, 0", x.parts(0, 1, 0, 0), 3);
        due("turned", x.parts(1, 0, 0, 0), 3);
    }

    static void promise16_whateverWaysAndTreatiesAre() {
        for (int v = NEVER; v <= AS_THE_OTHER; v++) {
            LawRings x = sending(2, 2, 3, 0);
            for (int land = 0; land < 4; land++) x.way(land, v);
            x.tie(0, 0, 3, 0);
            x.treaty(0, 15, 0);
            due("parts", x.parts(0, 1, 0, 0), 3);
        }
    }

    static void promise16_ofThatCaseAndKind() {
        LawRings x = new LawRings();
        x.newCase(4);
        x.newCase(5);
        x.rule(0, 1, INNER, LAND + 1, 5);
        due("ahead of the day", x.parts(0, 1, 0, 1), 1);
        due("on the day", x.parts(0, 1, 1, 1), 0);
        due("another kind", x.parts(0, 1, 1, 0), 1);
    }
}
