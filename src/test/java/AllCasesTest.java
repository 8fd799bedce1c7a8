// Promises 17 to 22: looks at all cases of a day.
public final class AllCasesTest extends Sentences {
    public static void main(String[] args) {
        runAll(AllCasesTest.class, 17, 22);
    }

    /** All LANDS send WHOLE to the next, all the round, and do as the other would. */
    private static LawRings endlessRing() {
        LawRings x = new LawRings();
        for (int land = 0; land < 4; land++) {
            x.rule(land, 0, WHOLE, LAND + (land + 1) % 4, 0);
            x.way(land, AS_THE_OTHER);
        }
        return x;
    }

    /** LAND 1 ends in LAND 0, as LAND 0 does, but where all TIES are LAND 3: there in LAND 3. */
    private static LawRings unlikeInTheLastAlone() {
        LawRings x = new LawRings();
        endInAllButTheLast(x, 1, 0);
        x.rule(1, 0, INNER, LAND + 3, 0);
        return x;
    }

    private static void endInAllButTheLast(LawRings x, int land, int whose) {
        for (int t = 0; t < 6; t++) {
            for (int what : new int[] { UNTOLD, IS_LAND, IS_LAND + 1, IS_LAND + 2 }) {
                x.test(x.rule(land, 0, INNER, LAND + whose, 0), t, what);
            }
        }
    }

    private static void endInAllButTheFirst(LawRings x, int land, int whose) {
        for (int t = 0; t < 6; t++) x.test(x.rule(land, 0, INNER, LAND + whose, 0), t, TOLD);
    }

    /** LAND 1 ends in LAND 0, as LAND 0 does, but where no TIE is told: there in itself. */
    private static LawRings unlikeInTheFirstAlone() {
        LawRings x = new LawRings();
        endInAllButTheFirst(x, 1, 0);
        return x;
    }

    // ---- 17, endsIn

    private static Edges endsIn() {
        return new Edges("endsIn", Worlds::some, (x, a) -> x.endsIn(a[0], a[1], a[2], a[3]), BAD, 0, 0, 0, 0);
    }

    static void promise17_theLandIs0To3() {
        endsIn().bounds(0, 0, 3);
    }

    static void promise17_theKindIs0To2() {
        endsIn().bounds(1, 0, 2);
    }

    static void promise17_theDayIs0To999() {
        endsIn().bounds(2, 0, 999);
    }

    static void promise17_theNumberIs0To15624() {
        endsIn().bounds(3, 0, 15624);
    }

    static void promise17_noneIs0AndLandsAreOneMore() {
        for (int t = 0; t < 6; t++) {
            LawRings x = new LawRings();
            x.rule(0, 0, INNER, OF_TIE + t, 0);
            due("tie " + t + " none", x.endsIn(0, 0, 0, ALL - 1 - 4 * power5(t)), 0);
            for (int land = 0; land < 4; land++) {
                due("tie " + t + " alone", x.endsIn(0, 0, 0, (1 + land) * power5(t)), land);
                due("tie " + t + " beside others", x.endsIn(0, 0, 0, ALL - 1 - (3 - land) * power5(t)), land);
            }
        }
    }

    static void promise17_theFirstAndTheLast() {
        LawRings x = new LawRings();
        for (int t = 0; t < 6; t++) x.rule(2, 0, INNER, OF_TIE + t, 0);
        due("the first: none told", x.endsIn(2, 0, 0, 0), 2);
        due("the last: LAND 3 in all", x.endsIn(2, 0, 0, ALL - 1), 3);
        due("the one ahead of the last", x.endsIn(2, 0, 0, ALL - 2), 2);
        for (int t = 1; t < 6; t++) x.strike(t, 0);
        due("tie 0's is the lowest", x.endsIn(2, 0, 0, number(1, 3, 3, 3, 3, 3)), 1);
    }

    static void promise17_everyNumber() {
        LawRings[] x = new LawRings[ALL / 500 + 1];
        for (int i = 0; i < x.length; i++) {
            x[i] = new LawRings();
            for (int t = 5; t >= 0; t--) x[i].rule(3, 0, INNER, OF_TIE + t, 0);
        }
        for (int i = 0; i < ALL; i++) {
            int want = 3;
            for (int t = 0; t < 6; t++) {
                if (i / power5(t) % 5 != 0) want = i / power5(t) % 5 - 1;
            }
            due("number " + i, x[i / 500].endsIn(3, 0, 0, i), want);
        }
    }

    static void promise17_ofADay() {
        LawRings x = new LawRings();
        x.rule(0, 0, INNER, LAND + 3, 500);
        x.strike(0, 600);
        x.rule(1, 0, INNER, LAND + 3, 0);
        x.strike(1, 999);
        x.rule(2, 0, INNER, LAND + 3, 999);
        due("the day ahead", x.endsIn(0, 0, 499, 0), 0);
        due("its day", x.endsIn(0, 0, 500, 0), 3);
        due("the last day", x.endsIn(0, 0, 599, 0), 3);
        due("struck", x.endsIn(0, 0, 600, 0), 0);
        due("day 0", x.endsIn(1, 0, 0, 0), 3);
        due("day 998", x.endsIn(1, 0, 998, 0), 3);
        due("day 999", x.endsIn(1, 0, 999, 0), 1);
        due("from day 999 on", x.endsIn(2, 0, 999, 0), 3);
        due("ahead of day 999", x.endsIn(2, 0, 998, 0), 2);
    }

    static void promise17_endlessAndTreaties() {
        LawRings x = endlessRing();
        due("ENDLESS", x.endsIn(0, 0, 0, 0), ENDLESS);
        x.treaty(0, 15, 5);
        due("no tie told", x.endsIn(0, 0, 0, power5(5) - 1), ENDLESS);
        due("by a treaty", x.endsIn(0, 0, 0, power5(5)), 0);
        due("by a treaty", x.endsIn(0, 0, 0, 4 * power5(5)), 3);
    }

    static void promise17_whateverTheCasesThereAre() {
        LawRings x = new LawRings();
        x.rule(0, 0, INNER, OF_TIE, 0);
        x.newCase(0);
        x.tie(0, 0, 3, 0);
        due("ends", x.ends(0, 0, 0), 3);
        due("none told", x.endsIn(0, 0, 0, 0), 0);
        due("the case is as it was", x.ends(0, 0, 0), 3);
    }

    // ---- 18, unlike

    private static Edges unlike() {
        return new Edges("unlike", Worlds::some, (x, a) -> x.unlike(a[0], a[1], a[2], a[3]), BAD, 1, 2, 0, 0);
    }

    static void promise18_theOneLandIs0To3() {
        unlike().bounds(0, 0, 3);
    }

    static void promise18_theOtherLandIs0To3() {
        new Edges("unlike", Worlds::some, (x, a) -> x.unlike(2, a[0], 0, 0), BAD, 0).bounds(0, 0, 3);
    }

    static void promise18_theKindIs0To2() {
        unlike().bounds(2, 0, 2);
    }

    static void promise18_theDayIs0To999() {
        unlike().bounds(3, 0, 999);
    }

    static void promise18_alikeIsBad() {
        for (int land = 0; land < 4; land++) due("unlike", new LawRings().unlike(land, land, 0, 0), BAD);
    }

    static void promise18_inAllAndInNone() {
        LawRings x = new LawRings();
        due("in all", x.unlike(0, 1, 0, 0), ALL);
        x.rule(0, 0, INNER, LAND + 1, 0);
        due("in none", x.unlike(0, 1, 0, 0), 0);
        due("turned", x.unlike(1, 0, 0, 0), 0);
        due("another kind", x.unlike(0, 1, 1, 0), ALL);
    }

    static void promise18_inOneAlone() {
        due("in the last", unlikeInTheLastAlone().unlike(0, 1, 0, 0), 1);
        due("in the last, turned", unlikeInTheLastAlone().unlike(1, 0, 0, 0), 1);
        due("in the first", unlikeInTheFirstAlone().unlike(0, 1, 0, 0), 1);
    }

    static void promise18_endlessIsAnEnd() {
        LawRings x = endlessRing();
        due("both ENDLESS", x.unlike(0, 1, 0, 0), 0);
        x.treaty(0, 3, 0);
        // By TIE 0 to LAND 0 or 1 all of the ring end there, for the last of them asks one who has the treaty.
        due("a treaty for both", x.unlike(0, 1, 0, 0), 0);
        x = endlessRing();
        x.rule(3, 1, WHOLE, THIS, 0);
        x.sort(3, 0, 1);
        x.rule(2, 2, WHOLE, LAND + 1, 0);
        x.sort(2, 0, 2);
        due("one ENDLESS, one not", x.unlike(2, 3, 0, 0), ALL);
    }

    static void promise18_aPartOfThem() {
        LawRings x = new LawRings();
        x.rule(0, 0, INNER, OF_TIE + 3, 0);
        due("where tie 3 is not land 1", x.unlike(0, 1, 0, 0), ALL / 5 * 4);
        x.rule(1, 0, INNER, OF_TIE + 4, 0);
        // Both told: unlike in 12 of 16; one told: unlike in 3 of 4; none told: unlike.
        due("two ties", x.unlike(0, 1, 0, 0), ALL / 25 * (12 + 3 + 3 + 1));
    }

    static void promise18_ofThatDay() {
        LawRings x = new LawRings();
        x.rule(0, 0, INNER, LAND + 1, 7);
        x.strike(0, 9);
        int[] days = { 0, 6, 7, 8, 9, 999 };
        int[] want = { ALL, ALL, 0, 0, ALL, ALL };
        for (int i = 0; i < 6; i++) due("day " + days[i], x.unlike(0, 1, 0, days[i]), want[i]);
    }

    // ---- 19, least

    private static Edges least() {
        return new Edges("least", Worlds::some, (x, a) -> x.least(a[0], a[1], a[2], a[3]), BAD, 1, 2, 0, 0);
    }

    static void promise19_theOneLandIs0To3() {
        least().bounds(0, 0, 3);
    }

    static void promise19_theOtherLandIs0To3() {
        new Edges("least", Worlds::some, (x, a) -> x.least(2, a[0], 0, 0), BAD, 0).bounds(0, 0, 3);
    }

    static void promise19_theKindIs0To2() {
        least().bounds(2, 0, 2);
    }

    static void promise19_theDayIs0To999() {
        least().bounds(3, 0, 999);
    }

    static void promise19_alikeIsBad() {
        for (int land = 0; land < 4; land++) due("least", new LawRings().least(land, land, 0, 0), BAD);
    }

    static void promise19_theFirstAndTheLast() {
        due("the first", unlikeInTheFirstAlone().least(0, 1, 0, 0), 0);
        due("the last", unlikeInTheLastAlone().least(0, 1, 0, 0), ALL - 1);
        due("the last, turned", unlikeInTheLastAlone().least(1, 0, 0, 0), ALL - 1);
    }

    static void promise19_noneIsNone() {
        LawRings x = new LawRings();
        x.rule(0, 0, INNER, LAND + 1, 7);
        due("the day ahead", x.least(0, 1, 0, 6), 0);
        due("its day", x.least(0, 1, 0, 7), NONE);
        due("another kind", x.least(0, 1, 2, 7), 0);
        due("both ENDLESS", endlessRing().least(0, 3, 0, 0), NONE);
    }

    static void promise19_fewestTiesToldAheadOfTheLeastNumber() {
        LawRings x = new LawRings();
        x.rule(0, 1, INNER, LAND, 0);
        int two = x.rule(1, 0, INNER, LAND + 1, 0);
        x.test(two, 0, IS_LAND);
        x.test(two, 1, IS_LAND);
        int end = x.rule(1, 1, INNER, LAND, 0);
        x.sort(1, 2, 1);
        int one = x.rule(1, 0, INNER, LAND + 1, 0);
        x.test(one, 5, IS_LAND + 3);
        x.rule(1, 0, INNER, LAND, 0);
        due("one tie, though the number is greater", x.least(0, 1, 0, 0), 4 * power5(5));
        x.strike(one, 1);
        due("two ties", x.least(0, 1, 0, 1), number(0, 0));
        due("by rule " + end + " alike", x.least(0, 1, 2, 0), NONE);
    }

    static void promise19_ofLikeOnesTheLeastNumber() {
        LawRings x = new LawRings();
        for (int t : new int[] { 4, 2, 3 }) x.test(x.rule(1, 0, INNER, LAND + 1, 0), t, ELSEWHERE);
        x.rule(1, 0, INNER, LAND, 0);
        due("tie 2 to land 0", x.least(0, 1, 0, 0), power5(2));
        x.strike(1, 1);
        due("tie 3 to land 0", x.least(0, 1, 0, 1), power5(3));
    }

    static void promise19_allSixTies() {
        LawRings x = new LawRings();
        for (int t = 0; t < 6; t++) x.test(x.rule(1, 0, INNER, LAND, 0), t, UNTOLD);
        x.rule(1, 0, INNER, LAND + 2, 0);
        due("LAND 0 in all", x.least(0, 1, 0, 0), number(0, 0, 0, 0, 0, 0));
    }

    // ---- 20, reached

    private static Edges reached() {
        return new Edges("reached", Worlds::some, (x, a) -> x.reached(a[0], a[1], a[2]), BAD, 0, 0, 0);
    }

    static void promise20_theLandIs0To3() {
        reached().bounds(0, 0, 3);
    }

    static void promise20_theKindIs0To2() {
        reached().bounds(1, 0, 2);
    }

    static void promise20_theDayIs0To999() {
        reached().bounds(2, 0, 999);
    }

    static void promise20_itselfAlone() {
        LawRings x = new LawRings();
        for (int land = 0; land < 4; land++) due("reached", x.reached(land, 0, 0), 1 << land);
    }

    static void promise20_endlessAloneIsBit4() {
        LawRings x = endlessRing();
        for (int land = 0; land < 4; land++) due("reached", x.reached(land, 0, 0), 16);
    }

    static void promise20_allLandsAndEndless() {
        LawRings x = new LawRings();
        x.rule(0, 0, INNER, OF_TIE + 5, 0);
        x.rule(0, 0, WHOLE, LAND + 1, 0);
        x.rule(1, 0, WHOLE, LAND, 0);
        x.way(0, AS_THE_OTHER);
        x.way(1, AS_THE_OTHER);
        due("reached", x.reached(0, 0, 0), 31);
        due("as the other", x.reached(1, 0, 0), 31);
        x.strike(0, 5);
        due("ENDLESS from a day on", x.reached(0, 0, 5), 16);
        due("the day ahead", x.reached(0, 0, 4), 31);
    }

    static void promise20_inTheFirstOrTheLastAlone() {
        due("the first", unlikeInTheFirstAlone().reached(1, 0, 0), 1 | 2);
        due("the last", unlikeInTheLastAlone().reached(1, 0, 0), 1 | 8);
    }

    static void promise20_ofThatKind() {
        LawRings x = new LawRings();
        x.rule(2, 1, INNER, OF_TIE, 0);
        due("kind 0", x.reached(2, 0, 0), 4);
        due("kind 1", x.reached(2, 1, 0), 15);
        x.sort(2, 2, 1);
        due("kind 2 sorted as 1", x.reached(2, 2, 0), 15);
    }

    // ---- 21, same

    private static Edges same() {
        return new Edges("same", Worlds::some, (x, a) -> x.same(a[0], a[1]), BAD, 0, 0);
    }

    static void promise21_theKindIs0To2() {
        same().bounds(0, 0, 2);
    }

    static void promise21_theDayIs0To999() {
        same().bounds(1, 0, 999);
    }

    static void promise21_inNoneAndInAll() {
        LawRings x = new LawRings();
        due("in none", x.same(0, 0), 0);
        for (int land = 0; land < 4; land++) {
            due("in none yet", x.same(1, 0), 0);
            x.rule(land, 1, INNER, LAND + 2, 0);
        }
        due("in all", x.same(1, 0), ALL);
        due("another kind", x.same(0, 0), 0);
    }

    static void promise21_allEndlessIsAlike() {
        due("same", endlessRing().same(0, 0), ALL);
    }

    static void promise21_eachLandCounts() {
        for (int other = 0; other < 4; other++) {
            LawRings x = new LawRings();
            for (int land = 0; land < 4; land++) x.rule(land, 0, INNER, land == other ? LAND + 1 : LAND + 2, 0);
            due("all but land " + other, x.same(0, 0), 0);
        }
    }

    static void promise21_inOneAlone() {
        LawRings x = new LawRings();
        endInAllButTheLast(x, 3, 1);
        for (int land = 0; land < 4; land++) x.rule(land, 0, INNER, LAND, 0);
        due("the last", x.same(0, 0), 1);
        x = new LawRings();
        endInAllButTheFirst(x, 0, 1);
        for (int land = 0; land < 4; land++) x.rule(land, 0, INNER, LAND, 0);
        due("the first", x.same(0, 0), 1);
    }

    static void promise21_aPartOfThemOnThatDay() {
        LawRings x = new LawRings();
        for (int land = 0; land < 4; land++) x.rule(land, 0, INNER, OF_TIE, 3);
        x.strike(2, 5);
        due("the day ahead", x.same(0, 2), 0);
        due("where tie 0 is told", x.same(0, 3), ALL / 5 * 4);
        due("one struck: where it is land 2", x.same(0, 5), ALL / 5);
    }

    static void promise21_withTreaties() {
        LawRings x = new LawRings();
        x.treaty(0, 15, 2);
        due("where tie 2 is told", x.same(0, 0), ALL / 5 * 4);
        due("another kind", x.same(1, 0), 0);
    }

    // ---- 22, dead

    private static Edges dead() {
        return new Edges("dead", Worlds::some, (x, a) -> x.dead(a[0], a[1]), BAD, 0, 0);
    }

    static void promise22_theLandIs0To3() {
        dead().bounds(0, 0, 3);
    }

    static void promise22_theDayIs0To999() {
        dead().bounds(1, 0, 999);
    }

    static void promise22_noRules() {
        LawRings x = new LawRings();
        x.rule(1, 0, INNER, LAND, 0);
        x.rule(1, 0, INNER, LAND, 0);
        due("of land 0", x.dead(0, 0), 0);
        due("of land 1", x.dead(1, 0), 2);
        due("of land 3", x.dead(3, 0), 0);
    }

    static void promise22_thatNeverHolds() {
        int[][] never = { { 0, TOLD, 0, UNTOLD }, { 1, HERE, 1, ELSEWHERE }, { 2, IS_LAND, 2, IS_LAND + 1 },
            { 3, AS_TIE + 4, 4, UNTOLD }, { 5, UNTOLD, 5, AS_TIE + 5 } };
        for (int[] n : never) {
            LawRings x = new LawRings();
            x.rule(0, 0, INNER, THIS, 0);
            x.test(0, n[0], n[1]);
            due("one test", x.dead(0, 0), 0);
            x.test(0, n[2], n[3]);
            due("two tests", x.dead(0, 0), 1);
        }
        LawRings x = new LawRings();
        x.rule(0, 0, INNER, OF_TIE + 5, 0);
        x.test(0, 5, UNTOLD);
        due("of a tie that is not told", x.dead(0, 0), 1);
    }

    static void promise22_onlyBehindOthers() {
        LawRings x = new LawRings();
        x.rule(0, 0, INNER, OF_TIE, 0);
        x.rule(0, 0, INNER, OF_TIE + 1, 0);
        int behind = x.rule(0, 0, INNER, LAND + 1, 0);
        x.test(behind, 1, AS_TIE + 1);
        due("behind another that holds where it does", x.dead(0, 0), 4);
        x.rule(0, 0, INNER, LAND + 1, 0);
        due("the rest", x.dead(0, 0), 4);
        x.rule(0, 0, INNER, LAND + 2, 0);
        due("behind one that always holds", x.dead(0, 0), 4 | 16);
    }

    static void promise22_livingInTheFirstOrTheLastAlone() {
        LawRings x = unlikeInTheLastAlone();
        due("the last", x.dead(1, 0), 0);
        x = new LawRings();
        endInAllButTheFirst(x, 2, 0);
        x.rule(2, 0, INNER, LAND, 0);
        due("the first", x.dead(2, 0), 0);
        x.rule(2, 0, INNER, LAND, 0);
        due("behind all", x.dead(2, 0), 1 << 7);
    }

    static void promise22_underAnyKindByWhichItSorts() {
        LawRings x = new LawRings();
        for (int kind = 0; kind < 3; kind++) x.rule(0, kind, INNER, THIS, 0);
        due("each kind its own", x.dead(0, 0), 0);
        x.sort(0, 1, 0);
        due("none sorted as 1", x.dead(0, 0), 2);
        x.sort(0, 2, 1);
        due("2 sorted as 1, none as 2", x.dead(0, 0), 4);
        x.sort(0, 0, 1);
        x.sort(0, 1, 1);
        due("all sorted as 1", x.dead(0, 0), 1 | 4);
        due("another land sorts for itself", x.dead(1, 0), 0);
    }

    static void promise22_placesAmongThoseThatStandOnThatDay() {
        LawRings x = new LawRings();
        x.rule(0, 0, INNER, LAND, 5);
        x.rule(1, 0, INNER, LAND, 0);
        x.rule(0, 0, INNER, LAND + 1, 0);
        x.rule(0, 0, INNER, LAND + 2, 0);
        due("the first does not stand yet", x.dead(0, 4), 2);
        due("all stand", x.dead(0, 5), 2 | 4);
        x.strike(2, 7);
        due("the day ahead of the strike", x.dead(0, 6), 2 | 4);
        due("the struck one has no place", x.dead(0, 7), 2);
        x.strike(0, 8);
        due("one is left", x.dead(0, 8), 0);
        x.strike(3, 999);
        due("none is left", x.dead(0, 999), 0);
    }

    private static LawRings alwaysHolding(int many) {
        LawRings x = new LawRings();
        for (int i = 0; i < many; i++) x.rule(3, 0, INNER, LAND, 0);
        return x;
    }

    static void promise22_theFirst30() {
        due("29", alwaysHolding(29).dead(3, 0), (1 << 29) - 2);
        due("30", alwaysHolding(30).dead(3, 0), (1 << 30) - 2);
        due("31", alwaysHolding(31).dead(3, 0), (1 << 30) - 2);
        due("32", alwaysHolding(32).dead(3, 0), (1 << 30) - 2);
        due("33", alwaysHolding(33).dead(3, 0), (1 << 30) - 2);
        due("60", alwaysHolding(60).dead(3, 0), (1 << 30) - 2);
        LawRings x = alwaysHolding(60);
        x.test(0, 0, TOLD);
        x.test(0, 0, UNTOLD);
        due("60, the first never holds", x.dead(3, 0), (1 << 30) - 1 - 2);
    }

    static void promise22_oneBehind30LivingOnes() {
        LawRings x = new LawRings();
        for (int i = 0; i < 30; i++) x.test(x.rule(0, i / 24, INNER, LAND, 0), i % 6, IS_LAND + i % 24 / 6);
        due("30 living", x.dead(0, 0), 0);
        int never = x.rule(0, 0, INNER, LAND, 0);
        x.test(never, 0, TOLD);
        x.test(never, 0, UNTOLD);
        due("the 31st is dead", x.dead(0, 0), 0);
        x.strike(0, 1);
        due("the 30th is dead", x.dead(0, 1), 1 << 29);
    }

    static void promise22_theFirst30AreOfThoseThatStand() {
        LawRings x = new LawRings();
        for (int i = 0; i < 29; i++) x.rule(0, 0, INNER, LAND, 1);
        for (int i = 0; i < 2; i++) x.rule(0, 0, INNER, LAND, 0);
        due("two stand", x.dead(0, 0), 2);
        due("31 stand", x.dead(0, 1), (1 << 30) - 2);
    }
}
