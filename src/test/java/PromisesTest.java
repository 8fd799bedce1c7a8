// One method for each promise: ordinary inputs, the edges that the document names, wrong inputs.
public final class PromisesTest {
    private static final int NONE = -1, BAD = -2, NO = -3, FULL = -4, ENDLESS = -5;
    private static final int INNER = 0, WHOLE = 1;
    private static final int NEVER = 0, ONCE = 1, TO_THE_END = 2, AS_THE_OTHER = 3;
    private static final int ALL = 15625;
    private static final int[] WRONG = { -1, -2, -3, Integer.MIN_VALUE, Integer.MAX_VALUE };

    private static int wrong = 0;

    private static void due(String what, long got, long want) {
        if (got == want) return;
        wrong++;
        System.out.println(what + " answered " + got + ", due is " + want);
    }

    public static void main(String[] args) {
        promise1();
        promise2();
        promise3();
        promise4();
        promise5();
        promise6();
        promise7();
        promise8();
        promise9();
        promise10();
        promise11();
        promise12();
        promise13();
        promise14();
        promise14Waiting();
        promise14Treaties();
        promise15();
        promise16();
        promise17();
        promise18();
        promise19();
        promise20();
        promise21();
        promise22();
        promise22Places();
        promise23();
        promise24();
        promise25();
        promise26();
        promise27();
        promise27Order();
        promise28();
        promise29();
        refusedCallsChangeNothing();
        System.out.println(wrong == 0 ? "all promises are kept" : wrong + " answers are not as due");
        if (wrong != 0) System.exit(1);
    }

    private static void promise1() {
        LawRings x = new LawRings();
        for (int what = 0; what < 5; what++) due("1 count " + what, x.count(what), 0);
        for (int land = 0; land < 4; land++) {
            due("1 way", x.way(land, 0), NEVER);
            for (int kind = 0; kind < 3; kind++) due("1 sort", x.sort(land, kind, kind), kind);
            due("1 endsIn", x.endsIn(land, 0, 0, 7777), land);
        }
        due("1 constants", LawRings.NONE, -1);
        due("1 constants", LawRings.BAD, -2);
        due("1 constants", LawRings.NO, -3);
        due("1 constants", LawRings.FULL, -4);
        due("1 constants", LawRings.ENDLESS, -5);
    }

    private static void promise2() {
        LawRings x = new LawRings();
        for (int bad : WRONG) due("2 BAD", x.newCase(bad), BAD);
        due("2 BAD", x.newCase(1000), BAD);
        due("2", x.newCase(0), 0);
        due("2", x.newCase(999), 1);
        for (int i = 2; i < 16; i++) due("2", x.newCase(i), i);
        due("2 FULL", x.newCase(5), FULL);
        due("2 BAD ahead of FULL", x.newCase(1000), BAD);
        due("2 count", x.count(0), 16);
    }

    private static void promise3() {
        LawRings x = new LawRings();
        due("3 BAD without a case", x.tie(0, 0, 0, 0), BAD);
        x.newCase(10);
        for (int bad : WRONG) {
            due("3 BAD case", x.tie(bad, 0, 0, 0), BAD);
            due("3 BAD tie", x.tie(0, bad, 0, 0), BAD);
            due("3 BAD from", x.tie(0, 0, 0, bad), BAD);
            if (bad != NONE) due("3 BAD land", x.tie(0, 0, bad, 0), BAD);
        }
        due("3 BAD", x.tie(1, 0, 0, 0), BAD);
        due("3 BAD", x.tie(0, 6, 0, 0), BAD);
        due("3 BAD", x.tie(0, 0, 4, 0), BAD);
        due("3 BAD", x.tie(0, 0, 0, 1000), BAD);
        due("3", x.tie(0, 5, 3, 999), 1);
        due("3 none", x.tie(0, 5, NONE, 0), 2);
        x.newCase(11);
        for (int i = 3; i <= 60; i++) due("3", x.tie(i % 2, i % 6, i % 4, i), i);
        due("3 FULL", x.tie(0, 0, 0, 0), FULL);
        due("3 BAD ahead of FULL", x.tie(0, 0, 4, 0), BAD);
        due("3 count", x.count(1), 60);
    }

    private static void promise4() {
        LawRings x = new LawRings();
        due("4 BAD without a case", x.which(0, 0), -10);
        x.newCase(10);
        due("4 none at first", x.which(0, 0), NONE);
        x.tie(0, 0, 1, 11);
        due("4 behind the day", x.which(0, 0), NONE);
        x.tie(0, 0, 2, 10);
        due("4 on the day", x.which(0, 0), 2);
        x.tie(0, 0, 3, 9);
        due("4 an older one", x.which(0, 0), 2);
        x.tie(0, 0, 0, 10);
        due("4 of like ones the last", x.which(0, 0), 0);
        x.tie(0, 0, NONE, 10);
        due("4 told as none", x.which(0, 0), NONE);
        due("4 another tie", x.which(0, 1), NONE);
        x.newCase(10);
        x.tie(1, 0, 3, 0);
        due("4 another case", x.which(1, 0), 3);
        due("4 the first case", x.which(0, 0), NONE);
        for (int bad : WRONG) {
            due("4 BAD case", x.which(bad, 0), -10);
            due("4 BAD tie", x.which(0, bad), -10);
        }
        due("4 BAD", x.which(2, 0), -10);
        due("4 BAD", x.which(0, 6), -10);
    }

    private static void promise5() {
        LawRings x = new LawRings();
        for (int bad : WRONG) {
            due("5 BAD land", x.rule(bad, 0, 0, 0, 0), BAD);
            due("5 BAD kind", x.rule(0, bad, 0, 0, 0), BAD);
            due("5 BAD end", x.rule(0, 0, bad, 0, 0), BAD);
            due("5 BAD whom", x.rule(0, 0, 0, bad, 0), BAD);
            due("5 BAD from", x.rule(0, 0, 0, 0, bad), BAD);
        }
        due("5 BAD", x.rule(4, 0, 0, 0, 0), BAD);
        due("5 BAD", x.rule(0, 3, 0, 0, 0), BAD);
        due("5 BAD", x.rule(0, 0, 2, 0, 0), BAD);
        due("5 BAD", x.rule(0, 0, 0, 11, 0), BAD);
        due("5 BAD", x.rule(0, 0, 0, 0, 1000), BAD);
        for (int i = 0; i < 60; i++) due("5", x.rule(i % 4, i % 3, i % 2, i % 11, i * 16), i);
        due("5 FULL", x.rule(0, 0, 0, 0, 0), FULL);
        due("5 BAD ahead of FULL", x.rule(0, 0, 0, 11, 0), BAD);
        due("5 count", x.count(2), 60);
        // The sixtieth is a rule as any other: of land 3, kind 2, WHOLE of land 3 (whom 4).
        x.newCase(999);
        due("5 the last", x.holds(59, 0), 1);
    }

    private static void promise6() {
        LawRings x = new LawRings();
        due("6 BAD without a rule", x.test(0, 0, 0), BAD);
        x.rule(0, 0, INNER, 2, 0);
        for (int bad : WRONG) {
            due("6 BAD rule", x.test(bad, 0, 0), BAD);
            due("6 BAD tie", x.test(0, bad, 0), BAD);
            due("6 BAD what", x.test(0, 0, bad), BAD);
        }
        due("6 BAD", x.test(1, 0, 0), BAD);
        due("6 BAD", x.test(0, 6, 0), BAD);
        due("6 BAD", x.test(0, 0, 14), BAD);
        due("6", x.test(0, 0, 0), 1);
        due("6", x.test(0, 5, 13), 2);
        due("6 FULL", x.test(0, 0, 0), FULL);
        due("6 BAD ahead of FULL", x.test(0, 0, 14), BAD);
        x.rule(0, 0, INNER, 2, 0);
        due("6 another rule", x.test(1, 3, 7), 1);
    }

    private static void promise7() {
        LawRings x = new LawRings();
        due("7 BAD without a rule", x.strike(0, 0), BAD);
        x.rule(0, 0, INNER, 2, 5);
        for (int bad : WRONG) {
            due("7 BAD rule", x.strike(bad, 0), BAD);
            due("7 BAD day", x.strike(0, bad), BAD);
        }
        due("7 BAD", x.strike(1, 0), BAD);
        due("7 BAD", x.strike(0, 1000), BAD);
        for (int day = 4; day <= 8; day++) x.newCase(day);
        due("7", x.strike(0, 7), 1);
        due("7 NO", x.strike(0, 7), NO);
        due("7 NO", x.strike(0, 0), NO);
        due("7 BAD ahead of NO", x.strike(0, 1000), BAD);
        int[] stands = { 0, 1, 1, 0, 0 };
        for (int i = 0; i < 5; i++) due("7 stands on day " + (4 + i), x.holds(0, i), stands[i]);
        x.rule(1, 0, INNER, 2, 5);
        due("7 ahead of its day", x.strike(1, 3), 1);
        for (int i = 0; i < 5; i++) due("7 never stands", x.holds(1, i), 0);
        x.rule(1, 0, INNER, 2, 0);
        due("7 from day 0 on", x.strike(2, 0), 1);
        due("7 NO from day 0 on", x.strike(2, 1), NO);
    }

    private static void promise8() {
        LawRings x = new LawRings();
        for (int bad : WRONG) {
            due("8 BAD land", x.sort(bad, 0, 0), BAD);
            due("8 BAD kind", x.sort(0, bad, 0), BAD);
            due("8 BAD as", x.sort(0, 0, bad), BAD);
        }
        due("8 BAD", x.sort(4, 0, 0), BAD);
        due("8 BAD", x.sort(0, 3, 0), BAD);
        due("8 BAD", x.sort(0, 0, 3), BAD);
        x.newCase(0);
        x.rule(1, 2, INNER, 4, 0);
        due("8 not yet", x.said(1, 0, 0), 1);
        due("8 was", x.sort(1, 0, 2), 0);
        due("8 sorted", x.said(1, 0, 0), 3);
        due("8 other lands", x.said(2, 0, 0), 2);
        due("8 was", x.sort(1, 0, 1), 2);
        due("8 was", x.sort(1, 0, 1), 1);
        due("8 its own kind", x.said(1, 0, 2), 3);
        due("8 was", x.sort(1, 2, 0), 2);
        due("8 away from its own kind", x.said(1, 0, 2), 1);
    }

    private static void promise9() {
        LawRings x = new LawRings();
        for (int bad : WRONG) {
            due("9 BAD land", x.way(bad, 0), BAD);
            due("9 BAD way", x.way(0, bad), BAD);
        }
        due("9 BAD", x.way(4, 0), BAD);
        due("9 BAD", x.way(0, 4), BAD);
        for (int land = 0; land < 4; land++) {
            due("9 at first", x.way(land, AS_THE_OTHER), NEVER);
            due("9 was", x.way(land, ONCE), AS_THE_OTHER);
            due("9 was", x.way(land, TO_THE_END), ONCE);
            due("9 was", x.way(land, NEVER), TO_THE_END);
        }
    }

    private static void promise10() {
        LawRings x = new LawRings();
        for (int bad : WRONG) {
            due("10 BAD kind", x.treaty(bad, 1, 0), BAD);
            due("10 BAD lands", x.treaty(0, bad, 0), BAD);
            due("10 BAD tie", x.treaty(0, 1, bad), BAD);
        }
        due("10 BAD", x.treaty(3, 1, 0), BAD);
        due("10 BAD", x.treaty(0, 16, 0), BAD);
        due("10 BAD", x.treaty(0, 1, 6), BAD);
        for (int i = 0; i < 8; i++) due("10", x.treaty(i % 3, 15 - i, i % 6), i);
        due("10 FULL", x.treaty(0, 1, 0), FULL);
        due("10 BAD ahead of FULL", x.treaty(0, 16, 0), BAD);
        due("10 count", x.count(3), 8);
    }

    private static void promise11() {
        LawRings x = new LawRings();
        due("11 BAD", x.holds(0, 0), BAD);
        x.newCase(10);
        due("11 BAD", x.holds(0, 0), BAD);
        x.tie(0, 0, 1, 0);
        x.tie(0, 1, 1, 0);
        x.tie(0, 2, 3, 0);
        // Ties 0 and 1 are land 1, tie 2 is land 3, ties 3 to 5 are none; the rules are land 1's.
        int[] ofTie0 = { 1, 0, 1, 0, 0, 1, 0, 0, 1, 1, 0, 0, 0, 0 };
        int[] ofTie2 = { 1, 0, 0, 1, 0, 0, 0, 1, 0, 0, 1, 0, 0, 0 };
        int[] ofTie3 = { 0, 1, 0, 0, 0, 0, 0, 0, 0, 0, 0, 0, 0, 0 };
        for (int what = 0; what < 14; what++) {
            int rule = x.rule(1, what % 3, what % 2, 0, 0);
            x.test(rule, 0, what);
            due("11 tie 0 " + what, x.holds(rule, 0), ofTie0[what]);
            rule = x.rule(1, what % 3, what % 2, 0, 0);
            x.test(rule, 2, what);
            due("11 tie 2 " + what, x.holds(rule, 0), ofTie2[what]);
            rule = x.rule(1, what % 3, what % 2, 0, 0);
            x.test(rule, 3, what);
            due("11 tie 3 " + what, x.holds(rule, 0), ofTie3[what]);
        }
        int both = x.rule(0, 0, INNER, 0, 0);
        x.test(both, 0, 0);
        due("11 one test", x.holds(both, 0), 1);
        x.test(both, 3, 0);
        due("11 all its tests", x.holds(both, 0), 0);
        int[] ofWhom = { 1, 1, 1, 1, 1, 1, 1, 1, 0, 0, 0 };
        for (int whom = 0; whom < 11; whom++) {
            int rule = x.rule(2, 0, INNER, whom, 0);
            due("11 whom " + whom, x.holds(rule, 0), ofWhom[whom]);
        }
        int late = x.rule(0, 0, INNER, 0, 11);
        due("11 not yet", x.holds(late, 0), 0);
        for (int bad : WRONG) {
            due("11 BAD rule", x.holds(bad, 0), BAD);
            due("11 BAD case", x.holds(0, bad), BAD);
        }
        due("11 BAD", x.holds(late + 1, 0), BAD);
        due("11 BAD", x.holds(0, 1), BAD);
    }

    private static void promise12() {
        LawRings x = new LawRings();
        due("12 BAD", x.says(0, 0, 0), -10);
        x.newCase(10);
        due("12 by none", x.says(0, 0, 0), NONE);
        x.rule(1, 0, INNER, 2, 0);
        x.rule(0, 1, INNER, 2, 0);
        due("12 other books", x.says(0, 0, 0), NONE);
        x.rule(0, 0, INNER, 5, 0);
        x.rule(0, 0, INNER, 3, 11);
        x.rule(0, 0, INNER, 4, 0);
        x.rule(0, 0, INNER, 1, 0);
        due("12 the first that holds", x.says(0, 0, 0), 4);
        x.tie(0, 0, 3, 0);
        due("12 the first that holds", x.says(0, 0, 0), 2);
        x.sort(0, 0, 1);
        due("12 under its own kind", x.says(0, 0, 0), 1);
        x.sort(0, 0, 2);
        due("12 an empty book", x.says(0, 0, 0), NONE);
        x.strike(0, 10);
        due("12 struck", x.says(1, 0, 0), NONE);
        for (int bad : WRONG) {
            due("12 BAD land", x.says(bad, 0, 0), -10);
            due("12 BAD case", x.says(0, bad, 0), -10);
            due("12 BAD kind", x.says(0, 0, bad), -10);
        }
        due("12 BAD", x.says(4, 0, 0), -10);
        due("12 BAD", x.says(0, 1, 0), -10);
        due("12 BAD", x.says(0, 0, 3), -10);
    }

    private static void promise13() {
        LawRings x = new LawRings();
        due("13 BAD", x.said(0, 0, 0), BAD);
        x.newCase(10);
        for (int t = 0; t < 6; t++) x.tie(0, t, t % 4, 0);
        for (int land = 0; land < 4; land++) due("13 by none", x.said(land, 0, 0), land);
        int[] meant = { 2, 0, 1, 2, 3, 0, 1, 2, 3, 0, 1 };
        for (int whom = 0; whom < 11; whom++) {
            for (int end = INNER; end <= WHOLE; end++) {
                int rule = x.rule(2, 0, end, whom, 0);
                due("13 END " + end + " of " + whom, x.said(2, 0, 0), 10 * end + meant[whom]);
                x.strike(rule, 0);
            }
        }
        for (int bad : WRONG) {
            due("13 BAD land", x.said(bad, 0, 0), BAD);
            due("13 BAD case", x.said(0, bad, 0), BAD);
            due("13 BAD kind", x.said(0, 0, bad), BAD);
        }
        due("13 BAD", x.said(4, 0, 0), BAD);
        due("13 BAD", x.said(0, 1, 0), BAD);
        due("13 BAD", x.said(0, 0, 3), BAD);
    }

    /** Land 0 sends to 1, 1 to 2, 2 to 3, and 3 by the last rule; the case is number 0. */
    private static LawRings line(int lastEnd, int lastLand) {
        LawRings x = new LawRings();
        x.newCase(10);
        x.rule(0, 0, WHOLE, 2, 0);
        x.rule(1, 0, WHOLE, 3, 0);
        x.rule(2, 0, WHOLE, 4, 0);
        x.rule(3, 0, lastEnd, 1 + lastLand, 0);
        return x;
    }

    private static void promise14() {
        LawRings x = line(INNER, 0);
        due("14 NEVER", x.ends(0, 0, 0), 1);
        x.way(0, ONCE);
        due("14 ONCE", x.ends(0, 0, 0), 2);
        x.way(0, TO_THE_END);
        due("14 TO THE END, INNER", x.ends(0, 0, 0), 0);
        x.way(3, ONCE);
        due("14 INNER, whatever the way", x.ends(3, 0, 0), 0);
        for (int back = 0; back < 4; back++) {
            x = line(WHOLE, back);
            for (int land = 0; land < 4; land++) x.way(land, TO_THE_END);
            due("14 ring, back to " + back, x.ends(0, 0, 0), back);
        }
        x = line(WHOLE, 1);
        for (int land = 0; land < 4; land++) x.way(land, TO_THE_END);
        due("14 a ring met within", x.ends(0, 0, 0), 1);
        due("14 the judge's own is the first met", x.ends(2, 0, 0), 2);
        x = line(WHOLE, 3);
        for (int v = NEVER; v <= AS_THE_OTHER; v++) {
            x.way(3, v);
            due("14 WHOLE of itself", x.ends(3, 0, 0), 3);
        }
        x = line(INNER, 0);
        x.sort(1, 0, 2);
        x.way(0, TO_THE_END);
        due("14 the other sorts for itself", x.ends(0, 0, 0), 1);
        due("14 BAD", x.ends(4, 0, 0), BAD);
        due("14 BAD", x.ends(0, 1, 0), BAD);
        due("14 BAD", x.ends(0, 0, 3), BAD);
        for (int bad : WRONG) {
            due("14 BAD land", x.ends(bad, 0, 0), BAD);
            due("14 BAD case", x.ends(0, bad, 0), BAD);
            due("14 BAD kind", x.ends(0, 0, bad), BAD);
        }
    }

    private static void promise14Waiting() {
        LawRings x = line(WHOLE, 1);
        x.way(0, AS_THE_OTHER);
        due("14 as one who never sends on", x.ends(0, 0, 0), 2);
        x.way(1, ONCE);
        due("14 as one who looks once", x.ends(0, 0, 0), 3);
        x.way(1, TO_THE_END);
        due("14 as one who goes to the end", x.ends(0, 0, 0), 1);
        x.way(1, AS_THE_OTHER);
        x.way(2, AS_THE_OTHER);
        due("14 a line of waiting", x.ends(0, 0, 0), 1);
        x.way(3, AS_THE_OTHER);
        for (int land = 0; land < 4; land++) due("14 ENDLESS", x.ends(land, 0, 0), ENDLESS);
        x.way(2, ONCE);
        for (int land = 0; land < 4; land++) x.way(land, land == 2 ? ONCE : AS_THE_OTHER);
        due("14 the ring is broken by a way", x.ends(3, 0, 0), 1);
        x = line(WHOLE, 0);
        for (int land = 0; land < 4; land++) x.way(land, AS_THE_OTHER);
        due("14 ENDLESS through all four", x.ends(0, 0, 0), ENDLESS);
        x = line(INNER, 2);
        for (int land = 0; land < 4; land++) x.way(land, AS_THE_OTHER);
        due("14 through all four to an INNER", x.ends(0, 0, 0), 2);
        x = line(WHOLE, 3);
        for (int land = 0; land < 4; land++) x.way(land, AS_THE_OTHER);
        due("14 through all four to WHOLE of itself", x.ends(0, 0, 0), 3);
    }

    private static void promise14Treaties() {
        LawRings x = line(WHOLE, 0);
        for (int land = 0; land < 4; land++) x.way(land, AS_THE_OTHER);
        x.treaty(0, 1 << 2 | 1 << 3, 4);
        due("14 a tie that is not told", x.ends(2, 0, 0), ENDLESS);
        x.tie(0, 4, 0, 0);
        due("14 a tie to no land of the treaty", x.ends(2, 0, 0), ENDLESS);
        x.tie(0, 4, 3, 0);
        for (int land = 0; land < 4; land++) due("14 by a treaty of those waited for", x.ends(land, 0, 0), 3);
        due("14 another kind", x.ends(2, 0, 1), 2);
        x.way(1, NEVER);
        due("14 above the way, not for others", x.ends(1, 0, 0), 2);
        x.way(1, TO_THE_END);
        due("14 to the end goes by books alone", x.ends(1, 0, 0), 1);
        x.tie(0, 5, 2, 0);
        x.treaty(0, 15, 5);
        due("14 the first that tells", x.ends(2, 0, 0), 3);
        due("14 the first that tells", x.ends(0, 0, 0), 2);
        x.sort(0, 0, 1);
        due("14 a treaty's kind is not sorted", x.ends(0, 0, 0), 2);
        due("14 a treaty's kind is not sorted", x.ends(0, 0, 1), 0);
    }

    private static void promise15() {
        LawRings x = line(INNER, 1);
        x.way(0, ONCE);
        x.tie(0, 0, 3, 0);
        x.treaty(0, 15, 0);
        due("15 how many", x.chain(0, 0, 0, NONE), 4);
        for (int i = 0; i < 4; i++) due("15 the i-th", x.chain(0, 0, 0, i), i);
        due("15 not so many", x.chain(0, 0, 0, 4), -5);
        due("15 not so many", x.chain(0, 0, 0, Integer.MAX_VALUE), -5);
        due("15 INNER of 1", x.chain(0, 0, 0, -3), 1);
        due("15 how many", x.chain(3, 0, 0, NONE), 1);
        due("15 not so many", x.chain(3, 0, 0, 1), -5);
        due("15 by no rule", x.chain(2, 0, 1, -3), 2);
        x = line(WHOLE, 1);
        due("15 back to 1", x.chain(0, 0, 0, -3), 11);
        due("15 back to itself", x.chain(1, 0, 0, -3), 11);
        due("15 how many", x.chain(1, 0, 0, NONE), 3);
        due("15 back to 2", x.chain(2, 0, 0, -3), 12);
        x = line(WHOLE, 3);
        due("15 WHOLE of itself", x.chain(3, 0, 0, -3), 13);
        due("15 WHOLE of itself", x.chain(3, 0, 0, NONE), 1);
        for (int bad : WRONG) {
            due("15 BAD land", x.chain(bad, 0, 0, 0), -10);
            due("15 BAD case", x.chain(0, bad, 0, 0), -10);
            due("15 BAD kind", x.chain(0, 0, bad, 0), -10);
        }
        due("15 BAD", x.chain(4, 0, 0, 0), -10);
        due("15 BAD", x.chain(0, 1, 0, 0), -10);
        due("15 BAD", x.chain(0, 0, 3, 0), -10);
        due("15 BAD", x.chain(0, 0, 0, -2), -10);
        due("15 BAD", x.chain(0, 0, 0, -4), -10);
        due("15 BAD", x.chain(0, 0, 0, Integer.MIN_VALUE), -10);
    }

    private static void promise16() {
        LawRings x = new LawRings();
        x.newCase(0);
        x.rule(0, 0, WHOLE, 3, 0);
        x.rule(1, 0, WHOLE, 3, 0);
        x.rule(2, 0, INNER, 4, 0);
        due("16 none", x.parts(0, 1, 0, 0), 0);
        due("16 none", x.parts(1, 0, 0, 0), 0);
        x.rule(3, 0, INNER, 4, 0);
        due("16 ends alike at once", x.parts(2, 3, 0, 0), 0);
        due("16 a land beside an end", x.parts(0, 3, 0, 0), 1);
        x = new LawRings();
        x.newCase(0);
        x.rule(0, 0, WHOLE, 3, 0);
        x.rule(1, 0, WHOLE, 3, 0);
        x.rule(2, 0, WHOLE, 1, 0);
        // 0: 2, back to 0. 1: 2, 0, back to 2.
        due("16 at the second", x.parts(0, 1, 0, 0), 2);
        due("16 at the second", x.parts(1, 0, 0, 0), 2);
        x = new LawRings();
        x.newCase(0);
        x.rule(0, 0, WHOLE, 3, 0);
        x.rule(1, 0, INNER, 3, 0);
        due("16 WHOLE beside INNER of the same", x.parts(0, 1, 0, 0), 1);
        x = new LawRings();
        x.newCase(0);
        x.rule(0, 0, WHOLE, 1, 0);
        x.rule(1, 0, INNER, 1, 0);
        due("16 back beside INNER of the same", x.parts(0, 1, 0, 0), 1);
        x = line(WHOLE, 2);
        // 0: 1, 2, 3, back to 2. 1: 2, 3, back to 2. 3: 2, back to 3.
        due("16 at the first", x.parts(0, 1, 0, 0), 1);
        x.strike(0, 0);
        x.rule(0, 0, WHOLE, 3, 0);
        due("16 rings alike", x.parts(0, 1, 0, 0), 0);
        due("16 at the second", x.parts(0, 3, 0, 0), 2);
        due("16 BAD alike", x.parts(0, 0, 0, 0), BAD);
        due("16 BAD", x.parts(4, 0, 0, 0), BAD);
        due("16 BAD", x.parts(0, 4, 0, 0), BAD);
        due("16 BAD", x.parts(0, 1, 1, 0), BAD);
        due("16 BAD", x.parts(0, 1, 0, 3), BAD);
        for (int bad : WRONG) {
            due("16 BAD a", x.parts(bad, 0, 0, 0), BAD);
            due("16 BAD b", x.parts(0, bad, 0, 0), BAD);
            due("16 BAD case", x.parts(0, 1, bad, 0), BAD);
            due("16 BAD kind", x.parts(0, 1, 0, bad), BAD);
        }
    }

    private static int power5(int n) {
        int p = 1;
        for (int i = 0; i < n; i++) p *= 5;
        return p;
    }

    private static void promise17() {
        LawRings x = new LawRings();
        for (int t = 0; t < 6; t++) x.rule(0, 0, INNER, 5 + t, 0);
        for (int t = 0; t < 6; t++) {
            for (int land = 0; land < 4; land++) {
                due("17 tie " + t, x.endsIn(0, 0, 0, (1 + land) * power5(t)), land);
            }
        }
        due("17 the first rule first", x.endsIn(0, 0, 0, 4 + 5 * 3), 3);
        due("17 none told", x.endsIn(0, 0, 0, 0), 0);
        due("17 the last", x.endsIn(0, 0, 0, ALL - 1), 3);
        x.rule(1, 0, INNER, 4, 500);
        due("17 ahead of the day", x.endsIn(1, 0, 499, 0), 1);
        due("17 on the day", x.endsIn(1, 0, 500, 0), 3);
        x.treaty(0, 3, 5);
        due("17 by a treaty", x.endsIn(1, 0, 500, 1 * power5(5)), 0);
        due("17 BAD", x.endsIn(4, 0, 0, 0), BAD);
        due("17 BAD", x.endsIn(0, 3, 0, 0), BAD);
        due("17 BAD", x.endsIn(0, 0, 1000, 0), BAD);
        due("17 BAD", x.endsIn(0, 0, 0, ALL), BAD);
        for (int bad : WRONG) {
            due("17 BAD land", x.endsIn(bad, 0, 0, 0), BAD);
            due("17 BAD kind", x.endsIn(0, bad, 0, 0), BAD);
            due("17 BAD day", x.endsIn(0, 0, bad, 0), BAD);
            due("17 BAD number", x.endsIn(0, 0, 0, bad), BAD);
        }
    }

    private static void promise18() {
        LawRings x = new LawRings();
        due("18 all", x.unlike(0, 1, 0, 0), ALL);
        x.rule(0, 0, WHOLE, 2, 0);
        due("18 none", x.unlike(0, 1, 0, 0), 0);
        x.way(0, AS_THE_OTHER);
        x.way(1, AS_THE_OTHER);
        int back = x.rule(1, 0, WHOLE, 1, 0);
        x.test(back, 2, 5);
        due("18 ENDLESS is an end", x.unlike(0, 1, 0, 0), 0);
        x.way(1, NEVER);
        due("18 alike still", x.unlike(0, 1, 0, 0), 0);
        x.way(0, NEVER);
        // Land 0 ends in 1; land 1 in 0 if tie 2 is land 1, else in 1.
        due("18 a fifth", x.unlike(0, 1, 0, 0), ALL / 5);
        due("18 a fifth", x.unlike(1, 0, 0, 0), ALL / 5);
        x.strike(back, 7);
        due("18 the day ahead", x.unlike(0, 1, 0, 6), ALL / 5);
        due("18 the day", x.unlike(0, 1, 0, 7), 0);
        due("18 BAD alike", x.unlike(0, 0, 0, 0), BAD);
        due("18 BAD", x.unlike(4, 0, 0, 0), BAD);
        due("18 BAD", x.unlike(0, 4, 0, 0), BAD);
        due("18 BAD", x.unlike(0, 1, 3, 0), BAD);
        due("18 BAD", x.unlike(0, 1, 0, 1000), BAD);
        for (int bad : WRONG) {
            due("18 BAD a", x.unlike(bad, 0, 0, 0), BAD);
            due("18 BAD b", x.unlike(0, bad, 0, 0), BAD);
            due("18 BAD kind", x.unlike(0, 1, bad, 0), BAD);
            due("18 BAD day", x.unlike(0, 1, 0, bad), BAD);
        }
    }

    private static void promise19() {
        LawRings x = new LawRings();
        due("19 the empty case", x.least(0, 1, 0, 0), 0);
        x.rule(0, 0, INNER, 2, 0);
        due("19 NONE", x.least(0, 1, 0, 0), NONE);
        int two = x.rule(1, 0, INNER, 4, 0);
        x.test(two, 0, 4);
        x.test(two, 1, 5);
        due("19 two ties", x.least(0, 1, 0, 0), 1 + 5 * 2);
        int one = x.rule(1, 0, INNER, 4, 0);
        x.test(one, 5, 7);
        due("19 fewer ties ahead of a less number", x.least(0, 1, 0, 0), 4 * power5(5));
        int like = x.rule(1, 0, INNER, 4, 0);
        x.test(like, 4, 0);
        due("19 of like ones the least number", x.least(1, 0, 0, 0), power5(4));
        x = new LawRings();
        x.rule(1, 0, INNER, 2, 0);
        for (int t = 0; t < 6; t++) x.test(x.rule(0, 0, INNER, 2, 0), t, 1);
        x.rule(0, 0, INNER, 3, 0);
        due("19 all six ties", x.least(0, 1, 0, 0), 1 + 5 + 25 + 125 + 625 + 3125);
        due("19 BAD alike", x.least(2, 2, 0, 0), BAD);
        due("19 BAD", x.least(4, 0, 0, 0), BAD);
        due("19 BAD", x.least(0, 4, 0, 0), BAD);
        due("19 BAD", x.least(0, 1, 3, 0), BAD);
        due("19 BAD", x.least(0, 1, 0, 1000), BAD);
        for (int bad : WRONG) {
            due("19 BAD a", x.least(bad, 0, 0, 0), BAD);
            due("19 BAD b", x.least(0, bad, 0, 0), BAD);
            due("19 BAD kind", x.least(0, 1, bad, 0), BAD);
            due("19 BAD day", x.least(0, 1, 0, bad), BAD);
        }
    }

    private static void promise20() {
        LawRings x = new LawRings();
        for (int land = 0; land < 4; land++) due("20 itself", x.reached(land, 0, 0), 1 << land);
        x.rule(0, 0, WHOLE, 6, 0);
        due("20 any", x.reached(0, 0, 0), 15);
        x.rule(1, 0, WHOLE, 1, 0);
        x.way(0, AS_THE_OTHER);
        x.way(1, AS_THE_OTHER);
        due("20 ENDLESS in the place of 1", x.reached(0, 0, 0), 1 | 4 | 8 | 16);
        due("20 the other kind", x.reached(0, 1, 0), 1);
        for (int t = 0; t < 6; t++) x.test(x.rule(2, 0, INNER, 1, 0), t, 0);
        due("20 by the empty case alone", x.reached(2, 0, 0), 1 | 4);
        due("20 BAD", x.reached(4, 0, 0), BAD);
        due("20 BAD", x.reached(0, 3, 0), BAD);
        due("20 BAD", x.reached(0, 0, 1000), BAD);
        for (int bad : WRONG) {
            due("20 BAD land", x.reached(bad, 0, 0), BAD);
            due("20 BAD kind", x.reached(0, bad, 0), BAD);
            due("20 BAD day", x.reached(0, 0, bad), BAD);
        }
    }

    private static void promise21() {
        LawRings x = new LawRings();
        due("21 none", x.same(0, 0), 0);
        for (int land = 0; land < 4; land++) x.rule(land, 0, INNER, 5, 3);
        due("21 ahead of the day", x.same(0, 2), 0);
        due("21 where tie 0 is told", x.same(0, 3), ALL / 5 * 4);
        x.treaty(0, 12, 1);
        // Lands 2 and 3 end by tie 1 if it is 2 or 3: unlike lands 0 and 1 but where tie 0 is the same.
        due("21 with a treaty", x.same(0, 3), ALL / 25 * (4 * 3 + 2));
        x = new LawRings();
        for (int land = 0; land < 4; land++) {
            x.rule(land, 2, WHOLE, 1 + (land + 1) % 4, 0);
            x.way(land, AS_THE_OTHER);
        }
        due("21 all ENDLESS", x.same(2, 0), ALL);
        due("21 BAD", x.same(3, 0), BAD);
        due("21 BAD", x.same(0, 1000), BAD);
        for (int bad : WRONG) {
            due("21 BAD kind", x.same(bad, 0), BAD);
            due("21 BAD day", x.same(0, bad), BAD);
        }
    }

    private static void promise22() {
        LawRings x = new LawRings();
        due("22 no rules", x.dead(0, 0), 0);
        int never = x.rule(0, 0, INNER, 0, 0);
        x.test(never, 0, 0);
        x.test(never, 0, 1);
        due("22 never holds", x.dead(0, 0), 1);
        x.rule(0, 0, INNER, 5, 0);
        x.rule(0, 0, INNER, 6, 0);
        int behind = x.rule(0, 0, INNER, 2, 0);
        x.test(behind, 1, 9);
        due("22 only behind another", x.dead(0, 0), 1 | 8);
        x.rule(0, 0, INNER, 2, 0);
        due("22 the rest", x.dead(0, 0), 1 | 8);
        x.rule(0, 0, INNER, 3, 0);
        due("22 behind one that always holds", x.dead(0, 0), 1 | 8 | 32);
        x.rule(1, 0, INNER, 3, 0);
        due("22 another land", x.dead(1, 0), 0);
        x.rule(0, 1, INNER, 3, 0);
        due("22 another kind's first", x.dead(0, 0), 1 | 8 | 32);
        x.sort(0, 1, 0);
        due("22 a kind that is not sorted by", x.dead(0, 0), 1 | 8 | 32 | 64);
        x.sort(0, 2, 1);
        due("22 sorted by again", x.dead(0, 0), 1 | 8 | 32);
        int three = x.rule(2, 0, INNER, 4, 0);
        x.test(three, 0, 9);
        x.test(three, 1, 10);
        due("22 holds if three are the same", x.dead(2, 0), 0);
        int apart = x.rule(2, 1, INNER, 4, 0);
        x.test(apart, 0, 9);
        x.test(apart, 1, 1);
        due("22 same as an untold one", x.dead(2, 0), 2);
        due("22 BAD", x.dead(4, 0), BAD);
        due("22 BAD", x.dead(0, 1000), BAD);
        for (int bad : WRONG) {
            due("22 BAD land", x.dead(bad, 0), BAD);
            due("22 BAD day", x.dead(0, bad), BAD);
        }
    }

    private static void promise22Places() {
        LawRings x = new LawRings();
        x.rule(0, 0, INNER, 1, 5);
        x.rule(1, 0, INNER, 1, 0);
        x.rule(0, 0, INNER, 2, 0);
        x.rule(0, 0, INNER, 3, 0);
        due("22 places of those that stand", x.dead(0, 0), 2);
        due("22 places of those that stand", x.dead(0, 5), 2 | 4);
        x.strike(2, 7);
        due("22 the struck one has no place", x.dead(0, 7), 2);
        x.strike(0, 8);
        due("22 the struck ones have no place", x.dead(0, 8), 0);
        x = new LawRings();
        for (int i = 0; i < 40; i++) x.rule(3, 0, INNER, 1, 0);
        due("22 the first 30", x.dead(3, 0), (1 << 30) - 2);
        for (int t = 0; t < 6; t++) x.test(x.rule(2, 0, INNER, 1, 0), t, 0);
        x.rule(2, 0, INNER, 1, 0);
        x.rule(2, 0, INNER, 1, 0);
        due("22 first in the empty case alone", x.dead(2, 0), 1 << 7);
    }

    private static void promise23() {
        LawRings x = new LawRings();
        due("23 BAD", x.trial(0), BAD);
        for (int i = 0; i < 13; i++) x.rule(0, 0, INNER, 1, 0);
        for (int bad : WRONG) due("23 BAD", x.trial(bad), BAD);
        due("23 BAD", x.trial(13), BAD);
        for (int i = 0; i < 12; i++) {
            due("23", x.trial(12 - i), i + 1);
            due("23 BAD told", x.trial(12 - i), BAD);
        }
        due("23 FULL", x.trial(0), FULL);
        due("23 BAD ahead of FULL", x.trial(13), BAD);
        due("23 BAD told ahead of FULL", x.trial(5), BAD);
        due("23 count", x.count(4), 12);
    }

    private static void promise24() {
        LawRings x = new LawRings();
        due("24", x.untry(), 0);
        x.rule(0, 0, INNER, 1, 0);
        x.rule(0, 0, INNER, 1, 0);
        x.trial(1);
        x.trial(0);
        due("24", x.untry(), 2);
        due("24 count", x.count(4), 0);
        due("24", x.untry(), 0);
        due("24 told again", x.trial(1), 1);
    }

    private static void promise25() {
        LawRings x = new LawRings();
        due("25 BAD", x.kindOf(0, 0), BAD);
        x.newCase(0);
        due("25 at first", x.kindOf(0, 2), 0);
        due("25 was", x.kindOf(0, 1), 2);
        x.newCase(0);
        due("25 another case", x.kindOf(1, 1), 0);
        due("25 was", x.kindOf(0, 0), 1);
        due("25 BAD", x.kindOf(2, 0), BAD);
        due("25 BAD", x.kindOf(0, 3), BAD);
        for (int bad : WRONG) {
            due("25 BAD case", x.kindOf(bad, 0), BAD);
            due("25 BAD kind", x.kindOf(0, bad), BAD);
        }
        due("25 kept", x.kindOf(0, 0), 0);
    }

    private static void promise26() {
        LawRings x = new LawRings();
        due("26 NO", x.fewest(), NO);
        // Each land has first a rule by which it ends in itself, then one by which it ends in land 3.
        for (int land = 0; land < 4; land++) x.rule(land, 0, INNER, 1 + land, 0);
        for (int land = 0; land < 4; land++) x.rule(land, 0, INNER, 4, 0);
        due("26 NO still", x.fewest(), NO);
        x.newCase(0);
        due("26 NONE without trials", x.fewest(), NONE);
        x.trial(2);
        x.trial(0);
        due("26 NONE", x.fewest(), NONE);
        x.trial(3);
        x.trial(1);
        due("26 three are enough, the fourth stays", x.fewest(), 1 | 2 | 8);
        x.newCase(0);
        due("26 in each case", x.fewest(), 1 | 2 | 8);
        x.kindOf(1, 1);
        due("26 by the kind told", x.fewest(), NONE);
        for (int land = 0; land < 4; land++) x.rule(land, 1, INNER, 2, 0);
        due("26 again", x.fewest(), 1 | 2 | 8);
        x.untry();
        x.kindOf(0, 1);
        due("26 none need be struck", x.fewest(), 0);
        x = new LawRings();
        x.newCase(0);
        // By kind 1 only land 1's first rule ends elsewhere than all the others.
        for (int land = 0; land < 4; land++) x.rule(land, 0, INNER, 1, 0);
        int odd = x.rule(1, 1, INNER, 4, 0);
        x.kindOf(0, 1);
        for (int land = 0; land < 4; land++) x.rule(land, 1, INNER, 2, 0);
        x.trial(5);
        x.trial(odd);
        due("26 one", x.fewest(), 2);
        x.rule(2, 1, INNER, 4, 0);
        x.strike(odd, 0);
        due("26 alike already", x.fewest(), 0);
        x = new LawRings();
        x.newCase(0);
        int first = x.rule(0, 0, INNER, 3, 0);
        int second = x.rule(0, 0, WHOLE, 3, 0);
        for (int land = 1; land < 4; land++) x.rule(land, 0, INNER, 1, 0);
        x.trial(second);
        due("26 NONE, the first stays", x.fewest(), NONE);
        x.trial(first);
        due("26 both", x.fewest(), 3);
    }

    private static void promise27() {
        LawRings x = new LawRings();
        due("27 BAD", x.ask(0, 0, 0, 0, 0), BAD);
        x.newCase(5);
        x.tie(0, 1, 2, 0);
        for (int land = 0; land < 4; land++) {
            due("27 each its own", x.ask(0, 0, land, 63, 0), 0);
            due("27 each its own", x.ask(0, 0, land, 63, 1), land);
            due("27 the case as it is", x.ask(0, 0, land, 63, 2), 5 * 3);
        }
        x = new LawRings();
        x.newCase(5);
        // All lands end by tie 2, else in land 0.
        for (int land = 0; land < 4; land++) x.rule(land, 0, INNER, 7, 0);
        for (int land = 0; land < 4; land++) x.rule(land, 0, INNER, 1, 0);
        for (int what = 0; what < 3; what++) due("27 nowhere", x.ask(0, 0, 3, 63 - 4, what), NONE);
        due("27 one tie", x.ask(0, 0, 3, 4, 0), 1);
        due("27 the judge", x.ask(0, 0, 3, 4, 1), 0);
        due("27 the number", x.ask(0, 0, 3, 4, 2), 4 * 25);
        x.tie(0, 2, 1, 0);
        due("27 made other", x.ask(0, 0, 0, 4, 0), 1);
        due("27 to a land, not to none", x.ask(0, 0, 0, 4, 2), 25);
        x.strike(0, 5);
        due("27 on the case's day", x.ask(0, 0, 0, 4, 0), 0);
        due("27 BAD", x.ask(1, 0, 0, 0, 0), BAD);
        due("27 BAD", x.ask(0, 3, 0, 0, 0), BAD);
        due("27 BAD", x.ask(0, 0, 4, 0, 0), BAD);
        due("27 BAD", x.ask(0, 0, 0, 64, 0), BAD);
        due("27 BAD", x.ask(0, 0, 0, 0, 3), BAD);
        for (int bad : WRONG) {
            due("27 BAD case", x.ask(bad, 0, 0, 0, 0), BAD);
            due("27 BAD kind", x.ask(0, bad, 0, 0, 0), BAD);
            due("27 BAD wished", x.ask(0, 0, bad, 0, 0), BAD);
            due("27 BAD free", x.ask(0, 0, 0, bad, 0), BAD);
            due("27 BAD what", x.ask(0, 0, 0, 0, bad), BAD);
        }
    }

    private static void promise27Order() {
        LawRings x = new LawRings();
        x.newCase(0);
        // None ends in 3 as it is; land 1 does by tie 0, land 0 by tie 5 or by two ties, land 3 never.
        x.rule(3, 0, INNER, 1, 0);
        int one = x.rule(1, 0, INNER, 4, 0);
        x.test(one, 0, 4);
        int two = x.rule(0, 0, INNER, 4, 0);
        x.test(two, 1, 0);
        x.test(two, 2, 0);
        due("27 fewer changes ahead of a lower judge", x.ask(0, 0, 3, 63, 0), 1);
        due("27 fewer changes ahead of a lower judge", x.ask(0, 0, 3, 63, 1), 1);
        due("27 fewer changes ahead of a lower judge", x.ask(0, 0, 3, 63, 2), 1);
        int far = x.rule(0, 0, INNER, 4, 0);
        x.test(far, 5, 0);
        due("27 the lower judge ahead of the number", x.ask(0, 0, 3, 63, 0), 1);
        due("27 the lower judge ahead of the number", x.ask(0, 0, 3, 63, 1), 0);
        due("27 the least number", x.ask(0, 0, 3, 63, 2), power5(5));
        due("27 only what is free", x.ask(0, 0, 3, 6, 0), 2);
        due("27 only what is free", x.ask(0, 0, 3, 6, 1), 0);
        due("27 only what is free", x.ask(0, 0, 3, 6, 2), 5 + 25);
        due("27 nothing changes", x.which(0, 1), NONE);
    }

    private static void promise28() {
        LawRings x = new LawRings();
        for (int i = 0; i < 5; i++) x.newCase(i);
        for (int i = 0; i < 4; i++) x.tie(0, i, i, i);
        for (int i = 0; i < 3; i++) x.rule(i, i, 0, i, i);
        for (int i = 0; i < 2; i++) x.treaty(i, i + 1, i);
        x.trial(2);
        for (int what = 0; what < 5; what++) due("28 count " + what, x.count(what), 5 - what);
        due("28 BAD", x.count(5), BAD);
        for (int bad : WRONG) due("28 BAD", x.count(bad), BAD);
    }

    private static void promise29() {
        LawRings x = new LawRings();
        due("29 a new object", x.digest(), mixed(0, 0, 0, 0, 0,
            0, 1, 2, 0, 1, 2, 0, 1, 2, 0, 1, 2, 0, 0, 0, 0));
        x.newCase(9);
        x.kindOf(0, 2);
        x.tie(0, 0, 3, 9);
        x.tie(0, 1, 2, 10);
        x.rule(1, 2, WHOLE, 1, 4);
        x.rule(0, 1, INNER, 7, 0);
        x.test(1, 4, 13);
        x.test(1, 2, 1);
        x.strike(1, 6);
        x.sort(2, 0, 1);
        x.way(1, AS_THE_OTHER);
        x.way(3, TO_THE_END);
        x.treaty(1, 9, 0);
        x.trial(1);
        x.trial(0);
        due("29", x.digest(), mixed(1, 2, 2, 1, 2,
            9, 2, 3, -1, -1, -1, -1, -1,
            0, 1, 2, 3, 3, 1, 2, 3, 0, 0, 2, 3,
            1, 2, 1, 1, 4, -1, 0,
            0, 1, 0, 7, 0, 6, 2, 4, 13, 2, 1,
            0, 1, 2, 0, 1, 2, 1, 1, 2, 0, 1, 2,
            0, 3, 0, 2,
            1, 9, 0,
            1, 0));
    }

    private static long mixed(long... values) {
        long h = 397;
        for (long v : values) h = 31 * h + v;
        return h;
    }

    private static void refusedCallsChangeNothing() {
        LawRings x = new LawRings();
        for (int i = 0; i < 16; i++) x.newCase(i);
        for (int i = 0; i < 60; i++) x.tie(i % 16, i % 6, i % 4, 0);
        for (int i = 0; i < 60; i++) x.rule(i % 4, i % 3, i % 2, i % 11, i);
        for (int i = 0; i < 8; i++) x.treaty(i % 3, 3, 5);
        for (int i = 0; i < 12; i++) x.trial(i);
        x.test(0, 0, 0);
        x.test(0, 1, 0);
        x.strike(0, 20);
        long before = x.digest();
        x.newCase(3);
        x.newCase(1000);
        x.tie(0, 0, 1, 0);
        x.rule(0, 0, 0, 0, 0);
        x.test(0, 0, 1);
        x.test(1, 6, 0);
        x.strike(0, 10);
        x.strike(1, 1000);
        x.sort(0, 0, 3);
        x.sort(0, 3, 1);
        x.way(0, 4);
        x.treaty(0, 15, 0);
        x.trial(20);
        x.trial(0);
        x.kindOf(0, 3);
        x.kindOf(16, 1);
        x.fewest();
        x.ask(0, 0, 3, 63, 0);
        x.dead(0, 30);
        due("refused calls and looks change nothing", x.digest(), before);
    }
}
