/** Objects made ready for a test, and a long look at two that ought to be alike. */
final class Worlds {
    private Worlds() {
    }

    static LawRings empty() {
        return new LawRings();
    }

    /** One CASE, one RULE, nothing more. */
    static LawRings single() {
        LawRings x = new LawRings();
        x.newCase(5);
        x.rule(0, 0, 0, 0, 0);
        return x;
    }

    /** Three CASES, six RULES, and something in each other table; room is left in all of them. */
    static LawRings some() {
        LawRings x = new LawRings();
        x.newCase(0);
        x.newCase(10);
        x.newCase(999);
        for (int c = 0; c < 3; c++) {
            x.tie(c, 0, 1, 0);
            x.tie(c, 1, c, 0);
            x.tie(c, 5, 3, 10);
        }
        x.rule(0, 0, 1, 2, 0);
        x.rule(1, 0, 1, 5, 0);
        x.rule(2, 0, 1, 10, 0);
        x.rule(3, 1, 0, 6, 5);
        x.rule(0, 1, 1, 3, 10);
        x.rule(1, 2, 0, 4, 999);
        x.test(0, 0, 5);
        x.test(2, 5, 3);
        x.strike(4, 999);
        x.sort(2, 1, 0);
        x.way(0, 2);
        x.way(1, 1);
        x.way(2, 3);
        x.treaty(1, 6, 1);
        x.treaty(2, 15, 5);
        x.trial(0);
        x.trial(2);
        x.kindOf(1, 1);
        return x;
    }

    /** Every table full, and RULE 0 with two TESTS and struck from DAY 20 on. */
    static LawRings full() {
        LawRings x = new LawRings();
        for (int i = 0; i < 16; i++) x.newCase(i * 3);
        for (int i = 0; i < 60; i++) x.tie(i % 16, i % 6, i % 4, i);
        for (int i = 0; i < 60; i++) x.rule(i % 4, i % 3, i % 2, i % 11, i % 40);
        for (int i = 0; i < 8; i++) x.treaty(i % 3, 3 + i, i % 6);
        for (int i = 0; i < 12; i++) x.trial(i * 5);
        x.test(0, 0, 0);
        x.test(0, 1, 2);
        x.test(59, 2, 3);
        x.strike(0, 20);
        x.way(1, 3);
        x.way(3, 2);
        return x;
    }

    /** A series of looks, then of things told, at two objects: each answer must be the same. */
    static void alike(String what, LawRings x, LawRings y) {
        Pair both = new Pair(what, x, y);
        both.see("digest", x.digest(), y.digest());
        for (int i = 0; i < 5; i++) both.see("count " + i, x.count(i), y.count(i));
        int cases = y.count(0), rules = y.count(2), last = cases - 1;
        for (int t = 0; t < 6; t++) {
            both.see("which of the first", x.which(0, t), y.which(0, t));
            both.see("which of the last", x.which(last, t), y.which(last, t));
        }
        for (int r = 0; r < rules; r++) both.see("holds " + r, x.holds(r, last), y.holds(r, last));
        for (int land = 0; land < 4; land++) {
            for (int kind = 0; kind < 3; kind++) {
                both.see("says", x.says(land, last, kind), y.says(land, last, kind));
                both.see("said", x.said(land, 0, kind), y.said(land, 0, kind));
            }
            both.see("chain", x.chain(land, 0, 0, -3), y.chain(land, 0, 0, -3));
            both.see("endsIn", x.endsIn(land, 0, 10, 7777), y.endsIn(land, 0, 10, 7777));
        }
        both.see("dead", x.dead(0, 10), y.dead(0, 10));
        both.see("same", x.same(0, 10), y.same(0, 10));
        tellAlike(both);
    }

    private static void tellAlike(Pair both) {
        LawRings x = both.x, y = both.y;
        both.see("newCase", x.newCase(7), y.newCase(7));
        both.see("tie", x.tie(0, 2, 1, 0), y.tie(0, 2, 1, 0));
        both.see("rule", x.rule(0, 0, 1, 3, 0), y.rule(0, 0, 1, 3, 0));
        both.see("test", x.test(0, 3, 1), y.test(0, 3, 1));
        both.see("test", x.test(1, 3, 1), y.test(1, 3, 1));
        both.see("strike", x.strike(0, 9), y.strike(0, 9));
        both.see("strike", x.strike(1, 9), y.strike(1, 9));
        for (int land = 0; land < 4; land++) {
            both.see("way", x.way(land, 3), y.way(land, 3));
            for (int kind = 0; kind < 3; kind++) both.see("sort", x.sort(land, kind, 0), y.sort(land, kind, 0));
        }
        both.see("treaty", x.treaty(0, 9, 0), y.treaty(0, 9, 0));
        both.see("trial", x.trial(1), y.trial(1));
        both.see("kindOf", x.kindOf(0, 2), y.kindOf(0, 2));
        both.see("digest at last", x.digest(), y.digest());
        both.see("untry", x.untry(), y.untry());
    }

    private static final class Pair {
        final String what;
        final LawRings x;
        final LawRings y;

        Pair(String what, LawRings x, LawRings y) {
            this.what = what;
            this.x = x;
            this.y = y;
        }

        void see(String call, long got, long want) {
            Sentences.due(what + ", later " + call, got, want);
        }
    }
}
