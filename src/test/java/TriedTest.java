/** Promises 18 to 25: what is tried from now. */
public final class TriedTest {
    private static final String QUICK = "d1 0 9 9 9 9;d1 0 9 9 9 9;d1 0 9 9 9 9;d1 0 9 9 9 9;c0 9 1 8 8;";
    private static final Due due = new Due();

    public static void main(String[] args) {
        bestRefused();
        best();
        bestNotFirst();
        bestByPassing();
        greatest();
        harden();
        deeds();
        leagueOfFew();
        leagueOfFour();
        met();
        shared();
        powder();
        due.end("TriedTest");
    }

    private static PraiseDuels three() {
        return Due.meadow(MeadowTest.THREE);
    }

    private static void bestIs(String when, PraiseDuels x, int value, int turn) {
        int turns = x.told(6);
        due.is(when + ": best(0)", x.best(0), value);
        due.is(when + ": best(1)", x.best(1), turn);
        due.is(when + ": nothing changes", x.told(6), turns);
    }

    private static void bestRefused() {
        PraiseDuels x = three();
        due.is("best(0), no DUEL", x.best(0), Due.NOT);
        due.is("best(2), no DUEL", x.best(2), Due.OUTSIDE);
        due.is("best(-1), no DUEL", x.best(-1), Due.OUTSIDE);
        x.duel(0, 1);
        due.is("best(0), 6 unsaid", x.best(0), Due.NOT);
        x.say(3);
        due.is("best(2)", x.best(2), Due.OUTSIDE);
        due.is("best(-1)", x.best(-1), Due.OUTSIDE);
        x.pass();
        x.pass();
        due.is("best(0), over", x.best(0), Due.NOT);
        PraiseDuels y = Due.meadow("d10 0 5 5 5 5;d10 0 5 5 5 5;c0 1 1 8 8;c0 1 1 8 8;c0 1 1 8 8;c0 1 1 8 8;c0 2 1 8 8;");
        y.duel(0, 1);
        bestIs("5 unsaid, the last one is enough", y, 2, 4);
    }

    private static void best() {
        PraiseDuels x = Due.meadow("d11 0 5 0 0 0;d11 0 5 0 0 0;c0 2 1 8 8;c0 2 1 8 8;");
        x.duel(1, 0);
        bestIs("10 each, 11 are needed", x, 1, 0);
        x.pass();
        bestIs("one PASS ahead", x, 1, 0);
        x.say(0);
        bestIs("else the other one says both", x, 1, 1);
        x.pass();
        bestIs("10 and 5", x, 2, 1);
        x.undo(1);
        x.say(1);
        bestIs("nothing is left", x, 1, 8);
        x.pass();
        bestIs("nothing is left behind a PASS", x, 1, 8);
        PraiseDuels y = Due.meadow("d999 0 0 0 0 0;d10 0 5 0 0 0;c0 2 1 8 8;c0 2 1 8 8;");
        y.duel(1, 0);
        bestIs("it loses by every turn: the first one", y, 0, 0);
        y.duel(0, 1);
        bestIs("either wins: the first one", y, 2, 0);
        PraiseDuels z = Due.meadow("d999 0 0 0 0 0;d10 0 5 0 0 0;c0 2 1 8 8;");
        z.duel(1, 0);
        bestIs("it says it, so the other one can't", z, 1, 0);
    }

    private static void bestNotFirst() {
        PraiseDuels x = Due.meadow("d999 0 0 0 0 0;d10 0 5 0 0 0;c1 1 1 8 8;c0 2 1 8 8;c1 1 1 8 8;");
        x.duel(0, 1);
        bestIs("a draw by the first, won by the second", x, 2, 1);
        x.duel(1, 0);
        bestIs("lost by the first, a draw by the second", x, 1, 1);
        PraiseDuels y = Due.meadow("d999 0 0 0 0 0;d10 0 5 0 0 0;c1 1 1 8 8;c1 1 1 8 8;c0 2 1 8 8;c1 1 1 8 8;");
        y.duel(1, 0);
        bestIs("the other one would say c2 behind any other turn", y, 1, 2);
        y.say(2);
        bestIs("a draw by all: the first one", y, 1, 0);
        y.say(0);
        bestIs("a draw by all: the first one that is unsaid", y, 1, 1);
    }

    private static void bestByPassing() {
        PraiseDuels x = Due.meadow("d99 0 1 1 1 1;d99 0 1 1 1 1;c0 1 1 0 8;c0 1 1 0 8;c0 1 1 0 8;");
        x.duel(0, 1);
        x.say(0);
        x.pass();
        x.say(1);
        x.pass();
        bestIs("a third FOUL loses", x, 1, 8);
        x.act(1, 0);
        bestIs("it is TRUE now", x, 1, 2);
        PraiseDuels y = Due.meadow("d10 5 5 0 0 0;d15 0 5 0 0 0;c0 2 1 8 8;c0 1 1 8 8;c0 2 1 8 8;c0 9 1 7 7;");
        y.duel(1, 0);
        y.say(1);
        bestIs("the BLUSH COOLS ahead of what is said", y, 1, 0);
    }

    private static void greatest() {
        PraiseDuels x = three();
        due.is("greatest(0), no DUEL", x.greatest(0), Due.NOT);
        due.is("greatest(2), no DUEL", x.greatest(2), Due.OUTSIDE);
        due.is("greatest(-1), no DUEL", x.greatest(-1), Due.OUTSIDE);
        x.duel(0, 1);
        due.is("on 1: half of 15", x.greatest(0), 2);
        due.is("on 1: half of 15", x.greatest(1), 7);
        x.say(2);
        due.is("on 0", x.greatest(0), 0);
        due.is("on 0", x.greatest(1), 20);
        x.say(0);
        due.is("of like ones the least", x.greatest(0), 3);
        due.is("of like ones the least", x.greatest(1), 4);
        x.say(3);
        due.is("on 0: TOPIC 0 was told once, c5 is FALSE", x.greatest(0), 1);
        x.act(0, 1);
        due.is("on 0: 16 halved is less than 12", x.greatest(0), 1);
        x.vanity(0, 1, 1);
        due.is("on 0: 16 halved is more than 6", x.greatest(0), 5);
        due.is("on 0: 16 halved", x.greatest(1), 8);
        x.say(1);
        x.say(5);
        due.is("FALSE alone", x.greatest(0), Due.NONE);
        due.is("FALSE alone", x.greatest(1), Due.NONE);
        x.act(0, 2);
        due.is("half true, of no EFFECT", x.greatest(0), 4);
        due.is("half true, of no EFFECT", x.greatest(1), 0);
        x.pass();
        x.pass();
        due.is("greatest(0), over", x.greatest(0), Due.NOT);
        x.duel(2, 1);
        x.pass();
        due.is("on 2", x.greatest(1), 45);
        x.vanity(2, 2, 9);
        x.vanity(2, 0, 1);
        due.is("on 2", x.greatest(0), 4);
    }

    private static void harden() {
        PraiseDuels x = three();
        int[][] want = {{1, 2, 18, 1, 0, 0, 2}, {4, 1, 5, 1, 0, 0, 1}, {5, 9, 9, 1, 0, 0, 0}, {6, 9, 0, 0, 0, 0, 0},
            {99, 1, 0, 0, 0, 0, 0}};
        for (int[] row : want) {
            for (int topic = -1; topic < 4; topic++) {
                String call = "harden(1, " + row[0] + ", " + row[1] + ", " + topic + ")";
                due.is(call, x.harden(1, row[0], row[1], topic), row[topic + 3]);
            }
        }
        due.is("the cost of 3, 1, 5", x.harden(0, 10, 2, -1), 50);
        due.is("VANITIES stay", x.duellist(0, 2), 4);
        x.act(0, 1);
        due.is("c2 is TRUE, too, and less", x.harden(0, 7, 1, 1), 1);
        x.duel(1, 0);
        x.say(0);
        due.is("first told", x.harden(0, 10, 2, 0), 3);
        due.is("harden(3, 0, 0, 4)", x.harden(3, 0, 0, 4), Due.UNKNOWN);
        due.is("harden(-1, 1, 1, 0)", x.harden(-1, 1, 1, 0), Due.UNKNOWN);
        due.is("harden(0, 0, 1, 0)", x.harden(0, 0, 1, 0), Due.OUTSIDE);
        due.is("harden(0, 100, 1, 0)", x.harden(0, 100, 1, 0), Due.OUTSIDE);
        due.is("harden(0, 1, 0, 0)", x.harden(0, 1, 0, 0), Due.OUTSIDE);
        due.is("harden(0, 1, 10, 0)", x.harden(0, 1, 10, 0), Due.OUTSIDE);
        due.is("harden(0, 1, 1, 4)", x.harden(0, 1, 1, 4), Due.OUTSIDE);
        due.is("harden(0, 1, 1, -2)", x.harden(0, 1, 1, -2), Due.OUTSIDE);
    }

    private static void deeds() {
        PraiseDuels x = three();
        int[][] many = {{0, 0, 0, 0, 1, 1, 3, -1, -1}, {0, 0, 0, 0, 1, 1, 3, -1, -1}, {0, 0, 0, 1, 2, 2, 3, -1, -1}};
        int[][] which = {{0, 0, 0, 0, 2, 2, 14, -1, -1}, {0, 0, 0, 0, 1, 1, 13, -1, -1}, {0, 0, 0, 1, 3, 3, 11, -1, -1}};
        for (int d = 0; d < 3; d++) {
            for (int m = 0; m < 9; m++) {
                due.is("deeds(" + d + ", " + m + ", 0)", x.deeds(d, m, 0), many[d][m]);
                due.is("deeds(" + d + ", " + m + ", 1)", x.deeds(d, m, 1), which[d][m]);
            }
        }
        due.is("DEEDS stay", x.duellist(0, 6), 1);
        due.is("deeds(3, 9, 2)", x.deeds(3, 9, 2), Due.UNKNOWN);
        due.is("deeds(-1, 0, 0)", x.deeds(-1, 0, 0), Due.UNKNOWN);
        due.is("deeds(0, 9, 0)", x.deeds(0, 9, 0), Due.OUTSIDE);
        due.is("deeds(0, -1, 0)", x.deeds(0, -1, 0), Due.OUTSIDE);
        due.is("deeds(0, 0, 2)", x.deeds(0, 0, 2), Due.OUTSIDE);
        due.is("deeds(0, 0, -1)", x.deeds(0, 0, -1), Due.OUTSIDE);
        PraiseDuels y = Due.meadow("d9 0 1 1 1 1;c0 1 1 7 6;c0 1 1 5 4;c0 1 1 0 1;c0 1 1 3 2;e0 2;");
        due.is("one DEED is enough", y.deeds(0, 1, 0), 1);
        due.is("the one that is left of two", y.deeds(0, 1, 1), 8);
        due.is("all", y.deeds(0, 4, 1), 251);
        due.is("all", y.deeds(0, 4, 0), 7);
        PraiseDuels z = Due.meadow("d9 0 1 1 1 1;c0 1 1 7 6;c0 1 1 5 4;c0 1 1 0 1;c0 1 1 3 2;");
        due.is("all 8", z.deeds(0, 4, 1), 255);
        due.is("all 8", z.deeds(0, 4, 0), 8);
        due.is("the least of like ones", z.deeds(0, 2, 1), 15);
    }

    private static void won(PraiseDuels x, int a, int b) {
        x.duel(a, b);
        x.say(0);
    }

    private static void drawn(PraiseDuels x, int a, int b) {
        x.duel(a, b);
        x.pass();
        x.pass();
    }

    private static void leagueIs(String when, PraiseDuels x, int once, int twice) {
        due.is(when + ": league(1)", x.league(1), once);
        due.is(when + ": league(2)", x.league(2), twice);
    }

    private static void leagueOfFew() {
        PraiseDuels x = Due.meadow("d1 0 9 9 9 9;");
        due.is("league(0)", x.league(0), Due.OUTSIDE);
        due.is("league(3)", x.league(3), Due.OUTSIDE);
        leagueIs("one", x, 1, 1);
        x = Due.meadow("d1 0 9 9 9 9;d1 0 9 9 9 9;c0 9 1 8 8;");
        leagueIs("two, none met", x, 3, 3);
        won(x, 1, 0);
        leagueIs("1 has won", x, 2, 3);
        won(x, 1, 0);
        leagueIs("1 has won twice", x, 2, 2);
        won(x, 0, 1);
        won(x, 0, 1);
        won(x, 0, 1);
        leagueIs("later ones do not count", x, 2, 2);
        due.is("points of all", x.duellist(0, 7), 6);
        due.is("points of all", x.duellist(1, 7), 4);
        x = Due.meadow("d1 0 9 9 9 9;d1 0 9 9 9 9;c0 9 1 8 8;");
        drawn(x, 1, 0);
        leagueIs("a draw", x, 3, 3);
        won(x, 0, 1);
        leagueIs("a draw, 0 has won", x, 3, 1);
        x.undo(1);
        won(x, 1, 0);
        leagueIs("a draw, 1 has won", x, 3, 2);
        x = Due.meadow("d1 0 9 9 9 9;d1 0 9 9 9 9;d1 0 9 9 9 9;c0 9 1 8 8;");
        won(x, 0, 1);
        won(x, 1, 2);
        leagueIs("two of three", x, 7, 7);
        won(x, 2, 0);
        leagueIs("in a ring", x, 7, 7);
        x.undo(1);
        won(x, 0, 2);
        leagueIs("0 has won all", x, 1, 7);
        won(x, 0, 1);
        leagueIs("6 points, 2 and 0", x, 1, 1);
    }

    private static void leagueOfFour() {
        PraiseDuels x = Due.meadow(QUICK);
        leagueIs("none met", x, 15, 15);
        won(x, 0, 1);
        won(x, 0, 2);
        leagueIs("0 has 4", x, 15, 15);
        won(x, 0, 3);
        leagueIs("0 has 6", x, 1, 15);
        x = Due.meadow(QUICK);
        won(x, 0, 1);
        won(x, 2, 0);
        won(x, 3, 0);
        leagueIs("2 or 3 must have 3, 0 has 2", x, 14, 15);
        x = Due.meadow(QUICK);
        won(x, 0, 1);
        drawn(x, 0, 2);
        drawn(x, 3, 0);
        leagueIs("0 has 4", x, 15, 15);
        x = Due.meadow(QUICK);
        drawn(x, 1, 0);
        won(x, 2, 0);
        won(x, 3, 0);
        leagueIs("0 has 1 and no more", x, 14, 15);
        won(x, 2, 1);
        won(x, 2, 3);
        leagueIs("2 has 6", x, 4, 15);
        leagueOfFourByOthers();
        won(x, 2, 0);
        won(x, 2, 1);
        won(x, 2, 3);
        leagueIs("2 has 12", x, 4, 4);
    }

    private static void leagueOfFourByOthers() {
        PraiseDuels x = Due.meadow(QUICK);
        won(x, 3, 2);
        won(x, 0, 3);
        won(x, 1, 3);
        leagueIs("0 or 1 must have 3, 3 has 2", x, 7, 15);
        x = Due.meadow(QUICK);
        won(x, 3, 0);
        won(x, 0, 3);
        won(x, 3, 1);
        won(x, 1, 3);
        drawn(x, 3, 2);
        won(x, 2, 3);
        leagueIs("3 has 5, the others 19 in the end", x, 12, 7);
        x = Due.meadow(QUICK);
        won(x, 2, 0);
        won(x, 0, 1);
        won(x, 0, 1);
        won(x, 0, 1);
        leagueIs("a third meeting counts for nobody", x, 15, 15);
        won(x, 3, 0);
        won(x, 3, 1);
        leagueIs("0 has 2, 2 has 2, 3 has 4", x, 12, 15);
    }

    private static void met() {
        PraiseDuels x = Due.meadow(QUICK);
        due.is("met(0, 4)", x.met(0, 4), Due.UNKNOWN);
        due.is("met(4, 0)", x.met(4, 0), Due.UNKNOWN);
        due.is("met(-1, 0)", x.met(-1, 0), Due.UNKNOWN);
        due.is("met(2, 2)", x.met(2, 2), Due.UNKNOWN);
        x.duel(3, 1);
        due.is("it goes on", x.met(3, 1), 0);
        x.say(0);
        drawn(x, 1, 3);
        won(x, 1, 3);
        won(x, 2, 3);
        due.is("met(3, 1)", x.met(3, 1), 3);
        due.is("met(1, 3)", x.met(1, 3), 3);
        due.is("met(3, 2)", x.met(3, 2), 1);
        due.is("met(2, 1)", x.met(2, 1), 0);
        due.is("met(0, 3)", x.met(0, 3), 0);
    }

    private static void shared() {
        PraiseDuels x = three();
        due.is("shared(0, 7)", x.shared(0, 7), 22);
        due.is("shared(0, 1)", x.shared(0, 1), 20);
        due.is("shared(0, 6)", x.shared(0, 6), 24);
        due.is("shared(2, 3)", x.shared(2, 3), 4);
        due.is("shared(1, 7)", x.shared(1, 7), 4);
        due.is("shared(0, 0)", x.shared(0, 0), 0);
        due.is("shared(6, 0)", x.shared(6, 0), Due.UNKNOWN);
        due.is("shared(-1, 0)", x.shared(-1, 0), Due.UNKNOWN);
        due.is("shared(0, 8)", x.shared(0, 8), Due.UNKNOWN);
        due.is("shared(0, 15)", x.shared(0, 15), Due.UNKNOWN);
        due.is("shared(0, 16)", x.shared(0, 16), Due.UNKNOWN);
        due.is("shared(0, -1)", x.shared(0, -1), Due.UNKNOWN);
        due.is("shared(0, MIN)", x.shared(0, Integer.MIN_VALUE), Due.UNKNOWN);
        x.duel(1, 0);
        x.say(0);
        due.is("first told", x.shared(0, 1), 20);
        due.is("four", Due.meadow(QUICK).shared(0, 15), 80);
    }

    private static void powder() {
        PraiseDuels x = three();
        due.is("powder(), no DUEL", x.powder(), Due.NOT);
        x.duel(1, 0);
        due.is("none", x.powder(), 2);
        x.say(3);
        due.is("the first one", x.powder(), 0);
        x.pass();
        due.is("the first one", x.powder(), 0);
        x.say(1);
        x.say(0);
        due.is("as many", x.powder(), 2);
        x.say(5);
        x.say(4);
        due.is("the other one", x.powder(), 1);
        x.undo(6);
        x.pass();
        x.pass();
        due.is("over", x.powder(), 2);
    }
}
