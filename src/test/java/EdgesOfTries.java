/** Promises 18 to 25: what is TRIED from now, and what section 3 of the terms says of it. */
final class EdgesOfTries {
    // whoever speaks first wins
    private static final String QUICK = "d1 0 9 9 9 9;";
    private static final String SPEECH = "c0 9 1 8 8;";
    private final Edges edges;

    EdgesOfTries(Edges edges) {
        this.edges = edges;
    }

    void all() {
        bestOfFew();
        bestWithoutApologies();
        bestRefused();
        greatest();
        greatestRefused();
        hardened();
        hardenBounds();
        deeds();
        deedsBounds();
        leagueBounds();
        leagueOfFirstMeetings();
        leagueOfThoseLeft();
        leagueOfOthers();
        met();
        shared();
        sharedUnknown();
        powder();
        nothingChanges();
    }

    private static PraiseDuels three() {
        return Due.meadow(MeadowTest.THREE);
    }

    private void bestIs(String when, PraiseDuels x, int value, int turn) {
        edges.is(when + ": best(0)", x.best(0), value);
        edges.is(when + ": best(1)", x.best(1), turn);
    }

    // ---- promise 18

    private void bestOfFew() {
        edges.sentence(18, "BEST turn, where 5 COMPLIMENTS at most are unsaid");
        String line = "d9 0 1 1 1 1;d9 0 1 1 1 1;";
        for (int many = 1; many <= 5; many++) {
            PraiseDuels x = Due.meadow(line + "c0 1 1 8 8;".repeat(many - 1) + "c1 9 1 8 8;");
            x.duel(0, 1);
            bestIs(many + " are unsaid", x, 2, many - 1);
        }
        PraiseDuels six = Due.meadow(line + "c0 1 1 8 8;".repeat(5) + "c1 9 1 8 8;");
        six.duel(0, 1);
        edges.is("6 are unsaid: best(0)", six.best(0), Due.NOT);
        edges.is("6 are unsaid: best(1)", six.best(1), Due.NOT);
        six.say(0);
        bestIs("5 are left", six, 2, 5);
        edges.sentence(18, "by all play of both: 2 the one whose turn it is wins, 1 a draw, 0 it loses;");
        PraiseDuels x = Due.meadow("d10 0 5 0 0 0;d999 0 0 0 0 0;c0 2 1 8 8;c0 2 1 8 8;");
        x.duel(1, 0);
        edges.is("by either of two", x.best(0), 2);
        x.duel(0, 1);
        edges.is("the other one by either of two", x.best(0), 0);
        edges.is("one of them said", x.say(1), 0);
        edges.is("it wins as the other one, too", x.best(0), 2);
        x.pass();
        edges.is("a PASS ahead: the first one says it itself", x.best(0), 1);
        edges.sentence(18, "the first turn by which it is so (a COMPLIMENT; 8: to PASS).");
        bestIs("so that the other one can't", x, 1, 0);
        x.say(0);
        bestIs("nothing is unsaid", x, 1, 8);
        x.pass();
        bestIs("behind a PASS", x, 1, 8);
        x.duel(0, 1);
        bestIs("it loses by each: the first one", x, 0, 0);
        PraiseDuels y = Due.meadow("d999 0 0 0 0 0;d10 0 5 0 0 0;c1 1 1 8 8;c0 2 1 8 8;c1 1 1 8 8;");
        y.duel(0, 1);
        bestIs("a draw by the first, won by the second", y, 2, 1);
        y.duel(1, 0);
        bestIs("lost by the first, a draw by the second", y, 1, 1);
        y.say(1);
        bestIs("a draw by all that is unsaid: the first one", y, 1, 0);
        PraiseDuels z = Due.meadow("d999 0 0 0 0 0;d10 0 5 0 0 0;c1 1 1 8 8;c1 1 1 8 8;c0 2 1 8 8;c1 1 1 8 8;");
        z.duel(1, 0);
        bestIs("else the other one passes over the first that is left and says c2", z, 1, 2);
        PraiseDuels none = Due.meadow("d9 0 1 1 1 1;d9 0 1 1 1 1;");
        none.duel(1, 0);
        bestIs("there are no COMPLIMENTS", none, 1, 8);
    }

    /** c0 and c1 fell d0 by both; they are FALSE of d1, and d0 has two FOULS. */
    private void bestWithoutApologies() {
        edges.sentence(18, "(without APOLOGIES):");
        PraiseDuels x = Due.meadow("d10 0 5 5 0 0;d99 0 5 5 0 0;c0 1 1 0 8;c1 1 1 0 8;c2 1 1 0 8;c2 1 1 0 8;c3 1 1 8 8;e0 0;");
        x.duel(0, 1);
        x.say(2);
        x.pass();
        x.say(3);
        x.say(4);
        bestIs("a third FOUL, or both", x, 0, 0);
        x.sorry();
        x.say(0);
        bestIs("behind an apology", x, 1, 1);
    }

    private void bestRefused() {
        edges.sentence(18, "BEST: what = 0 what comes of it, 1 the turn.");
        PraiseDuels x = Due.meadow(QUICK.repeat(2) + "c1 1 1 0 8;" + SPEECH);
        x.duel(0, 1);
        edges.is("best(0)", x.best(0), 2);
        edges.is("best(1)", x.best(1), 1);
        edges.sentence(18, "OUTSIDE,");
        edges.is("best(-1)", x.best(-1), Due.OUTSIDE);
        edges.is("best(2)", x.best(2), Due.OUTSIDE);
        edges.is("best(MIN)", x.best(Integer.MIN_VALUE), Due.OUTSIDE);
        edges.is("best(MAX)", x.best(Integer.MAX_VALUE), Due.OUTSIDE);
        edges.sentence(18, "NOT: no DUEL that goes on,");
        edges.is("no DUEL", Due.meadow(QUICK).best(0), Due.NOT);
        x.say(1);
        edges.is("over: best(0)", x.best(0), Due.NOT);
        edges.is("over: best(1)", x.best(1), Due.NOT);
        edges.sentence(18, "more than 5 are unsaid.");
        PraiseDuels y = three();
        y.duel(0, 1);
        edges.is("6", y.best(0), Due.NOT);
        y.say(5);
        edges.is("5", y.best(0) >= 0 ? 1 : 0, 1);
        y.undo(1);
        edges.is("6 again", y.best(1), Due.NOT);
    }

    // ---- promise 19

    private void greatest() {
        edges.sentence(19, "GREATEST: the COMPLIMENT unsaid (not FALSE) with the greatest EFFECT on the other one now;");
        PraiseDuels x = Due.meadow("d999 0 9 9 9 9;d999 0 9 0 5 5;c0 5 1 8 8;c0 9 1 0 8;c0 4 1 8 8;c2 9 1 0 1;c1 9 1 8 8;e1 1;");
        x.duel(0, 1);
        edges.is("45", x.greatest(0), 0);
        edges.is("45", x.greatest(1), 45);
        x.say(0);
        edges.is("on 0 now: 81", x.greatest(0), 4);
        x.pass();
        edges.is("half of 45 is 22, 36 halved 18", x.greatest(0), 3);
        edges.is("half of 45", x.greatest(1), 22);
        edges.sentence(19, "of like ones the least;");
        x.vanity(1, 2, 4);
        edges.is("18 and 18", x.greatest(0), 2);
        edges.is("18 and 18", x.greatest(1), 18);
        edges.sentence(19, "NONE.");
        x.say(2);
        x.pass();
        x.say(3);
        x.pass();
        edges.is("of no EFFECT, but not FALSE: which", x.greatest(0), 4);
        edges.is("of no EFFECT, but not FALSE: EFFECT", x.greatest(1), 0);
        x.say(4);
        x.pass();
        edges.is("FALSE alone: which", x.greatest(0), Due.NONE);
        edges.is("FALSE alone: EFFECT", x.greatest(1), Due.NONE);
        x.say(1);
        edges.is("all are said: which", x.greatest(0), Due.NONE);
        edges.is("all are said: EFFECT", x.greatest(1), Due.NONE);
        x.duel(1, 0);
        edges.is("on the other one, 0", x.greatest(1), 81);
        x.pass();
        edges.is("on the first one, 1", x.greatest(1), 45);
        PraiseDuels none = Due.meadow(QUICK.repeat(2));
        none.duel(0, 1);
        edges.is("there are none: which", none.greatest(0), Due.NONE);
        edges.is("there are none: EFFECT", none.greatest(1), Due.NONE);
    }

    private void greatestRefused() {
        edges.sentence(19, "GREATEST: what = 0 which, 1 its EFFECT; NONE.");
        PraiseDuels x = Due.meadow(QUICK.repeat(2) + "c1 1 1 8 8;" + SPEECH);
        x.duel(0, 1);
        edges.is("greatest(0)", x.greatest(0), 1);
        edges.is("greatest(1)", x.greatest(1), 81);
        edges.sentence(19, "OUTSIDE,");
        edges.is("greatest(-1)", x.greatest(-1), Due.OUTSIDE);
        edges.is("greatest(2)", x.greatest(2), Due.OUTSIDE);
        edges.is("greatest(MIN)", x.greatest(Integer.MIN_VALUE), Due.OUTSIDE);
        edges.is("greatest(MAX)", x.greatest(Integer.MAX_VALUE), Due.OUTSIDE);
        edges.sentence(19, "NOT: no DUEL that goes on.");
        edges.is("no DUEL", three().greatest(0), Due.NOT);
        x.say(1);
        edges.is("over: which", x.greatest(0), Due.NOT);
        edges.is("over: EFFECT", x.greatest(1), Due.NOT);
    }

    // ---- promise 20

    private void hardened() {
        edges.sentence(20, "HARDENED: so that no COMPLIMENT that is TRUE of one has an EFFECT of v (1 .. 99) or more, first told,");
        PraiseDuels x = Due.meadow("d9 0 9 9 9 9;d9 0 0 0 0 0;c0 9 1 8 8;c1 4 1 0 8;c1 9 1 0 7;c2 9 1 1 8;c3 1 1 8 8;c3 3 1 8 8;"
                + "e0 0;");
        edges.is("v 1, the least: all VANITIES of TRUE ones are 0", x.harden(0, 1, 1, 0), 9);
        edges.is("81 is not less than 81", x.harden(0, 81, 1, 0), 1);
        edges.is("81 is less than 82", x.harden(0, 82, 1, 0), 0);
        edges.is("v 99, the greatest", x.harden(0, 99, 1, 0), 0);
        edges.is("9 by 9", x.harden(0, 9, 1, 0), 9);
        edges.is("9 by 10", x.harden(0, 10, 1, 0), 8);
        edges.is("HALF true ones are none: 4 by 36", x.harden(0, 36, 1, 1), 1);
        edges.is("HALF true ones are none: 4 by 37", x.harden(0, 37, 1, 1), 0);
        edges.is("FALSE ones are none", x.harden(0, 1, 1, 2), 0);
        edges.is("of two the greater: 3 by 10", x.harden(0, 10, 1, 3), 6);
        edges.is("of two the greater: 1 by 1", x.harden(0, 1, 1, 3), 9);
        edges.is("no VANITIES", x.harden(1, 1, 1, 0), 0);
        x.duel(1, 0);
        x.say(0);
        edges.is("first told", x.harden(0, 81, 1, 0), 1);
        edges.sentence(20, "VANITIES must be less: each by 1 costs p (1 .. 9) times one more than the number of its TOPIC:");
        edges.is("TOPIC 0 by 1, p 1", x.harden(0, 80, 1, -1), 1);
        edges.is("TOPIC 0 by 1, p 9", x.harden(0, 80, 9, -1), 9);
        x.vanity(0, 0, 0);
        edges.is("TOPIC 1 by 1, p 9", x.harden(0, 36, 9, -1), 18);
        x.vanity(0, 1, 0);
        edges.is("TOPIC 3 by 1, p 9", x.harden(0, 27, 9, -1), 36);
        x.act(0, 1);
        x.vanity(0, 3, 0);
        edges.is("TOPIC 2 by 9, p 9", x.harden(0, 1, 9, -1), 243);
        edges.sentence(20, "the least cost; by how much each.");
        PraiseDuels y = Due.meadow(QUICK + "c0 1 1 8 8;c1 1 1 8 8;c2 1 1 8 8;c3 1 1 8 8;");
        edges.is("all by 9, p 9, the greatest cost", y.harden(0, 1, 9, -1), 810);
        edges.is("nothing is to be less", y.harden(0, 10, 9, -1), 0);
        edges.is("VANITIES stay", x.duellist(0, 4), 9);
    }

    private void hardenBounds() {
        PraiseDuels x = three();
        edges.sentence(20, "HARDENED: topic = NONE the cost, else by how much.");
        edges.is("harden(0, 10, 2, -1)", x.harden(0, 10, 2, -1), 50);
        int[] each = {3, 1, 0, 5};
        for (int topic = 0; topic < 4; topic++) {
            edges.is("harden(0, 10, 2, " + topic + ")", x.harden(0, 10, 2, topic), each[topic]);
        }
        edges.sentence(20, "UNKNOWN,");
        edges.is("harden(-1, 1, 1, 0)", x.harden(-1, 1, 1, 0), Due.UNKNOWN);
        edges.is("harden(3, 1, 1, 0)", x.harden(3, 1, 1, 0), Due.UNKNOWN);
        edges.is("harden(MIN, 1, 1, -1)", x.harden(Integer.MIN_VALUE, 1, 1, -1), Due.UNKNOWN);
        edges.sentence(20, "OUTSIDE.");
        edges.is("harden(0, 0, 1, 0)", x.harden(0, 0, 1, 0), Due.OUTSIDE);
        edges.is("harden(0, 1, 1, 0)", x.harden(0, 1, 1, 0), 4);
        edges.is("harden(0, 99, 1, 0)", x.harden(0, 99, 1, 0), 0);
        edges.is("harden(0, 100, 1, 0)", x.harden(0, 100, 1, 0), Due.OUTSIDE);
        edges.is("harden(0, 1, 0, 0)", x.harden(0, 1, 0, 0), Due.OUTSIDE);
        edges.is("harden(0, 1, 9, 0)", x.harden(0, 1, 9, 0), 4);
        edges.is("harden(0, 1, 10, 0)", x.harden(0, 1, 10, 0), Due.OUTSIDE);
        edges.is("harden(0, 1, 1, -2)", x.harden(0, 1, 1, -2), Due.OUTSIDE);
        edges.is("harden(0, 1, 1, 4)", x.harden(0, 1, 1, 4), Due.OUTSIDE);
        edges.is("harden(0, MIN, 1, -1)", x.harden(0, Integer.MIN_VALUE, 1, -1), Due.OUTSIDE);
        edges.is("harden(0, 1, MAX, -1)", x.harden(0, 1, Integer.MAX_VALUE, -1), Due.OUTSIDE);
        edges.is("harden(0, 1, 1, MIN)", x.harden(0, 1, 1, Integer.MIN_VALUE), Due.OUTSIDE);
    }

    // ---- promise 21

    private void deeds() {
        edges.sentence(21, "DEEDS to be done by one so that m COMPLIMENTS (0 .. 8) or more are TRUE of it: the fewest;");
        PraiseDuels x = Due.meadow("d1 0 0 0 0 0;d1 0 0 0 0 0;c0 1 1 8 8;c0 1 1 0 1;c0 1 1 2 3;c0 1 1 4 5;c0 1 1 6 7;c0 1 1 7 7;"
                + "c0 1 1 8 7;c0 1 1 3 8;e1 7;");
        int[] fewest = {0, 0, 1, 1, 2, 3, 4, 6, 8};
        for (int m = 0; m <= 8; m++) {
            edges.is("deeds(0, " + m + ", 0)", x.deeds(0, m, 0), fewest[m]);
        }
        edges.is("m is 3 and more is so", x.deeds(1, 2, 0), 0);
        edges.sentence(21, "which (a SET; of like ones the least);");
        edges.is("none are needed", x.deeds(0, 0, 1), 0);
        edges.is("none are needed", x.deeds(0, 1, 1), 0);
        edges.is("3 or 7: 3", x.deeds(0, 2, 1), 8);
        edges.is("7 alone makes two", x.deeds(0, 3, 1), 128);
        edges.is("3 and 7", x.deeds(0, 4, 1), 136);
        edges.is("2, 3 and 7", x.deeds(0, 5, 1), 140);
        edges.is("and 6", x.deeds(0, 6, 1), 204);
        edges.is("and 0 and 1", x.deeds(0, 7, 1), 207);
        edges.is("all", x.deeds(0, 8, 1), 255);
        edges.is("what is done is not in it", x.deeds(1, 8, 1), 127);
        edges.sentence(21, "DEEDS: what = 0 how many, 1 which; NONE.");
        edges.is("deeds(1, 8, 0)", x.deeds(1, 8, 0), 7);
        edges.is("of six: deeds(0, 6, 0)", three().deeds(0, 6, 0), 3);
        edges.is("of six: deeds(0, 7, 0)", three().deeds(0, 7, 0), Due.NONE);
        edges.is("of six: deeds(0, 7, 1)", three().deeds(0, 7, 1), Due.NONE);
        PraiseDuels none = Due.meadow(QUICK);
        edges.is("of none: deeds(0, 0, 0)", none.deeds(0, 0, 0), 0);
        edges.is("of none: deeds(0, 0, 1)", none.deeds(0, 0, 1), 0);
        edges.is("of none: deeds(0, 1, 0)", none.deeds(0, 1, 0), Due.NONE);
        edges.is("of none: deeds(0, 1, 1)", none.deeds(0, 1, 1), Due.NONE);
    }

    private void deedsBounds() {
        PraiseDuels x = three();
        edges.sentence(21, "UNKNOWN,");
        edges.is("deeds(-1, 0, 0)", x.deeds(-1, 0, 0), Due.UNKNOWN);
        edges.is("deeds(3, 0, 0)", x.deeds(3, 0, 0), Due.UNKNOWN);
        edges.is("deeds(MAX, 0, 0)", x.deeds(Integer.MAX_VALUE, 0, 0), Due.UNKNOWN);
        edges.sentence(21, "OUTSIDE.");
        edges.is("deeds(0, -1, 0)", x.deeds(0, -1, 0), Due.OUTSIDE);
        edges.is("deeds(0, 8, 0)", x.deeds(0, 8, 0), Due.NONE);
        edges.is("deeds(0, 9, 0)", x.deeds(0, 9, 0), Due.OUTSIDE);
        edges.is("deeds(0, 0, -1)", x.deeds(0, 0, -1), Due.OUTSIDE);
        edges.is("deeds(0, 0, 2)", x.deeds(0, 0, 2), Due.OUTSIDE);
        edges.is("deeds(0, MIN, 0)", x.deeds(0, Integer.MIN_VALUE, 0), Due.OUTSIDE);
        edges.is("deeds(0, 0, MAX)", x.deeds(0, 0, Integer.MAX_VALUE), Due.OUTSIDE);
    }

    // ---- promises 22 and 23

    private static void won(PraiseDuels x, int a, int b) {
        x.duel(a, b);
        x.say(0);
    }

    private static void drawn(PraiseDuels x, int a, int b) {
        x.duel(a, b);
        x.pass();
        x.pass();
    }

    private void leagueBounds() {
        edges.sentence(22, "OUTSIDE (g 1, 2).");
        PraiseDuels x = Due.meadow(QUICK.repeat(4));
        edges.is("league(0)", x.league(0), Due.OUTSIDE);
        edges.is("league(1)", x.league(1), 15);
        edges.is("league(2)", x.league(2), 15);
        edges.is("league(3)", x.league(3), Due.OUTSIDE);
        edges.is("league(-1)", x.league(-1), Due.OUTSIDE);
        edges.is("league(MIN)", x.league(Integer.MIN_VALUE), Due.OUTSIDE);
        edges.is("league(MAX)", x.league(Integer.MAX_VALUE), Due.OUTSIDE);
        edges.sentence(22, "LEAGUE.");
        edges.is("of nobody, once", new PraiseDuels().league(1), 0);
        edges.is("of nobody, twice", new PraiseDuels().league(2), 0);
        edges.is("of one, once", Due.meadow(QUICK).league(1), 1);
        edges.is("of one, twice", Due.meadow(QUICK).league(2), 1);
    }

    private void leagueOfFirstMeetings() {
        edges.sentence(22, "LEAGUE: each two meet g times (1, 2) in all;");
        PraiseDuels x = Due.meadow(QUICK.repeat(2) + SPEECH);
        won(x, 1, 0);
        edges.is("1 has won: once", x.league(1), 2);
        edges.is("1 has won: twice", x.league(2), 3);
        won(x, 1, 0);
        edges.is("1 has won both", x.league(2), 2);
        edges.sentence(22, "DUELS that were count (of each two the first g that were over; later ones, their points, do not);");
        won(x, 0, 1);
        won(x, 0, 1);
        won(x, 0, 1);
        edges.is("later ones: once", x.league(1), 2);
        edges.is("later ones: twice", x.league(2), 2);
        edges.is("points of 0", x.duellist(0, 7), 6);
        PraiseDuels y = Due.meadow(QUICK.repeat(2) + SPEECH);
        won(y, 0, 1);
        won(y, 1, 0);
        edges.is("the second one is later, once", y.league(1), 1);
        edges.is("one each, twice", y.league(2), 3);
        y.undo(1);
        drawn(y, 1, 0);
        edges.is("won and drawn, the undone one does not count", y.league(2), 1);
        y.duel(1, 0);
        edges.is("one that goes on does not count", y.league(1), 1);
        won(y, 1, 0);
        y.undo(1);
        edges.is("a later one undone", y.league(2), 1);
        PraiseDuels z = Due.meadow(QUICK.repeat(3) + SPEECH);
        won(z, 0, 1);
        won(z, 1, 0);
        edges.is("a second one, the third DUELLIST has none", z.league(1), 7);
        PraiseDuels v = Due.meadow(QUICK.repeat(3) + SPEECH);
        won(v, 2, 0);
        won(v, 0, 1);
        won(v, 0, 1);
        won(v, 0, 1);
        edges.is("a third one does not count for others: 2 and 0 have 2, 1 may have 2", v.league(1), 7);
        won(v, 2, 1);
        edges.is("2 has 4", v.league(1), 4);
    }

    private void leagueOfThoseLeft() {
        edges.sentence(22, "those that are left may end in each way:");
        PraiseDuels x = Due.meadow(QUICK.repeat(4) + SPEECH);
        won(x, 1, 0);
        won(x, 2, 0);
        edges.is("0 has none, 2 at most: 1, 2 and 3 share 8 by others", x.league(1), 14);
        PraiseDuels y = Due.meadow(QUICK.repeat(4) + SPEECH);
        won(y, 1, 0);
        drawn(y, 2, 0);
        edges.is("3 and the draws of the others: 0 has 3", y.league(1), 15);
        drawn(y, 1, 2);
        edges.is("1 has 3 already, and 0 may have 3", y.league(1), 15);
        drawn(y, 1, 3);
        edges.is("1 has 4, 0 may have 3", y.league(1), 2 + 4 + 8);
        edges.sentence(22, "who can have no fewer points than any other one in the end (a SET).");
        won(y, 0, 3);
        edges.is("1 has 4, 2 may have 4", y.league(1), 6);
        drawn(y, 3, 2);
        edges.is("1 has 4, 2 has 3", y.league(1), 2);
        PraiseDuels z = Due.meadow(QUICK.repeat(3) + SPEECH);
        won(z, 0, 1);
        won(z, 1, 2);
        won(z, 2, 0);
        edges.is("as many as each other one", z.league(1), 7);
    }

    /** Who has ended but for the others: what these have left must fall somewhere. */
    private void leagueOfOthers() {
        edges.sentence(22, "those that are left may end in each way:");
        PraiseDuels x = Due.meadow(QUICK.repeat(3) + SPEECH);
        drawn(x, 2, 0);
        won(x, 0, 2);
        won(x, 2, 1);
        won(x, 1, 2);
        edges.is("2 has 3, 0 has 3, 1 has 2, and 4 more", x.league(2), 3);
        PraiseDuels y = Due.meadow(QUICK.repeat(4) + SPEECH);
        won(y, 3, 0);
        won(y, 0, 3);
        won(y, 3, 1);
        won(y, 1, 3);
        drawn(y, 3, 2);
        won(y, 2, 3);
        edges.is("3 has 5, the others 7 and 12 more", y.league(2), 7);
        y.undo(1);
        y.pass();
        won(y, 3, 2);
        edges.is("3 has 7, the others 5 and 12 more", y.league(2), 15);
    }

    private void met() {
        edges.sentence(23, "How many DUELS of two are over (either one first).");
        PraiseDuels x = Due.meadow(QUICK.repeat(4) + SPEECH);
        edges.is("none", x.met(2, 3), 0);
        x.duel(3, 2);
        x.pass();
        edges.is("one that goes on", x.met(2, 3), 0);
        x.pass();
        edges.is("one", x.met(2, 3), 1);
        won(x, 2, 3);
        won(x, 3, 2);
        won(x, 2, 3);
        edges.is("four, more than count", x.met(2, 3), 4);
        edges.is("the other one first", x.met(3, 2), 4);
        edges.is("another two", x.met(0, 1), 0);
        edges.is("another two", x.met(1, 2), 0);
        edges.sentence(23, "UNKNOWN.");
        edges.is("met(-1, 0)", x.met(-1, 0), Due.UNKNOWN);
        edges.is("met(0, -1)", x.met(0, -1), Due.UNKNOWN);
        edges.is("met(4, 0)", x.met(4, 0), Due.UNKNOWN);
        edges.is("met(0, 4)", x.met(0, 4), Due.UNKNOWN);
        edges.is("met(MIN, MAX)", x.met(Integer.MIN_VALUE, Integer.MAX_VALUE), Due.UNKNOWN);
        edges.is("met(2, 3) of three", Due.meadow(QUICK.repeat(3)).met(2, 3), Due.UNKNOWN);
        edges.sentence(23, "one twice;");
        edges.is("met(0, 0)", x.met(0, 0), Due.UNKNOWN);
        edges.is("met(3, 3)", x.met(3, 3), Due.UNKNOWN);
    }

    // ---- promises 24 and 25

    private void shared() {
        edges.sentence(24, "SHARED: a COMPLIMENT said to all of a SET at once (0 to 15): EFFECTS, first told, parted: each has its "
                + "own / how many there are: together.");
        PraiseDuels x = Due.meadow("d99 0 7 0 0 0;d99 0 5 0 0 0;d99 0 3 0 0 0;d99 0 9 0 0 0;c0 1 1 8 8;c0 9 1 8 8;c0 9 1 0 1;e3 0;");
        edges.is("nobody", x.shared(1, 0), 0);
        edges.is("one", x.shared(1, 1), 63);
        edges.is("the last one", x.shared(1, 8), 81);
        edges.is("7 / 2 and 5 / 2", x.shared(0, 3), 5);
        edges.is("7 / 4, 5 / 4, 3 / 4, 9 / 4", x.shared(0, 15), 4);
        edges.is("63 / 4, 45 / 4, 27 / 4, 81 / 4", x.shared(1, 15), 52);
        edges.is("FALSE ones are counted: 40 / 4", x.shared(2, 15), 10);
        x.duel(1, 0);
        x.say(0);
        edges.is("first told", x.shared(1, 1), 63);
    }

    private void sharedUnknown() {
        edges.sentence(24, "SHARED.");
        PraiseDuels x = three();
        edges.is("shared(0, 7)", x.shared(0, 7), 22);
        edges.sentence(24, "UNKNOWN.");
        edges.is("shared(-1, 0)", x.shared(-1, 0), Due.UNKNOWN);
        edges.is("shared(6, 0)", x.shared(6, 0), Due.UNKNOWN);
        edges.is("shared(MAX, 0)", x.shared(Integer.MAX_VALUE, 0), Due.UNKNOWN);
        edges.sentence(24, "bits of such)");
        edges.is("shared(0, 8) of three", x.shared(0, 8), Due.UNKNOWN);
        edges.is("shared(0, 9) of three", x.shared(0, 9), Due.UNKNOWN);
        edges.is("shared(0, 15) of three", x.shared(0, 15), Due.UNKNOWN);
        edges.is("shared(0, 16)", x.shared(0, 16), Due.UNKNOWN);
        edges.is("shared(0, 17)", x.shared(0, 17), Due.UNKNOWN);
        edges.is("shared(0, -1)", x.shared(0, -1), Due.UNKNOWN);
        edges.is("shared(0, MIN)", x.shared(0, Integer.MIN_VALUE), Due.UNKNOWN);
        edges.is("shared(0, MAX)", x.shared(0, Integer.MAX_VALUE), Due.UNKNOWN);
        edges.is("shared(0, 16) of four", Due.meadow(QUICK.repeat(4) + SPEECH).shared(0, 16), Due.UNKNOWN);
        edges.is("shared(0, 15) of four", Due.meadow(QUICK.repeat(4) + SPEECH).shared(0, 15), 80);
    }

    private void powder() {
        edges.sentence(25, "POWDER: who said more WORDS in this DUEL (0 the first one, 1 the other one, 2 as many).");
        PraiseDuels x = Due.meadow("d99 0 0 0 0 0;d99 0 0 0 0 0;c0 1 2 8 8;c0 1 3 8 8;c0 1 1 8 8;c0 1 1 8 8;");
        x.duel(1, 0);
        edges.is("none of both", x.powder(), 2);
        x.say(0);
        edges.is("2 and 0", x.powder(), 0);
        x.say(1);
        edges.is("2 and 3", x.powder(), 1);
        x.say(2);
        edges.is("3 and 3", x.powder(), 2);
        x.say(3);
        edges.is("3 and 4", x.powder(), 1);
        x.duel(0, 1);
        x.say(1);
        x.say(0);
        edges.is("3 and 2", x.powder(), 0);
        x.pass();
        x.say(2);
        edges.is("3 and 3", x.powder(), 2);
        x.say(3);
        edges.is("4 and 3", x.powder(), 0);
        x.pass();
        x.pass();
        edges.sentence(25, "POWDER.");
        edges.is("over", x.powder(), 0);
        x.duel(1, 0);
        edges.is("a new DUEL", x.powder(), 2);
        edges.sentence(25, "NOT: no DUEL.");
        edges.is("no DUEL", three().powder(), Due.NOT);
    }

    private void nothingChanges() {
        edges.sentence(22, "TRIED from now; nothing changes by it.");
        PraiseDuels x = Due.meadow("d30 3 4 2 0 9;d40 5 1 5 3 2;c0 5 3 8 8;c1 6 2 0 8;c3 2 1 8 8;e0 0;");
        x.duel(0, 1);
        x.say(1);
        x.say(0);
        for (int what = 0; what < 2; what++) {
            x.best(what);
            x.greatest(what);
            x.deeds(1, 3, what);
            x.league(what + 1);
        }
        x.harden(0, 1, 1, -1);
        x.shared(0, 3);
        x.powder();
        edges.tells("as it was", x, 2, 3, 0, 0, 1, 0, 2, 0, 3, 0, 0, 0, 0);
        edges.has("as it was", x, 0, 2, 4, 2, 0, 9, 1, 0, 20, 1, 2, 1, 0, 0, 0);
        edges.has("as it was", x, 1, 2, 1, 5, 3, 2, 0, 0, 0, 0, 3, 0, 1, 0, 0);
        edges.is("the SEED", x.seed(0), 0);
        edges.is("undo(2)", x.undo(2), 0);
    }
}
