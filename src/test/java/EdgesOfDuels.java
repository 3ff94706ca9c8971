/** Promises 10 to 13: a DUEL begins, what is SAID, PASSES and APOLOGIES, and what section 2 of the terms says of them. */
final class EdgesOfDuels {
    // all COMPLIMENTS but c7 are FALSE of both
    private static final String FALSE_ONES = "d99 4 9 9 9 9;d99 3 9 9 9 9;c0 9 9 0 8;c0 9 9 0 8;c0 9 9 0 8;c0 9 9 0 8;"
            + "c0 9 9 0 8;c0 9 9 0 8;c0 9 9 0 8;c0 1 9 8 8;";
    private final Edges edges;

    EdgesOfDuels(Edges edges) {
        this.edges = edges;
    }

    void all() {
        duel();
        oneThatGoesOnIsLeft();
        beginning();
        cooling();
        saying();
        sayingRefused();
        fouls();
        lines();
        words();
        results();
        passing();
        apologizing();
        apologizingRefused();
    }

    private static PraiseDuels three() {
        return Due.meadow(MeadowTest.THREE);
    }

    // ---- promise 10

    private void duel() {
        PraiseDuels x = Due.meadow("d1 0 0 0 0 0;".repeat(4));
        edges.sentence(10, "A DUEL of two begins");
        edges.is("told(3) ahead", x.told(3), Due.NONE);
        edges.is("duel(0, 3)", x.duel(0, 3), 0);
        edges.is("the first one", x.told(3), 0);
        edges.is("the other one", x.told(4), 3);
        edges.sentence(10, "the first one.");
        edges.is("duel(3, 0)", x.duel(3, 0), 3);
        edges.is("duel(1, 2)", x.duel(1, 2), 1);
        edges.is("duel(2, 1)", x.duel(2, 1), 2);
        edges.sentence(10, "UNKNOWN.");
        edges.is("duel(-1, 0)", x.duel(-1, 0), Due.UNKNOWN);
        edges.is("duel(0, -1)", x.duel(0, -1), Due.UNKNOWN);
        edges.is("duel(4, 0)", x.duel(4, 0), Due.UNKNOWN);
        edges.is("duel(0, 4)", x.duel(0, 4), Due.UNKNOWN);
        edges.is("duel(MIN, MAX)", x.duel(Integer.MIN_VALUE, Integer.MAX_VALUE), Due.UNKNOWN);
        edges.is("duel(0, 2) of two", Due.meadow("d1 0 0 0 0 0;".repeat(2)).duel(0, 2), Due.UNKNOWN);
        edges.is("the DUEL is as it was", x.told(3), 2);
        edges.sentence(10, "one twice;");
        edges.is("duel(0, 0)", x.duel(0, 0), Due.UNKNOWN);
        edges.is("duel(3, 3)", x.duel(3, 3), Due.UNKNOWN);
        edges.is("the DUEL is as it was", x.told(4), 1);
    }

    private void oneThatGoesOnIsLeft() {
        edges.sentence(10, "(one that goes on is left, as if it had not been):");
        PraiseDuels x = three();
        x.duel(0, 1);
        x.say(3);
        x.say(0);
        x.duel(1, 0);
        edges.tells("a new one of the same two", x, 3, 6, 0, 1, 0, 0, 0, 1, 0, 0, 0, 0, 0);
        edges.has("nothing of it is left", x, 0, 7, 0, 0, 0, 0, 0, 0, 0, 0);
        edges.has("nothing of it is left", x, 1, 7, 0, 0, 0, 0, 0, 0, 0, 0);
        edges.is("met(0, 1)", x.met(0, 1), 0);
        edges.is("undo(1)", x.undo(1), Due.NOT);
        edges.is("what was said then can be said now", x.say(3), 0);
        x.pass();
        x.duel(0, 1);
        edges.is("a PASS then does not count now", x.pass(), 0);
        edges.is("told(12)", x.told(12), 1);
        x.pass();
        x.duel(0, 1);
        edges.is("one that was over stays in THE LEAGUE", x.met(0, 1), 1);
    }

    private void beginning() {
        edges.sentence(10, "A DUEL of two: the first one's turn first; BLUSHES, FOULS are 0.");
        PraiseDuels x = Due.meadow(FALSE_ONES);
        x.duel(1, 0);
        x.say(0);
        x.say(7);
        x.pass();
        x.pass();
        edges.has("over", x, 1, 8, 6, 1, 9, 1);
        x.duel(0, 1);
        edges.is("whose turn it is", x.told(7), 0);
        edges.has("anew", x, 0, 8, 0, 0, 0, 0);
        edges.has("anew", x, 1, 8, 0, 0, 0, 0);
        x.duel(1, 0);
        edges.is("whose turn it is", x.told(7), 1);
    }

    // ---- promise 11

    /** BLUSH of 9 by the first COMPLIMENT; it COOLS by so much in its next turn. */
    private void cools(int cool, int left) {
        PraiseDuels x = Due.meadow("d99 0 0 0 0 0;d99 " + cool + " 9 0 0 0;c0 1 1 8 8;");
        x.duel(0, 1);
        x.say(0);
        edges.is("BLUSH, COOL " + cool, x.duellist(1, 8), 9);
        x.pass();
        edges.is("COOLED by " + cool, x.duellist(1, 8), left);
    }

    private void cooling() {
        edges.sentence(11, "At each turn first the one whose turn it is COOLS: BLUSH is C less (0 at least).");
        cools(0, 9);
        cools(8, 1);
        cools(9, 0);
        cools(10, 0);
        cools(99, 0);
        PraiseDuels x = Due.meadow("d99 4 9 0 0 0;d99 3 9 0 0 0;c0 1 1 8 8;c0 2 1 8 8;c0 4 1 8 8;");
        x.duel(0, 1);
        edges.is("not less than 0 in the first turn", x.say(0), 0);
        edges.is("the one who speaks has none", x.duellist(0, 8), 0);
        edges.is("the other one does not COOL then", x.duellist(1, 8), 9);
        x.say(1);
        edges.is("the one who speaks COOLS", x.duellist(1, 8), 6);
        edges.is("18", x.duellist(0, 8), 18);
        x.pass();
        edges.is("the one who PASSES COOLS", x.duellist(0, 8), 14);
        edges.is("the other one does not", x.duellist(1, 8), 6);
        x.pass();
        edges.is("by the PASS that ends it, too", x.duellist(1, 8), 3);
    }

    private void saying() {
        edges.sentence(11, "Then that one SAYS a COMPLIMENT that was not said in this DUEL yet: the other one's BLUSH is EFFECT "
                + "more,");
        PraiseDuels x = Due.meadow(FALSE_ONES);
        x.duel(0, 1);
        x.say(7);
        edges.is("9 more", x.duellist(1, 8), 9);
        edges.is("not by who said it", x.say(7), Due.NOT);
        edges.sentence(11, "the TOPIC was told once more (by a FALSE one, too);");
        edges.is("once", x.duellist(1, 11), 1);
        x.pass();
        x.say(0);
        edges.is("by a FALSE one", x.duellist(1, 11), 2);
        edges.is("of no EFFECT", x.duellist(1, 8), 6);
        edges.is("not to who speaks", x.duellist(0, 11), 0);
        edges.sentence(11, "a FALSE one is a FOUL;");
        edges.is("of who speaks", x.duellist(0, 9), 1);
        edges.is("not of the other one", x.duellist(1, 9), 0);
        PraiseDuels y = Due.meadow("d99 0 1 1 1 1;d99 0 0 0 0 0;c0 1 1 0 1;c0 1 1 8 8;e1 1;");
        y.duel(0, 1);
        y.say(0);
        edges.is("HALF true is none", y.duellist(0, 9), 0);
        y.pass();
        y.say(1);
        edges.is("TRUE of no EFFECT is none", y.duellist(0, 9), 0);
    }

    private void sayingRefused() {
        edges.sentence(11, "UNKNOWN,");
        PraiseDuels x = Due.meadow(FALSE_ONES);
        edges.is("say(-1), no DUEL", x.say(-1), Due.UNKNOWN);
        edges.is("say(8), no DUEL", x.say(8), Due.UNKNOWN);
        x.duel(0, 1);
        edges.is("say(-1)", x.say(-1), Due.UNKNOWN);
        edges.is("say(8)", x.say(8), Due.UNKNOWN);
        edges.is("say(9)", x.say(9), Due.UNKNOWN);
        edges.is("say(MIN)", x.say(Integer.MIN_VALUE), Due.UNKNOWN);
        edges.is("say(MAX)", x.say(Integer.MAX_VALUE), Due.UNKNOWN);
        edges.is("no turn", x.told(6), 0);
        edges.sentence(11, "NOT: no DUEL that goes on,");
        edges.is("say(0), no DUEL", Due.meadow(FALSE_ONES).say(0), Due.NOT);
        x.pass();
        x.pass();
        edges.is("say(0), over", x.say(0), Due.NOT);
        edges.sentence(11, "said already.");
        x.duel(0, 1);
        edges.is("the greatest", x.say(7), 0);
        edges.is("said by the other one", x.say(7), Due.NOT);
        edges.is("the least", x.say(0), 0);
        edges.is("said by the other one", x.say(0), Due.NOT);
        edges.is("said by oneself", x.say(7), Due.NOT);
        edges.is("two turns", x.told(6), 2);
        edges.is("no COOLING by it", x.duellist(1, 8), 6);
        x.undo(1);
        edges.is("undone is not said", x.say(0), 0);
    }

    private void fouls() {
        edges.sentence(11, "by three FOULS one loses;");
        PraiseDuels x = Due.meadow(FALSE_ONES);
        x.duel(0, 1);
        edges.is("one of the first one", x.say(0), 0);
        edges.is("one of the other one", x.say(1), 0);
        edges.is("two", x.say(2), 0);
        edges.is("two", x.say(3), 0);
        edges.is("it goes on", x.told(7), 0);
        edges.is("three", x.say(4), 2);
        edges.is("FOULS", x.duellist(0, 9), 3);
        edges.is("points of who has won", x.duellist(1, 7), 2);
        edges.is("points of who has lost", x.duellist(0, 7), 0);
        x.undo(1);
        x.pass();
        edges.is("three of the other one", x.say(4), 1);
        edges.is("points of who has won", x.duellist(0, 7), 2);
        x.undo(3);
        x.pass();
        edges.is("one is forgiven", x.sorry(), 1);
        x.pass();
        edges.is("two again", x.say(5), 0);
        x.pass();
        edges.is("three", x.say(6), 2);
    }

    /** 9 are said to one whose LINE is so. */
    private int saidAtLine(int line) {
        PraiseDuels x = Due.meadow("d1 0 0 0 0 0;d" + line + " 0 9 0 0 0;c0 1 1 8 8;");
        x.duel(0, 1);
        return x.say(0);
    }

    private void lines() {
        edges.sentence(11, "else, if the other one's BLUSH is LINE or more, that one falls: who spoke has won.");
        edges.is("9, LINE 1", saidAtLine(1), 1);
        edges.is("9, LINE 8", saidAtLine(8), 1);
        edges.is("9, LINE 9", saidAtLine(9), 1);
        edges.is("9, LINE 10", saidAtLine(10), 0);
        edges.is("9, LINE 999", saidAtLine(999), 0);
        PraiseDuels x = Due.meadow("d9 5 9 9 9 9;d999 0 9 0 0 0;c0 1 1 8 8;c1 1 1 8 8;c2 1 1 0 8;");
        x.duel(1, 0);
        edges.is("the other one falls", x.say(0), 1);
        x.undo(1);
        x.pass();
        edges.is("the one whose LINE is 9 speaks", x.say(0), 0);
        edges.is("a FALSE one", x.say(2), 0);
        x.pass();
        edges.is("9 by a PASS between", x.say(1), 1);
        x.duel(0, 1);
        x.pass();
        edges.is("the first one falls", x.say(1), 2);
    }

    private void words() {
        edges.sentence(11, "WORDS of each grow by W of what one SAYS.");
        PraiseDuels x = Due.meadow("d99 0 0 0 0 0;d99 0 0 0 0 0;c0 1 1 8 8;c0 1 9 0 8;c0 1 4 8 8;");
        x.duel(0, 1);
        x.say(0);
        edges.is("1", x.duellist(0, 10), 1);
        edges.is("none yet", x.duellist(1, 10), 0);
        x.say(1);
        edges.is("9 by a FALSE one", x.duellist(1, 10), 9);
        x.say(2);
        edges.is("1 and 4", x.duellist(0, 10), 5);
        x.sorry();
        x.pass();
        edges.is("none by an apology", x.duellist(1, 10), 9);
        edges.is("none by a PASS", x.duellist(0, 10), 5);
    }

    private void results() {
        PraiseDuels x = Due.meadow("d9 0 9 9 9 9;d9 0 9 9 9 9;c0 1 1 8 8;c0 1 1 0 8;");
        x.duel(1, 0);
        edges.sentence(11, "A COMPLIMENT is SAID: RESULT.");
        edges.is("a FOUL", x.say(1), 0);
        edges.is("the other one has won", x.say(0), 2);
        edges.is("told(5)", x.told(5), 2);
        edges.sentence(11, "RESULTS: 0 it goes on, 1 the first one has won, 2 the other one, 3 a draw;");
        x.duel(1, 0);
        edges.is("told(5), a new one goes on", x.told(5), 0);
        x.say(0);
        edges.is("told(5), the first one", x.told(5), 1);
        x.duel(1, 0);
        x.pass();
        x.say(0);
        edges.is("told(5), the other one", x.told(5), 2);
        x.duel(1, 0);
        x.pass();
        x.pass();
        edges.is("told(5), a draw", x.told(5), 3);
        edges.sentence(11, "each DUEL that is over counts in THE LEAGUE: 2 points for who has won, 1 each by a draw.");
        edges.is("won twice as the other one, a draw", x.duellist(0, 7), 5);
        edges.is("won once, a draw", x.duellist(1, 7), 3);
        edges.is("met(0, 1)", x.met(0, 1), 4);
        x.duel(0, 1);
        x.pass();
        edges.is("one that goes on does not count", x.met(0, 1), 4);
        edges.is("points", x.duellist(0, 7), 5);
    }

    // ---- promises 12 and 13

    private void passing() {
        edges.sentence(12, "PASSES: RESULT.");
        PraiseDuels x = Due.meadow(FALSE_ONES);
        x.duel(0, 1);
        edges.is("the first PASS", x.pass(), 0);
        edges.is("the second PASS", x.pass(), 3);
        edges.sentence(12, "Or PASSES: two PASSES one behind the other are a draw.");
        edges.is("points of the first one", x.duellist(0, 7), 1);
        edges.is("points of the other one", x.duellist(1, 7), 1);
        x.duel(0, 1);
        x.pass();
        x.say(0);
        edges.is("one, what is SAID, one", x.pass(), 0);
        x.say(1);
        edges.is("again", x.pass(), 0);
        edges.is("two at last", x.pass(), 3);
        x.undo(1);
        x.say(7);
        edges.is("one, undone ones do not count", x.pass(), 0);
        edges.sentence(12, "NOT: no DUEL that goes on.");
        edges.is("no DUEL", Due.meadow(FALSE_ONES).pass(), Due.NOT);
        x.pass();
        edges.is("over by a draw", x.pass(), Due.NOT);
        edges.is("turns", x.told(6), 8);
        x.duel(0, 1);
        for (int c = 0; c < 5; c++) {
            x.say(c);
        }
        edges.is("over by FOULS", x.pass(), Due.NOT);
    }

    private void apologizing() {
        edges.sentence(13, "APOLOGIZES: FOULS left.");
        PraiseDuels x = Due.meadow(FALSE_ONES);
        x.duel(0, 1);
        x.say(0);
        x.say(7);
        x.say(1);
        x.pass();
        edges.is("of two", x.sorry(), 1);
        x.say(2);
        edges.is("of one", x.sorry(), 0);
        edges.is("of one of the other one", x.sorry(), 0);
        PraiseDuels y = Due.meadow(FALSE_ONES);
        y.duel(0, 1);
        y.say(7);
        y.say(0);
        y.pass();
        y.say(1);
        y.pass();
        edges.is("of two of the other one", y.sorry(), 1);
        edges.sentence(13, "Or APOLOGIZES, if one has FOULS: one FOUL less");
        edges.is("FOULS of the first one", x.duellist(0, 9), 0);
        edges.is("FOULS of the other one", x.duellist(1, 9), 0);
        edges.is("it COOLED by 4, thrice", x.duellist(0, 8), 0);
        edges.is("turns", x.told(6), 8);
        edges.sentence(13, "(it counts as no PASS; a PASS behind it, as behind what is SAID, is the first one again).");
        x.duel(0, 1);
        x.say(0);
        x.pass();
        edges.is("behind a PASS", x.sorry(), 0);
        edges.is("it goes on", x.told(5), 0);
        edges.is("told(12)", x.told(12), 0);
        edges.is("the first PASS behind it", x.pass(), 0);
        edges.is("told(12)", x.told(12), 1);
        x.say(1);
        edges.is("the first PASS behind what is SAID", x.pass(), 0);
        edges.is("told(12)", x.told(12), 1);
        edges.is("an apology between", x.sorry(), 0);
        edges.is("the first PASS behind it", x.pass(), 0);
        edges.is("the second one", x.pass(), 3);
    }

    private void apologizingRefused() {
        edges.sentence(13, "NOT: no DUEL that goes on,");
        PraiseDuels x = Due.meadow(FALSE_ONES);
        edges.is("no DUEL", x.sorry(), Due.NOT);
        x.duel(0, 1);
        x.say(0);
        x.say(1);
        x.pass();
        x.pass();
        edges.is("over, with FOULS", x.sorry(), Due.NOT);
        edges.is("FOULS", x.duellist(0, 9), 1);
        edges.sentence(13, "no FOULS (nothing changes then, one does not COOL either).");
        x.duel(0, 1);
        edges.is("a new DUEL", x.sorry(), Due.NOT);
        x.say(7);
        x.say(0);
        x.say(1);
        x.sorry();
        edges.is("FOULS of the other one", x.duellist(1, 9), 0);
        x.pass();
        x.undo(4);
        edges.is("one with BLUSH, the first one has no FOULS", x.sorry(), Due.NOT);
        edges.is("BLUSH", x.duellist(1, 8), 9);
        edges.is("turns", x.told(6), 1);
        x.pass();
        edges.is("FOULS are none", x.sorry(), Due.NOT);
        edges.is("told(12) stays", x.told(12), 1);
        edges.is("whose turn it is", x.told(7), 0);
        x.say(2);
        edges.is("the FOULS of the other one alone", x.sorry(), Due.NOT);
        edges.is("BLUSH", x.duellist(1, 8), 6);
    }
}
