/** Promises 14 to 17: turns undone, DEEDS, VANITIES, turns BY DRAWS. */
final class EdgesOfTurns {
    private static final String PLAIN = "d999 4 9 9 9 9;d999 3 9 9 9 9;";
    private final Edges edges;

    EdgesOfTurns(Edges edges) {
        this.edges = edges;
    }

    void all() {
        undo();
        allAreKept();
        undoneInTheLeague();
        undoRefused();
        act();
        vanity();
        draws();
        seedGoesRound();
        turnsByDraws();
        driftRefused();
    }

    private static PraiseDuels three() {
        return Due.meadow(MeadowTest.THREE);
    }

    // ---- promise 14

    private void undo() {
        edges.sentence(14, "The n latest turns (1 .. 60) are undone: turns.");
        PraiseDuels x = three();
        x.duel(0, 1);
        x.say(3);
        x.say(0);
        x.pass();
        x.say(4);
        edges.is("the least", x.undo(1), 3);
        edges.tells("one undone", x, 3, 6, 0, 0, 1, 0, 3, 1, 9, 0, 0, 0, 1);
        edges.is("two of three", x.undo(2), 1);
        edges.has("one is left", x, 0, 8, 0, 0, 1, 0, 0, 0, 0);
        edges.has("one is left", x, 1, 8, 4, 0, 0, 0, 0, 0, 1);
        edges.is("the last one", x.undo(1), 0);
        edges.tells("none is left", x, 3, 6, 0, 0, 1, 0, 0, 0, 0, 0, 0, 0, 0);
        edges.has("none is left", x, 1, 8, 0, 0, 0, 0, 0, 0, 0);
    }

    private void allAreKept() {
        edges.sentence(14, "UNDONE: turns of this DUEL (all are kept),");
        PraiseDuels x = Due.meadow(PLAIN + "c0 1 1 0 8;".repeat(8));
        x.duel(0, 1);
        for (int c = 0; c < 8; c++) {
            x.pass();
            x.say(c);
            x.pass();
            x.sorry();
        }
        x.pass();
        edges.is("the longest DUEL is a draw", x.pass(), 3);
        edges.is("its turns", x.told(6), 34);
        edges.is("one more than all", x.undo(35), Due.NOT);
        edges.is("all", x.undo(34), 0);
        edges.tells("all undone", x, 2, 8, 0, 0, 1, 0, 0, 0, 0, 0, 0, 0, 0);
        edges.is("nothing more", x.undo(1), Due.NOT);
        x.say(0);
        x.act(0, 0);
        x.act(1, 0);
        x.vanity(0, 0, 1);
        x.vanity(1, 0, 1);
        x.say(1);
        edges.is("by the DEEDS of then", x.undo(1), 1);
        edges.is("the FOUL stays", x.duellist(0, 9), 1);
    }

    private void undoneInTheLeague() {
        edges.sentence(14, "with what counted in THE LEAGUE;");
        PraiseDuels x = Due.meadow("d9 0 9 0 0 0;d9 0 9 0 0 0;c0 1 1 8 8;");
        x.duel(1, 0);
        x.say(0);
        edges.is("points", x.duellist(1, 7), 2);
        x.duel(0, 1);
        x.say(0);
        edges.is("points", x.duellist(0, 7), 2);
        x.undo(1);
        edges.is("undone: points", x.duellist(0, 7), 0);
        edges.is("the other DUEL stays: points", x.duellist(1, 7), 2);
        edges.is("met(0, 1)", x.met(0, 1), 1);
        edges.is("league(1)", x.league(1), 2);
        x.pass();
        x.pass();
        edges.is("a draw: points", x.duellist(0, 7), 1);
        edges.is("a draw: points", x.duellist(1, 7), 3);
        edges.is("both PASSES", x.undo(2), 0);
        edges.is("undone: points", x.duellist(0, 7), 0);
        edges.is("undone: points", x.duellist(1, 7), 2);
        x.pass();
        x.undo(1);
        edges.is("what goes on had not counted", x.met(0, 1), 1);
        edges.sentence(14, "not THE SEED.");
        x.drift(1);
        x.undo(1);
        edges.is("seed(0)", x.seed(0), 12345);
    }

    private void undoRefused() {
        edges.sentence(14, "OUTSIDE,");
        PraiseDuels x = three();
        edges.is("undo(0), no DUEL", x.undo(0), Due.OUTSIDE);
        edges.is("undo(61), no DUEL", x.undo(61), Due.OUTSIDE);
        edges.is("undo(-1)", x.undo(-1), Due.OUTSIDE);
        edges.is("undo(MIN)", x.undo(Integer.MIN_VALUE), Due.OUTSIDE);
        edges.is("undo(MAX)", x.undo(Integer.MAX_VALUE), Due.OUTSIDE);
        edges.sentence(14, "NOT: not so many,");
        x.duel(0, 1);
        edges.is("undo(1), no turn", x.undo(1), Due.NOT);
        x.pass();
        edges.is("undo(2), one turn", x.undo(2), Due.NOT);
        edges.is("undo(60), one turn", x.undo(60), Due.NOT);
        edges.is("turns", x.told(6), 1);
        edges.is("undo(1), one turn", x.undo(1), 0);
        edges.sentence(14, "no DUEL.");
        edges.is("undo(1)", three().undo(1), Due.NOT);
        edges.is("undo(60)", three().undo(60), Due.NOT);
    }

    // ---- promises 15 and 16

    private void act() {
        edges.sentence(15, "A DEED (0 .. 7) is done by one: DEEDS (a SET).");
        PraiseDuels x = three();
        edges.is("the greatest", x.act(1, 7), 130);
        edges.is("the least", x.act(1, 0), 131);
        edges.is("one that was done ahead", x.act(1, 1), 131);
        for (int n = 2; n < 7; n++) {
            x.act(1, n);
        }
        edges.is("all", x.act(1, 7), 255);
        edges.is("duellist(1, 6)", x.duellist(1, 6), 255);
        edges.is("the others'", x.duellist(0, 6), 1);
        edges.sentence(15, "UNKNOWN,");
        edges.is("act(-1, 0)", x.act(-1, 0), Due.UNKNOWN);
        edges.is("act(3, 0)", x.act(3, 0), Due.UNKNOWN);
        edges.is("act(MIN, 0)", x.act(Integer.MIN_VALUE, 0), Due.UNKNOWN);
        edges.sentence(15, "OUTSIDE.");
        edges.is("act(0, -1)", x.act(0, -1), Due.OUTSIDE);
        edges.is("act(0, 8)", x.act(0, 8), Due.OUTSIDE);
        edges.is("act(0, 32)", x.act(0, 32), Due.OUTSIDE);
        edges.is("act(0, MAX)", x.act(0, Integer.MAX_VALUE), Due.OUTSIDE);
        edges.is("DEEDS stay", x.duellist(0, 6), 1);
    }

    private void vanity() {
        edges.sentence(16, "The VANITY of a TOPIC (0 .. 3) becomes v (0 .. 9): what it was.");
        PraiseDuels x = three();
        edges.is("the least TOPIC", x.vanity(0, 0, 0), 4);
        edges.is("the greatest TOPIC", x.vanity(0, 3, 0), 9);
        edges.is("the least v", x.vanity(0, 3, 9), 0);
        edges.is("the greatest v", x.vanity(0, 3, 9), 9);
        edges.has("VANITIES", x, 0, 2, 0, 2, 0, 9);
        edges.has("the others'", x, 1, 2, 1, 5, 3, 2);
        edges.sentence(16, "UNKNOWN,");
        edges.is("vanity(-1, 0, 0)", x.vanity(-1, 0, 0), Due.UNKNOWN);
        edges.is("vanity(3, 0, 0)", x.vanity(3, 0, 0), Due.UNKNOWN);
        edges.is("vanity(MAX, 0, 0)", x.vanity(Integer.MAX_VALUE, 0, 0), Due.UNKNOWN);
        edges.sentence(16, "OUTSIDE.");
        edges.is("vanity(1, -1, 0)", x.vanity(1, -1, 0), Due.OUTSIDE);
        edges.is("vanity(1, 4, 0)", x.vanity(1, 4, 0), Due.OUTSIDE);
        edges.is("vanity(1, 0, -1)", x.vanity(1, 0, -1), Due.OUTSIDE);
        edges.is("vanity(1, 3, 10)", x.vanity(1, 3, 10), Due.OUTSIDE);
        edges.is("vanity(1, MIN, MAX)", x.vanity(1, Integer.MIN_VALUE, Integer.MAX_VALUE), Due.OUTSIDE);
        edges.has("VANITIES", x, 0, 2, 0, 2, 0, 9);
        edges.has("VANITIES", x, 1, 2, 1, 5, 3, 2);
        edges.has("VANITIES", x, 2, 2, 9, 9, 9, 9);
    }

    // ---- promise 17

    /** What is SAID, 8 for a PASS, by one turn from a seed, of so many COMPLIMENTS. */
    private int turnFrom(int seed, int many, int said) {
        PraiseDuels x = Due.meadow(PLAIN + "c0 1 1 8 8;".repeat(many));
        x.seed(seed);
        x.duel(0, 1);
        for (int c = 0; c < many; c++) {
            if ((said >> c & 1) == 1) {
                x.say(c);
            }
        }
        x.drift(1);
        int more = x.told(8) & ~said;
        return more == 0 ? 8 : Integer.numberOfTrailingZeros(more);
    }

    private void draws() {
        edges.sentence(17, "BY DRAWS: THE SEED (0 at first: each DRAW it becomes it times 1103515245 and 12345, left over by 2 to "
                + "the 31;");
        PraiseDuels x = Due.meadow(PLAIN);
        edges.is("at first", x.seed(0), 0);
        x.duel(0, 1);
        x.drift(1);
        edges.is("0 times 1103515245 and 12345", x.seed(1), 12345);
        x.duel(0, 1);
        x.drift(1);
        edges.is("1103515245 and 12345", x.seed(12345), 1103527590);
        x.duel(0, 1);
        x.drift(1);
        edges.is("12345 times 1103515245 and 12345, left over", x.seed(0), 1406932606);
        // 1043980748 / 65536 is 15929
        edges.sentence(17, "the DRAW of n is it / 65536, left over by n):");
        edges.is("15929 by 1", turnFrom(2147483647, 0, 0), 8);
        edges.is("15929 by 4", turnFrom(2147483647, 3, 0), 1);
        edges.is("15929 by 5", turnFrom(2147483647, 4, 0), 8);
        edges.is("15929 by 6", turnFrom(2147483647, 5, 0), 8);
        edges.is("15929 by 7", turnFrom(2147483647, 6, 0), 4);
        edges.is("15929 by 8", turnFrom(2147483647, 7, 0), 1);
        edges.is("0 by 9", turnFrom(0, 8, 0), 0);
        // 286434947 becomes 2147418112, 576240414 one less, 230538014 becomes 2147483647
        edges.is("32767 and nothing more, by 2", turnFrom(286434947, 1, 0), 8);
        edges.is("one less, cut to 32766, by 2", turnFrom(576240414, 1, 0), 0);
        edges.is("32767, the greatest, by 9", turnFrom(230538014, 8, 0), 7);
        edges.is("65535, cut to 0, by 2", turnFrom(2032319262, 1, 0), 0);
        edges.is("65536, 1, by 2", turnFrom(1742513795, 1, 0), 8);
    }

    private void seedGoesRound() {
        edges.sentence(17, "left over by 2 to the 31;");
        PraiseDuels x = Due.meadow(PLAIN);
        x.seed(2147483647);
        x.duel(0, 1);
        x.drift(1);
        edges.is("the greatest goes round", x.seed(1073741824), 1043980748);
        x.duel(0, 1);
        x.drift(1);
        edges.is("2 to the 30 goes round", x.seed(2), 1073754169);
        x.duel(0, 1);
        x.drift(1);
        edges.is("twice 1103515245 goes round", x.seed(0), 59559187);
    }

    private void turnsByDraws() {
        edges.sentence(17, "n turns (those of the DUEL; it ends with it):");
        PraiseDuels x = Due.meadow(PLAIN);
        x.duel(1, 0);
        edges.is("PASSES alone: 40 end with two", x.drift(40), 3);
        edges.is("turns", x.told(6), 2);
        edges.is("DRAWS", x.seed(0), 1406932606);
        edges.is("points", x.duellist(0, 7), 1);
        x.duel(1, 0);
        edges.is("one", x.drift(1), 0);
        edges.is("turns", x.told(6), 1);
        edges.is("one is left", x.drift(2), 3);
        edges.is("turns", x.told(6), 2);
        edges.sentence(17, "a DRAW of how many COMPLIMENTS are unsaid and 1: the last: it PASSES;");
        edges.is("0 of 1: nothing is unsaid", turnFrom(0, 3, 7), 8);
        edges.is("2 of 3", turnFrom(2147483647, 2, 0), 8);
        edges.is("1 of 2", turnFrom(2147483647, 1, 0), 8);
        edges.is("8 of 9", turnFrom(2147483647, 8, 0), 8);
        edges.sentence(17, "else that one of these (rising) is SAID.");
        edges.is("1 of 4, of 0, 2, 3", turnFrom(2147483647, 4, 2), 2);
        edges.is("1 of 4, of 1, 4, 6", turnFrom(2147483647, 7, 1 + 4 + 8 + 32), 4);
        edges.is("0 of 2, of 7", turnFrom(0, 8, 127), 7);
        edges.sentence(17, "n turns BY DRAWS (1 .. 40): RESULT.");
        PraiseDuels y = Due.meadow("d9 0 9 0 0 0;d9 0 9 0 0 0;c0 1 1 8 8;");
        y.duel(1, 0);
        edges.is("the first one has won", y.drift(1), 1);
        edges.is("points", y.duellist(1, 7), 2);
        y.duel(1, 0);
        y.pass();
        y.seed(0);
        edges.is("the other one has won", y.drift(40), 2);
        edges.is("turns", y.told(6), 2);
    }

    private void driftRefused() {
        PraiseDuels x = three();
        edges.sentence(17, "OUTSIDE,");
        edges.is("drift(0), no DUEL", x.drift(0), Due.OUTSIDE);
        edges.is("drift(41), no DUEL", x.drift(41), Due.OUTSIDE);
        x.duel(0, 1);
        edges.is("drift(0)", x.drift(0), Due.OUTSIDE);
        edges.is("drift(41)", x.drift(41), Due.OUTSIDE);
        edges.is("drift(-1)", x.drift(-1), Due.OUTSIDE);
        edges.is("drift(MIN)", x.drift(Integer.MIN_VALUE), Due.OUTSIDE);
        edges.is("drift(MAX)", x.drift(Integer.MAX_VALUE), Due.OUTSIDE);
        edges.is("no turn", x.told(6), 0);
        edges.sentence(17, "NOT: no DUEL that goes on.");
        edges.is("drift(1), no DUEL", three().drift(1), Due.NOT);
        edges.is("drift(40), no DUEL", three().drift(40), Due.NOT);
        x.pass();
        x.pass();
        edges.is("drift(1), over", x.drift(1), Due.NOT);
        edges.is("no DRAW", x.seed(0), 0);
    }
}
