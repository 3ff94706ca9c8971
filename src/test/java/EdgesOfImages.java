/** Promises 35 to 37: THE SEED and IMAGES. */
final class EdgesOfImages {
    private final Edges edges;

    EdgesOfImages(Edges edges) {
        this.edges = edges;
    }

    void all() {
        seed();
        keep();
        goBack();
        keptDuel();
        keptLeague();
        keptFolk();
        notKept();
    }

    private static PraiseDuels three() {
        return Due.meadow(MeadowTest.THREE);
    }

    private void seed() {
        edges.sentence(35, "THE SEED becomes v (0 .. 2147483647): what it was.");
        PraiseDuels x = new PraiseDuels();
        edges.is("0 at first, the greatest", x.seed(2147483647), 0);
        edges.is("the least", x.seed(0), 2147483647);
        edges.is("what it was", x.seed(7), 0);
        edges.sentence(35, "OUTSIDE.");
        edges.is("seed(-1)", x.seed(-1), Due.OUTSIDE);
        edges.is("seed(MIN)", x.seed(Integer.MIN_VALUE), Due.OUTSIDE);
        edges.is("it stays", x.seed(0), 7);
    }

    private void keep() {
        edges.sentence(36, "IMAGE i becomes what is so: 1.");
        PraiseDuels x = three();
        edges.is("the least", x.keep(0), 1);
        edges.is("the greatest", x.keep(1), 1);
        x.seed(5);
        edges.is("again", x.keep(0), 1);
        x.seed(6);
        x.goBack(0);
        edges.is("what was so then", x.seed(0), 5);
        x.goBack(1);
        edges.is("the other one is as it was", x.seed(0), 0);
        edges.is("of nobody", new PraiseDuels().keep(1), 1);
        edges.sentence(36, "UNKNOWN.");
        edges.is("keep(-1)", x.keep(-1), Due.UNKNOWN);
        edges.is("keep(2)", x.keep(2), Due.UNKNOWN);
        edges.is("keep(MIN)", x.keep(Integer.MIN_VALUE), Due.UNKNOWN);
        edges.is("keep(MAX)", x.keep(Integer.MAX_VALUE), Due.UNKNOWN);
    }

    private void goBack() {
        edges.sentence(37, "What is so becomes IMAGE i: 1.");
        PraiseDuels x = three();
        x.keep(1);
        x.act(0, 7);
        edges.is("goBack(1)", x.goBack(1), 1);
        edges.is("as it was", x.duellist(0, 6), 1);
        x.act(0, 7);
        edges.is("goBack(1) again", x.goBack(1), 1);
        edges.is("as it was again", x.duellist(0, 6), 1);
        edges.sentence(37, "UNKNOWN,");
        edges.is("goBack(-1)", x.goBack(-1), Due.UNKNOWN);
        edges.is("goBack(2)", x.goBack(2), Due.UNKNOWN);
        edges.is("goBack(MIN)", x.goBack(Integer.MIN_VALUE), Due.UNKNOWN);
        edges.is("goBack(MAX)", x.goBack(Integer.MAX_VALUE), Due.UNKNOWN);
        edges.sentence(37, "NOT: it was not kept.");
        edges.is("the other one", x.goBack(0), Due.NOT);
        edges.is("a new object", new PraiseDuels().goBack(1), Due.NOT);
        x.keep(0);
        edges.is("kept now", x.goBack(0), 1);
        x.meadow();
        edges.is("gone by meadow()", x.goBack(0), Due.NOT);
        edges.is("gone by meadow()", x.goBack(1), Due.NOT);
    }

    private void keptDuel() {
        edges.sentence(36, "IMAGES 0, 1 keep the DUEL with its turns,");
        PraiseDuels x = three();
        x.keep(0);
        x.duel(1, 0);
        x.say(3);
        x.say(4);
        x.pass();
        x.keep(1);
        x.undo(2);
        x.say(5);
        x.duel(2, 0);
        x.pass();
        x.pass();
        x.goBack(1);
        edges.tells("a DUEL", x, 3, 6, 0, 1, 0, 0, 3, 0, 24, 0, 0, 0, 1);
        edges.has("a DUEL", x, 0, 8, 15, 1, 4, 0, 0, 0, 1);
        edges.has("a DUEL", x, 1, 8, 0, 0, 1, 0, 0, 1, 0);
        edges.is("undo(4)", x.undo(4), Due.NOT);
        edges.is("its turns: undo(2)", x.undo(2), 1);
        edges.is("what was said first", x.told(8), 8);
        edges.is("its turns: undo(1)", x.undo(1), 0);
        edges.is("nothing was said", x.told(8), 0);
        x.goBack(0);
        edges.tells("no DUEL", x, 3, 6, 0, Due.NONE, Due.NONE, 0, 0, Due.NONE, 0, 0, 0, 0, 0);
        edges.is("no DUEL: pass()", x.pass(), Due.NOT);
        x.goBack(1);
        edges.is("the IMAGE has all turns still", x.undo(3), 0);
    }

    private void keptLeague() {
        edges.sentence(36, "THE LEAGUE,");
        PraiseDuels x = Due.meadow("d1 0 9 9 9 9;d1 0 9 9 9 9;c0 9 1 8 8;");
        x.keep(0);
        x.duel(0, 1);
        x.say(0);
        x.keep(1);
        x.undo(1);
        x.pass();
        x.say(0);
        edges.is("the other one has won", x.league(1), 2);
        x.duel(0, 1);
        x.say(0);
        edges.is("twice", x.met(0, 1), 2);
        x.goBack(1);
        edges.is("the first one has won", x.league(1), 1);
        edges.is("points", x.duellist(0, 7), 2);
        edges.is("points", x.duellist(1, 7), 0);
        edges.is("met(0, 1)", x.met(0, 1), 1);
        edges.is("undo(1)", x.undo(1), 0);
        edges.is("with what counted", x.met(0, 1), 0);
        edges.is("points", x.duellist(0, 7), 0);
        x.goBack(1);
        x.goBack(0);
        edges.is("none had met", x.met(0, 1), 0);
        edges.is("points", x.duellist(0, 7), 0);
        edges.is("league(1)", x.league(1), 3);
    }

    private void keptFolk() {
        edges.sentence(36, "DEEDS, VANITIES, THE SEED.");
        PraiseDuels x = three();
        x.act(2, 7);
        x.vanity(2, 3, 0);
        x.seed(1);
        x.keep(0);
        x.act(2, 6);
        x.vanity(2, 3, 5);
        x.seed(2147483647);
        x.keep(1);
        x.act(0, 6);
        x.vanity(0, 0, 9);
        x.goBack(0);
        edges.has("IMAGE 0", x, 2, 2, 9, 9, 9, 0, 132);
        edges.has("IMAGE 0", x, 0, 2, 4, 2, 0, 9, 1);
        edges.is("IMAGE 0: the SEED", x.seed(3), 1);
        x.goBack(1);
        edges.has("IMAGE 1", x, 2, 2, 9, 9, 9, 5, 196);
        edges.has("IMAGE 1", x, 0, 2, 4, 2, 0, 9, 1);
        edges.is("IMAGE 1: the SEED", x.seed(3), 2147483647);
    }

    private void notKept() {
        edges.sentence(37, "IMAGES 0, 1 keep the DUEL with its turns, THE LEAGUE, DEEDS, VANITIES, THE SEED.");
        PraiseDuels x = three();
        x.feed('x');
        x.meadow();
        x.keep(0);
        x.feed('x');
        x.warm(0, 0, 0, 20);
        x.cheek(1);
        x.cheek(1);
        x.write(8);
        x.write(8);
        x.write(8);
        edges.is("goBack(0)", x.goBack(0), 1);
        edges.tells("nothing else goes back", x, 3, 6, 1, Due.NONE, Due.NONE, 0, 0, Due.NONE, 0, 1, 2, 3, 0);
        edges.is("vain(0, 0)", x.vain(0, 0), 16);
        edges.is("fault()", x.fault(), 0);
        edges.is("tear()", x.tear(), 6);
        x.goBack(0);
        edges.is("nothing comes back", x.tear(), 0);
    }
}
