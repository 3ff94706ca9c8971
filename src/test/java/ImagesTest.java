/** Promises 35 to 37: THE SEED and IMAGES. */
public final class ImagesTest {
    private static final Due due = new Due();

    public static void main(String[] args) {
        seed();
        refused();
        keepsAll();
        keepsScores();
        keepsTurns();
        keepsNothingElse();
        due.end("ImagesTest");
    }

    private static PraiseDuels three() {
        return Due.meadow(MeadowTest.THREE);
    }

    private static void seed() {
        PraiseDuels x = new PraiseDuels();
        due.is("seed(-1)", x.seed(-1), Due.OUTSIDE);
        due.is("seed(MIN)", x.seed(Integer.MIN_VALUE), Due.OUTSIDE);
        due.is("seed(2147483647)", x.seed(2147483647), 0);
        due.is("seed(-1)", x.seed(-1), Due.OUTSIDE);
        due.is("seed(5)", x.seed(5), 2147483647);
        due.is("seed(0)", x.seed(0), 5);
        due.is("seed(0)", x.seed(0), 0);
    }

    private static void refused() {
        PraiseDuels x = three();
        due.is("keep(-1)", x.keep(-1), Due.UNKNOWN);
        due.is("keep(2)", x.keep(2), Due.UNKNOWN);
        due.is("goBack(-1)", x.goBack(-1), Due.UNKNOWN);
        due.is("goBack(2)", x.goBack(2), Due.UNKNOWN);
        due.is("goBack(0)", x.goBack(0), Due.NOT);
        due.is("keep(1)", x.keep(1), 1);
        due.is("goBack(0)", x.goBack(0), Due.NOT);
        due.is("goBack(1)", x.goBack(1), 1);
        due.is("goBack(1) again", x.goBack(1), 1);
    }

    private static void keepsAll() {
        PraiseDuels x = three();
        x.seed(77);
        x.act(0, 6);
        x.vanity(0, 0, 5);
        x.duel(1, 2);
        x.pass();
        x.pass();
        x.keep(0);
        x.seed(88);
        x.act(0, 7);
        x.vanity(0, 0, 6);
        x.duel(0, 1);
        x.pass();
        x.pass();
        x.duel(0, 1);
        x.say(3);
        x.keep(1);
        x.say(0);
        x.say(5);
        due.is("goBack(0)", x.goBack(0), 1);
        due.tells("image 0", x, 3, 6, 0, 1, 2, 3, 2, Due.NONE, 0, 0, 0, 0, 2);
        due.has("image 0", x, 0, 2, 5, 2, 0, 9, 65, 0, 0, 0, 0);
        due.has("image 0", x, 1, 7, 1, 0, 0, 0);
        due.is("image 0: met(0, 1)", x.met(0, 1), 0);
        due.is("image 0: met(1, 2)", x.met(1, 2), 1);
        due.is("image 0: seed", x.seed(3), 77);
        due.is("image 0: undo(2)", x.undo(2), 0);
        due.is("image 0: met(1, 2) undone", x.met(1, 2), 0);
        due.is("goBack(1)", x.goBack(1), 1);
        due.tells("image 1", x, 3, 6, 0, 0, 1, 0, 1, 1, 8, 0, 0, 0, 0);
        due.has("image 1", x, 0, 2, 6, 2, 0, 9, 193, 1, 0, 0, 1, 0, 0, 0, 0);
        due.has("image 1", x, 1, 7, 2, 4, 0, 0, 0, 0, 0, 1);
        due.is("image 1: met(0, 1)", x.met(0, 1), 1);
        due.is("image 1: seed", x.seed(3), 88);
        due.is("goBack(0) again", x.goBack(0), 1);
        due.is("image 0 again: met(1, 2)", x.met(1, 2), 1);
        due.is("image 0 again: seed", x.seed(3), 77);
        x.keep(1);
        x.duel(2, 0);
        due.is("goBack(1), kept anew", x.goBack(1), 1);
        due.tells("image 1 anew", x, 3, 6, 0, 1, 2, 3, 2);
        due.is("league by the images", x.league(1), 7);
    }

    private static void keepsScores() {
        PraiseDuels x = Due.meadow("d1 0 9 9 9 9;d1 0 9 9 9 9;c0 9 1 8 8;");
        x.duel(0, 1);
        x.say(0);
        x.keep(0);
        x.undo(1);
        x.pass();
        x.say(0);
        due.is("the other one has won", x.league(1), 2);
        x.keep(1);
        x.goBack(0);
        due.is("the first one has won", x.league(1), 1);
        x.duel(1, 0);
        x.say(0);
        due.is("one each", x.league(2), 3);
        x.goBack(1);
        due.is("the other one has won", x.league(1), 2);
    }

    private static void keepsTurns() {
        PraiseDuels x = three();
        x.duel(0, 1);
        x.say(3);
        x.say(2);
        x.pass();
        x.keep(1);
        x.undo(3);
        x.pass();
        x.say(0);
        x.say(1);
        x.say(5);
        due.is("goBack(1)", x.goBack(1), 1);
        due.tells("image 1", x, 3, 6, 0, 0, 1, 0, 3, 1, 12, 0, 0, 0, 1);
        due.is("undo(1)", x.undo(1), 2);
        due.has("two turns", x, 0, 8, 3, 0, 1, 0, 1, 0, 0);
        due.is("undo(1)", x.undo(1), 1);
        due.has("one turn", x, 1, 8, 4, 0, 0, 0, 0, 0, 1);
        due.is("told(8)", x.told(8), 8);
        due.is("undo(1)", x.undo(1), 0);
        due.is("told(8)", x.told(8), 0);
        due.is("undo(1)", x.undo(1), Due.NOT);
    }

    private static void keepsNothingElse() {
        PraiseDuels x = three();
        x.feed(' ');
        x.warm(0, 0, 0, 20);
        x.cheek(4);
        x.write(8);
        x.keep(0);
        x.feed('x');
        x.warm(3, 0, 0, 2);
        x.cheek(5);
        x.write(8);
        x.duel(0, 1);
        due.is("goBack(0)", x.goBack(0), 1);
        due.tells("what was seen stays", x, 3, 6, 2, Due.NONE, Due.NONE, 0, 0, Due.NONE, 0, 2, 2, 2, 0);
        due.is("no DUEL: undo(1)", x.undo(1), Due.NOT);
        due.is("meadow()", x.meadow(), -11);
        due.is("fault()", x.fault(), 1);
        x.goBack(0);
        due.is("fault() stays", x.fault(), 1);
    }
}
