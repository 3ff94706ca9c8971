/** Promises 10 to 17: DUELS turn by turn, undone, DEEDS, VANITIES, turns by draws. */
public final class DuelsTest {
    private static final Due due = new Due();

    public static void main(String[] args) {
        duel();
        say();
        linesAndFouls();
        pass();
        sorry();
        sorryOfTheOtherOne();
        undo();
        undoneIsAsItWas();
        longestDuel();
        act();
        vanity();
        drift();
        due.end("DuelsTest");
    }

    private static PraiseDuels three() {
        return Due.meadow(MeadowTest.THREE);
    }

    private static void duel() {
        PraiseDuels x = three();
        due.is("duel(0, 3)", x.duel(0, 3), Due.UNKNOWN);
        due.is("duel(3, 0)", x.duel(3, 0), Due.UNKNOWN);
        due.is("duel(-1, 0)", x.duel(-1, 0), Due.UNKNOWN);
        due.is("duel(1, 1)", x.duel(1, 1), Due.UNKNOWN);
        due.is("no DUEL began", x.told(3), Due.NONE);
        due.is("duel(2, 0)", x.duel(2, 0), 2);
        x.say(0);
        due.is("duel(2, 2) refused", x.duel(2, 2), Due.UNKNOWN);
        due.tells("it goes on", x, 3, 6, 0, 2, 0, 0, 1, 0, 1);
        due.is("duel(1, 2)", x.duel(1, 2), 1);
        due.tells("the other one is left", x, 3, 6, 0, 1, 2, 0, 0, 1, 0, 0, 0, 0, 0);
        due.has("the other one is left", x, 0, 7, 0, 0, 0, 0, 0, 0, 0, 0);
        due.is("met(0, 2)", x.met(0, 2), 0);
        due.is("undo(1) of what is left", x.undo(1), Due.NOT);
    }

    private static void say() {
        PraiseDuels x = three();
        due.is("say(0), no DUEL", x.say(0), Due.NOT);
        due.is("say(6), no DUEL", x.say(6), Due.UNKNOWN);
        x.duel(0, 1);
        due.is("say(6)", x.say(6), Due.UNKNOWN);
        due.is("say(-1)", x.say(-1), Due.UNKNOWN);
        due.is("say(8)", x.say(8), Due.UNKNOWN);
        due.is("say(0)", x.say(0), 0);
        due.has("5 more", x, 1, 8, 5, 0, 0, 1, 0, 0, 0);
        due.has("3 WORDS", x, 0, 8, 0, 0, 3, 0, 0, 0, 0);
        due.is("say(0) again", x.say(0), Due.NOT);
        due.has("nobody COOLS by it", x, 1, 8, 5);
        due.is("told(7)", x.told(7), 1);
        due.is("say(2)", x.say(2), 0);
        due.has("half true: 3 more", x, 0, 8, 3, 0, 3, 0, 1, 0, 0);
        due.has("COOLED by 5", x, 1, 8, 0, 0, 9, 1, 0, 0, 0);
        due.is("say(5)", x.say(5), 0);
        due.has("4 halved, told again", x, 1, 8, 2, 0, 9, 2, 0, 0, 0);
        due.has("COOLED by 3", x, 0, 8, 0, 0, 4, 0, 1, 0, 0);
        due.is("say(1)", x.say(1), 0);
        due.has("12 halved", x, 0, 8, 6, 0, 4, 0, 2, 0, 0);
        due.has("not less than 0", x, 1, 8, 0, 0, 11, 2, 0, 0, 0);
        due.is("told(8)", x.told(8), 39);
        due.is("say(4), FALSE", x.say(4), 0);
        due.has("a FOUL", x, 0, 8, 3, 1, 8, 0, 2, 0, 0);
        due.has("told, no EFFECT", x, 1, 8, 0, 0, 11, 2, 0, 1, 0);
    }

    private static void linesAndFouls() {
        PraiseDuels x = Due.meadow("d18 0 9 9 9 9;d19 0 9 9 9 9;c0 2 1 8 8;c1 9 1 0 8;c2 9 1 0 8;c3 9 1 0 8;"
                + "c0 4 1 8 8;c1 1 1 0 1;e1 0;");
        x.duel(1, 0);
        due.is("18 is LINE 18", x.say(0), 1);
        due.tells("it is over", x, 2, 6, 0, 1, 0, 1, 1, Due.NONE, 1);
        due.is("say(1), over", x.say(1), Due.NOT);
        due.is("say(6), over", x.say(6), Due.UNKNOWN);
        due.is("points of 1", x.duellist(1, 7), 2);
        due.is("points of 0", x.duellist(0, 7), 0);
        x.duel(0, 1);
        due.is("18 is less than LINE 19", x.say(0), 0);
        due.is("a FOUL of the other one", x.say(1), 0);
        x.pass();
        due.is("its second FOUL", x.say(2), 0);
        x.pass();
        due.is("its third FOUL: the first one has won", x.say(3), 1);
        due.is("points of 0", x.duellist(0, 7), 2);
        due.is("FOULS", x.duellist(1, 9), 3);
        x.duel(1, 0);
        x.pass();
        x.say(4);
        due.is("the first one fell, the other one has won", x.told(5), 2);
        due.is("points of 0", x.duellist(0, 7), 4);
        x.duel(1, 0);
        x.say(1);
        x.say(5);
        x.say(2);
        x.pass();
        due.is("the first one's third FOUL", x.say(3), 2);
        due.is("points of 0", x.duellist(0, 7), 6);
        due.is("points of 1", x.duellist(1, 7), 2);
        due.is("met", x.met(0, 1), 4);
    }

    private static void pass() {
        PraiseDuels x = three();
        due.is("pass(), no DUEL", x.pass(), Due.NOT);
        x.duel(0, 2);
        x.say(3);
        due.is("pass()", x.pass(), 0);
        due.is("told(12)", x.told(12), 1);
        due.is("say between", x.say(0), 1);
        due.is("over: pass()", x.pass(), Due.NOT);
        x.duel(0, 1);
        due.is("pass()", x.pass(), 0);
        due.is("say between", x.say(3), 0);
        due.is("told(12)", x.told(12), 0);
        due.is("blush", x.duellist(0, 8), 18);
        due.is("pass() is the first one again", x.pass(), 0);
        due.is("it COOLS", x.duellist(0, 8), 15);
        due.is("the second one behind it", x.pass(), 3);
        due.is("told(12)", x.told(12), 2);
        due.is("told(6)", x.told(6), 4);
        due.is("a point each", x.duellist(0, 7), 3);
        due.is("a point each", x.duellist(1, 7), 1);
        due.is("a draw is over", x.pass(), Due.NOT);
    }

    private static void sorry() {
        PraiseDuels x = Due.meadow("d99 4 9 9 9 9;d99 3 9 9 9 9;c0 2 1 8 8;c1 9 7 0 8;c2 9 1 0 8;c3 9 1 0 8;");
        due.is("sorry(), no DUEL", x.sorry(), Due.NOT);
        x.duel(0, 1);
        due.is("sorry(), no FOULS", x.sorry(), Due.NOT);
        x.say(1);
        x.say(0);
        due.is("blush", x.duellist(0, 8), 18);
        x.say(2);
        due.is("the other one's FOULS do not count", x.sorry(), Due.NOT);
        due.is("nothing changes", x.told(6), 3);
        due.is("it does not COOL", x.duellist(0, 8), 14);
        x.pass();
        due.is("sorry()", x.sorry(), 1);
        due.is("it COOLS", x.duellist(0, 8), 10);
        due.tells("an apology is a turn, no PASS", x, 2, 4, 0, 0, 1, 0, 5, 1, 7, 0, 0, 0, 0);
        due.is("a PASS behind it is the first one", x.pass(), 0);
        due.is("sorry() to none", x.sorry(), 0);
        due.is("FOULS", x.duellist(0, 9), 0);
        x.pass();
        due.is("no more", x.sorry(), Due.NOT);
        x.say(3);
        due.is("one FOUL, apologized ones are gone", x.duellist(0, 9), 1);
        x.pass();
        due.is("a draw", x.pass(), 3);
        due.is("sorry(), over", x.sorry(), Due.NOT);
        due.is("WORDS stay", x.duellist(0, 10), 9);
    }

    private static void sorryOfTheOtherOne() {
        PraiseDuels x = Due.meadow("d99 4 9 9 9 9;d99 3 9 9 9 9;c0 2 1 8 8;c1 9 7 0 8;c2 9 1 0 8;c3 9 1 0 8;");
        x.duel(0, 1);
        x.say(0);
        x.say(1);
        x.pass();
        x.say(2);
        x.pass();
        due.is("sorry() of the other one", x.sorry(), 1);
        due.is("FOULS", x.duellist(1, 9), 1);
        due.is("BLUSH", x.duellist(1, 8), 9);
        x.pass();
        due.is("sorry() of the other one again", x.sorry(), 0);
        due.is("BLUSH", x.duellist(1, 8), 6);
    }

    private static void undo() {
        PraiseDuels x = three();
        due.is("undo(0)", x.undo(0), Due.OUTSIDE);
        due.is("undo(61)", x.undo(61), Due.OUTSIDE);
        due.is("undo(1), no DUEL", x.undo(1), Due.NOT);
        x.duel(0, 1);
        due.is("undo(1), no turn", x.undo(1), Due.NOT);
        x.say(0);
        x.say(3);
        due.is("undo(3)", x.undo(3), Due.NOT);
        due.is("undo(60)", x.undo(60), Due.NOT);
        due.is("undo(2)", x.undo(2), 0);
        due.tells("all undone", x, 3, 6, 0, 0, 1, 0, 0, 0, 0, 0, 0, 0, 0);
        due.has("all undone", x, 0, 7, 0, 0, 0, 0, 0, 0, 0, 0);
        due.has("all undone", x, 1, 7, 0, 0, 0, 0, 0, 0, 0, 0);
        x.pass();
        x.pass();
        due.is("met", x.met(1, 0), 1);
        due.is("undo(1) of a draw", x.undo(1), 1);
        due.is("met", x.met(1, 0), 0);
        due.is("points", x.duellist(0, 7), 0);
        due.is("points", x.duellist(1, 7), 0);
        due.is("it goes on", x.told(7), 1);
        due.is("undone once: the league once", x.undo(1), 0);
        due.is("met", x.met(1, 0), 0);
        x.duel(2, 1);
        x.pass();
        x.pass();
        x.duel(1, 2);
        due.is("turns of an earlier DUEL stay", x.undo(1), Due.NOT);
        due.is("met", x.met(1, 2), 1);
        x.say(3);
        due.is("81 by a TRUE c4", x.act(2, 3), 12);
        x.pass();
        due.is("LINE 25", x.say(4), 1);
        due.is("points", x.duellist(1, 7), 3);
        due.is("undo(2)", x.undo(2), 1);
        due.is("points", x.duellist(1, 7), 1);
        due.is("points", x.duellist(2, 7), 1);
        due.is("DEEDS stay", x.duellist(2, 6), 12);
    }

    private static void undoneIsAsItWas() {
        PraiseDuels x = Due.meadow("d999 4 9 9 9 9;d999 3 9 9 9 9;c0 2 1 8 8;c1 9 7 0 8;c1 9 1 1 1;c0 4 3 0 1;e0 1;e1 1;");
        x.duel(0, 1);
        x.say(1);
        x.say(0);
        x.say(3);
        due.has("ahead", x, 0, 8, 14, 1, 10, 1, 0, 0, 0);
        due.has("ahead", x, 1, 8, 18, 0, 1, 1, 1, 0, 0);
        x.act(1, 0);
        x.vanity(1, 0, 2);
        x.pass();
        x.sorry();
        x.say(2);
        due.is("undo(3)", x.undo(3), 3);
        due.has("as it was, by the DEEDS of then", x, 0, 8, 14, 1, 10, 1, 0, 0, 0);
        due.has("as it was, by the VANITIES of then", x, 1, 8, 18, 0, 1, 1, 1, 0, 0);
        due.is("DEEDS are not undone", x.duellist(1, 6), 3);
        due.is("VANITIES are not undone", x.duellist(1, 2), 2);
        due.tells("as it was", x, 2, 4, 0, 0, 1, 0, 3, 1, 11, 0, 0, 0, 0);
        due.is("undo(1)", x.undo(1), 2);
        due.is("BLUSH ahead of COOLING", x.duellist(0, 8), 18);
        x.seed(5);
        x.drift(2);
        int seed = x.seed(0);
        x.seed(seed);
        x.undo(2);
        due.is("the seed stays", x.seed(0), seed);
    }

    /** A PASS ahead of each FALSE one and of each apology: as many turns as a DUEL may have. */
    private static void longestDuel() {
        PraiseDuels x = Due.meadow("d999 0 9 9 9 9;d999 0 9 9 9 9;c0 2 1 0 8;c0 2 1 0 8;c0 2 1 0 8;c0 2 1 0 8;"
                + "c0 2 1 0 8;c0 2 1 0 8;c0 2 1 0 8;c0 2 1 0 8;");
        x.duel(0, 1);
        int turns = 0;
        for (int c = 0; c < 8; c++) {
            due.is("pass()", x.pass(), 0);
            due.is("say(" + c + ")", x.say(c), 0);
            due.is("pass()", x.pass(), 0);
            turns += 3;
            if (x.sorry() == 0) {
                turns++;
            }
            due.is("turns", x.told(6), turns);
        }
        due.is("pass()", x.pass(), 0);
        due.is("a draw", x.pass(), 3);
        due.is("turns", x.told(6), 34);
        due.is("undo of nearly all", x.undo(33), 1);
        due.tells("nearly all undone", x, 2, 8, 0, 0, 1, 0, 1, 1, 0, 0, 0, 0, 1);
    }

    private static void act() {
        PraiseDuels x = three();
        due.is("act(3, 0)", x.act(3, 0), Due.UNKNOWN);
        due.is("act(-1, 9)", x.act(-1, 9), Due.UNKNOWN);
        due.is("act(0, 8)", x.act(0, 8), Due.OUTSIDE);
        due.is("act(0, -1)", x.act(0, -1), Due.OUTSIDE);
        due.is("act(0, 7)", x.act(0, 7), 129);
        due.is("act(0, 0) again", x.act(0, 0), 129);
        due.is("act(0, 1)", x.act(0, 1), 131);
        due.is("act(2, 0)", x.act(2, 0), 5);
        due.is("DEEDS", x.duellist(0, 6), 131);
        due.is("the others' stay", x.duellist(1, 6), 2);
        due.is("truth", x.truth(2, 0), 2);
    }

    private static void vanity() {
        PraiseDuels x = three();
        due.is("vanity(3, 0, 0)", x.vanity(3, 0, 0), Due.UNKNOWN);
        due.is("vanity(-1, 4, 10)", x.vanity(-1, 4, 10), Due.UNKNOWN);
        due.is("vanity(0, 4, 0)", x.vanity(0, 4, 0), Due.OUTSIDE);
        due.is("vanity(0, -1, 0)", x.vanity(0, -1, 0), Due.OUTSIDE);
        due.is("vanity(0, 0, 10)", x.vanity(0, 0, 10), Due.OUTSIDE);
        due.is("vanity(0, 0, -1)", x.vanity(0, 0, -1), Due.OUTSIDE);
        due.is("vanity(0, 3, 0)", x.vanity(0, 3, 0), 9);
        due.is("vanity(0, 3, 9)", x.vanity(0, 3, 9), 0);
        due.is("vanity(2, 0, 1)", x.vanity(2, 0, 1), 9);
        due.has("VANITIES", x, 0, 2, 4, 2, 0, 9);
        due.has("VANITIES", x, 2, 2, 1, 9, 9, 9);
        due.is("effect", x.effect(0, 2), 5);
    }

    /** What the document says of a DRAW, once more, by way of long division. */
    private static long drawn(long seed) {
        return Math.floorMod(seed * 1103515245L + 12345L, 2147483648L);
    }

    private static void drift() {
        PraiseDuels x = three();
        due.is("drift(0)", x.drift(0), Due.OUTSIDE);
        due.is("drift(41), no DUEL", x.drift(41), Due.OUTSIDE);
        due.is("drift(40), no DUEL", x.drift(40), Due.NOT);
        x.duel(0, 1);
        // 12345 / 65536 is 0: the first of 6; 1406932606 / 65536 is 21468, by 6 left over 0: the first of 5
        due.is("drift(1)", x.drift(1), 0);
        due.is("told(8)", x.told(8), 1);
        due.is("the seed", x.seed(12345), 12345);
        due.is("drift(1)", x.drift(1), 0);
        due.is("told(8)", x.told(8), 3);
        due.is("the seed", x.seed(0), 1406932606);
        for (int seed = 1; seed < 20; seed++) {
            driftFrom(seed * 104729 + 7);
        }
        driftFrom(2147483647);
        x.duel(0, 1);
        x.pass();
        x.pass();
        due.is("drift(1), over", x.drift(1), Due.NOT);
        due.is("no DRAW by it", x.seed(0), 0);
    }

    private static void driftFrom(int seed) {
        PraiseDuels x = three();
        PraiseDuels y = three();
        x.seed(seed);
        x.duel(1, 2);
        y.duel(1, 2);
        long now = seed;
        int result = 0;
        int turns = 0;
        while (result == 0 && turns < 40) {
            now = drawn(now);
            int left = 6 - Integer.bitCount(y.told(8));
            int draw = (int) (now / 65536 % (left + 1));
            int c = 0;
            for (int ahead = draw; c < 6 && ((y.told(8) >> c & 1) == 1 || ahead-- > 0); c++) {
                continue;
            }
            result = draw == left ? y.pass() : y.say(c);
            turns++;
        }
        due.is("drift(40) from " + seed, x.drift(40), result);
        due.is("turns from " + seed, x.told(6), turns);
        due.is("said from " + seed, x.told(8), y.told(8));
        due.is("blush from " + seed, x.duellist(1, 8), y.duellist(1, 8));
        due.is("points from " + seed, x.duellist(2, 7), y.duellist(2, 7));
        due.is("the seed from " + seed, x.seed(0), (int) now);
    }
}
