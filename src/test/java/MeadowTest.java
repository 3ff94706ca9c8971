/** Promises 1 to 9: a new object, THE TEXT, THE MEADOW and what is told of it. */
public final class MeadowTest {
    static final String THREE = "d30 3 4 2 0 9;d40 5 1 5 3 2;d25 0 9 9 9 9;c0 5 3 8 8;c1 6 2 0 8;c1 3 9 0 1;"
            + "c3 2 1 8 8;c2 9 4 2 3;c0 4 1 8 1;e0 0;e1 1;e2 2;";
    private static final String ONE = "d1 0 0 0 0 0;";
    private static final String PHRASE = "c0 1 1 8 8;";
    private static final Due due = new Due();

    public static void main(String[] args) {
        constants();
        newObject();
        feed();
        meadowsWithoutFault();
        cannotStand();
        badNumbers();
        tooMany();
        doneAgain();
        leastOfSeveral();
        faultChangesNothing();
        meadowBeginsAnew();
        told();
        duellist();
        compliment();
        truthAndEffect();
        due.end("MeadowTest");
    }

    private static void constants() {
        due.is("NONE", PraiseDuels.NONE, -1);
        due.is("UNKNOWN", PraiseDuels.UNKNOWN, -1000000001);
        due.is("OUTSIDE", PraiseDuels.OUTSIDE, -1000000002);
        due.is("NOT", PraiseDuels.NOT, -1000000003);
        due.is("FULL", PraiseDuels.FULL, -1000000004);
    }

    private static void newObject() {
        PraiseDuels x = new PraiseDuels();
        due.tells("new", x, 0, 0, 0, Due.NONE, Due.NONE, 0, 0, Due.NONE, 0, 0, 0, 0, 0, Due.OUTSIDE);
        due.is("new: fault()", x.fault(), Due.NONE);
        due.is("new: duellist(0, 0)", x.duellist(0, 0), Due.UNKNOWN);
        due.is("new: compliment(0, 0)", x.compliment(0, 0), Due.UNKNOWN);
        due.is("new: truth(0, 0)", x.truth(0, 0), Due.UNKNOWN);
        due.is("new: effect(0, 0)", x.effect(0, 0), Due.UNKNOWN);
        due.is("new: duel(0, 1)", x.duel(0, 1), Due.UNKNOWN);
        due.is("new: say(0)", x.say(0), Due.UNKNOWN);
        due.is("new: pass()", x.pass(), Due.NOT);
        due.is("new: sorry()", x.sorry(), Due.NOT);
        due.is("new: undo(1)", x.undo(1), Due.NOT);
        due.is("new: drift(1)", x.drift(1), Due.NOT);
        due.is("new: best(0)", x.best(0), Due.NOT);
        due.is("new: greatest(0)", x.greatest(0), Due.NOT);
        due.is("new: league(1)", x.league(1), 0);
        due.is("new: shared(0, 0)", x.shared(0, 0), Due.UNKNOWN);
        due.is("new: powder()", x.powder(), Due.NOT);
        due.is("new: said(-1)", x.said(-1), Due.NOT);
        due.is("new: surely()", x.surely(), Due.NOT);
        due.is("new: write(8)", x.write(8), 1);
        due.is("new: judge(0)", x.judge(0), Due.NOT);
        due.is("new: tear()", x.tear(), 1);
        due.is("new: seed(0)", x.seed(0), 0);
        due.is("new: goBack(0)", x.goBack(0), Due.NOT);
        due.is("new: goBack(1)", x.goBack(1), Due.NOT);
        due.is("new: meadow()", x.meadow(), 0);
    }

    private static void feed() {
        PraiseDuels x = new PraiseDuels();
        due.is("feed(-1)", x.feed(-1), Due.OUTSIDE);
        due.is("feed(256)", x.feed(256), Due.OUTSIDE);
        due.is("feed(0)", x.feed(0), 1);
        due.is("feed(255)", x.feed(255), 2);
        for (int i = 3; i <= 250; i++) {
            due.is("feed(32)", x.feed(32), i);
        }
        due.is("feed(32) too many", x.feed(32), Due.FULL);
        due.is("feed(256), full", x.feed(256), Due.OUTSIDE);
        due.is("told(2), full", x.told(2), 250);
        due.is("meadow()", x.meadow(), -11);
        due.is("told(2) behind meadow()", x.told(2), 0);
        due.is("feed(100) behind meadow()", x.feed('d'), 1);
    }

    private static void text(String text, int want, int place) {
        PraiseDuels x = new PraiseDuels();
        Due.feedAll(x, text);
        due.is("meadow() of '" + text + "'", x.meadow(), want);
        due.is("fault() of '" + text + "'", x.fault(), place);
        due.is("told(2) behind '" + text + "'", x.told(2), 0);
        due.is("told(0) behind '" + text + "'", x.told(0), Math.max(want, 0));
    }

    private static String times(String text, int many) {
        StringBuilder all = new StringBuilder();
        for (int i = 0; i < many; i++) {
            all.append(text);
        }
        return all.toString();
    }

    private static void meadowsWithoutFault() {
        text("", 0, Due.NONE);
        text("   ", 0, Due.NONE);
        text(ONE, 1, Due.NONE);
        text("d999 99 9 9 9 9;", 1, Due.NONE);
        text("d001 00 000 0 0 0;", 1, Due.NONE);
        text("  d  1  0 0  0 0 0  ;  ", 1, Due.NONE);
        text(times(ONE, 4), 4, Due.NONE);
        text(times(PHRASE, 8), 0, Due.NONE);
        text("c3 9 9 8 7;c0 1 1 7 8;c0 1 1 0 0;", 0, Due.NONE);
        text(PHRASE + ONE + PHRASE + "e0 0;" + ONE + "e1 0;e0 7;", 2, Due.NONE);
        String full = times(ONE, 4) + times(PHRASE, 8);
        text(full + times(" ", 250 - full.length()), 4, Due.NONE);
    }

    private static void cannotStand() {
        text(";", -11, 0);
        text("  x", -11, 2);
        text("D1 0 0 0 0 0;", -11, 0);
        text("5", -11, 0);
        text("\t", -11, 0);
        text("d", -11, 1);
        text("d ", -11, 2);
        text("dd", -11, 1);
        text("d1", -11, 2);
        text("d1 ;", -11, 3);
        text("d12x0 0 0 0 0;", -11, 3);
        text("d1\t0 0 0 0 0;", -11, 2);
        text("d-1 0 0 0 0 0;", -11, 1);
        text("d1 0 0 0 0;", -11, 10);
        text("d1 0 0 0 0 0", -11, 12);
        text("d1 0 0 0 0 0  ", -11, 14);
        text("d1 0 0 0 0 0 0;", -11, 13);
        text("d1 0 0 0 0 0d", -11, 12);
        text(ONE + ";", -11, 13);
        text("c0 1 1 8;", -11, 8);
        text("c0 1 1 8 8 8;", -11, 11);
        text("c0 1 1 8 8", -11, 10);
        text("e;", -11, 1);
        text(ONE + "e0;", -11, 15);
        text(ONE + "e0 1 2;", -11, 18);
        text(ONE + "e0 1", -11, 17);
        text("d/ 0 0 0 0 0;", -11, 1);
        text("d: 0 0 0 0 0;", -11, 1);
    }

    private static void badNumbers() {
        text("d0 0 0 0 0 0;", -12, 1);
        text("d000 0 0 0 0 0;", -12, 1);
        text("d1000 0 0 0 0 0;", -12, 1);
        text("d0001 0 0 0 0 0;", -12, 1);
        text("d99999999999999999999 0", -12, 1);
        text("d4294967297 0", -12, 1);
        text("d1000", -12, 1);
        text("d  1000", -12, 3);
        text("d1 100 0 0 0 0;", -12, 3);
        text("d1 0 10 0 0 0;", -12, 5);
        text("d1 0 0 10 0 0;", -12, 7);
        text("d1 0 0 0 10 0;", -12, 9);
        text("d1 0 0 0 0 10;", -12, 11);
        text("d1 0 0 0 0 0000;", -12, 11);
        text("c4 1 1 8 8;", -12, 1);
        text("c0 0 1 8 8;", -12, 3);
        text("c0 10 1 8 8;", -12, 3);
        text("c0 1 0 8 8;", -12, 5);
        text("c0 1 10 8 8;", -12, 5);
        text("c0 1 1 9 8;", -12, 7);
        text("c0 1 1 8 9;", -12, 9);
        text("e0 0;", -12, 1);
        text("e0 0;" + ONE, -12, 1);
        text(ONE + "e1 0;", -12, 14);
        text(ONE + "e0 8;", -12, 16);
        text(ONE + "e0000 0;", -12, 14);
        text(ONE + "e0 0007;", -12, 16);
        text(ONE + "e0 999", -12, 16);
    }

    private static void tooMany() {
        text(times(ONE, 5), -13, 52);
        text(times(ONE, 4) + " d", -13, 53);
        text(times(ONE, 4) + "dx", -13, 52);
        text(times(PHRASE, 9), -13, 88);
        text(times(PHRASE, 8) + "c", -13, 88);
        text(times(ONE, 4) + times(PHRASE, 8) + "e3 0;d", -13, 145);
    }

    private static void doneAgain() {
        text(ONE + "e0 7;e0 7;", -14, 21);
        text(ONE + "e0 7;e0 7", -14, 21);
        text(ONE + "e0 7;e0  007 x", -14, 22);
        text(ONE + ONE + "e0 7;e1 7;e0 6;e1 07;", -14, 44);
        text(ONE + ONE + "e0 7;e1 7;e0 6;e1 6;", 2, Due.NONE);
    }

    private static void leastOfSeveral() {
        text("1000", -11, 0);
        text("d1 0 0 0 0 0 1000;", -11, 13);
        text(times(ONE, 3) + "d1 0 0 0 0 0d1 0 0 0 0 0;", -11, 51);
        text(ONE + "e0 7;e0 7777;", -12, 21);
        text(ONE + "e0 7;e0 71;", -12, 21);
        text("d0 x", -12, 1);
        text("dx 1000", -11, 1);
    }

    private static void faultChangesNothing() {
        PraiseDuels x = Due.meadow(THREE);
        x.act(0, 5);
        x.vanity(1, 0, 8);
        x.duel(1, 0);
        x.pass();
        x.pass();
        x.duel(0, 1);
        x.say(3);
        x.warm(0, 0, 0, 20);
        x.cheek(7);
        x.write(8);
        x.seed(99);
        x.keep(1);
        Due.feedAll(x, "d1 0 0 0;");
        due.is("meadow() with a FAULT", x.meadow(), -11);
        due.is("fault()", x.fault(), 8);
        due.is("fault() again", x.fault(), 8);
        due.tells("behind a FAULT", x, 3, 6, 0, 0, 1, 0, 1, 1, 8, 1, 1, 1, 0);
        due.has("behind a FAULT", x, 0, 0, 30, 3, 4, 2, 0, 9, 33, 1, 0, 0, 1);
        due.is("vanity", x.duellist(1, 2), 8);
        due.is("met", x.met(0, 1), 1);
        due.is("goBack(0)", x.goBack(0), Due.NOT);
        due.is("goBack(1)", x.goBack(1), 1);
        due.is("seed", x.seed(0), 99);
        Due.feedAll(x, ONE);
        due.is("meadow() behind one with a FAULT", x.meadow(), 1);
        due.is("fault() behind one without", x.fault(), Due.NONE);
        Due.feedAll(x, "d1 0 0 0 0 0");
        due.is("an earlier text's ';' does not end this one", x.meadow(), -11);
        due.is("fault() at the end", x.fault(), 12);
    }

    private static void meadowBeginsAnew() {
        PraiseDuels x = Due.meadow(THREE);
        x.act(0, 5);
        x.vanity(1, 0, 8);
        x.duel(1, 0);
        x.pass();
        x.pass();
        x.duel(0, 1);
        x.say(3);
        x.warm(0, 0, 0, 20);
        x.cheek(7);
        x.write(8);
        x.seed(99);
        x.keep(0);
        x.keep(1);
        Due.feedAll(x, "d7 8 9 8 7 6;d9 0 1 2 3 4;c2 9 8 7 6;e1 4;");
        due.is("meadow() anew", x.meadow(), 2);
        due.tells("anew", x, 2, 1, 0, Due.NONE, Due.NONE, 0, 0, Due.NONE, 0, 0, 0, 0, 0);
        due.has("anew", x, 0, 0, 7, 8, 9, 8, 7, 6, 0, 0, 0, 0, 0, 0, 0, 0, 0);
        due.has("anew", x, 1, 0, 9, 0, 1, 2, 3, 4, 16, 0, 0, 0, 0, 0, 0, 0, 0);
        due.is("anew: met(0, 1)", x.met(0, 1), 0);
        due.is("anew: duellist(2, 0)", x.duellist(2, 0), Due.UNKNOWN);
        due.is("anew: compliment(1, 0)", x.compliment(1, 0), Due.UNKNOWN);
        due.is("anew: vain(0, 0)", x.vain(0, 0), 1023);
        due.is("anew: undo(1)", x.undo(1), Due.NOT);
        due.is("anew: goBack(0)", x.goBack(0), Due.NOT);
        due.is("anew: goBack(1)", x.goBack(1), Due.NOT);
        due.is("anew: the seed stays", x.seed(1), 99);
        due.is("anew: nobody", x.meadow(), 0);
        due.tells("nobody", x, 0, 0, 0, Due.NONE, Due.NONE, 0, 0, Due.NONE, 0, 0, 0, 0, 0);
    }

    private static void told() {
        PraiseDuels x = Due.meadow(THREE);
        due.is("told(-1)", x.told(-1), Due.OUTSIDE);
        due.is("told(13)", x.told(13), Due.OUTSIDE);
        due.tells("no DUEL", x, 3, 6, 0, Due.NONE, Due.NONE, 0, 0, Due.NONE, 0, 0, 0, 0, 0);
        x.duel(2, 1);
        due.tells("a DUEL", x, 3, 6, 0, 2, 1, 0, 0, 2, 0, 0, 0, 0, 0);
        x.say(3);
        due.tells("one turn", x, 3, 6, 0, 2, 1, 0, 1, 1, 8, 0, 0, 0, 0);
        x.say(1);
        due.tells("two turns", x, 3, 6, 0, 2, 1, 0, 2, 2, 10, 0, 0, 0, 0);
        x.pass();
        due.is("told(12), one PASS", x.told(12), 1);
        x.sorry();
        due.tells("an apology", x, 3, 6, 0, 2, 1, 0, 4, 2, 10, 0, 0, 0, 0);
        x.pass();
        x.pass();
        due.tells("a draw", x, 3, 6, 0, 2, 1, 3, 6, Due.NONE, 10, 0, 0, 0, 2);
        x.feed(32);
        x.warm(0, 0, 0, 0);
        x.cheek(0);
        x.cheek(0);
        x.write(9);
        x.write(9);
        x.write(9);
        due.tells("what was seen", x, 3, 6, 1, 2, 1, 3, 6, Due.NONE, 10, 1, 2, 3, 2);
    }

    private static void duellist() {
        PraiseDuels x = Due.meadow(THREE);
        due.is("duellist(-1, 0)", x.duellist(-1, 0), Due.UNKNOWN);
        due.is("duellist(3, 0)", x.duellist(3, 0), Due.UNKNOWN);
        due.is("duellist(3, 15)", x.duellist(3, 15), Due.UNKNOWN);
        due.is("duellist(2, 15)", x.duellist(2, 15), Due.OUTSIDE);
        due.is("duellist(2, -1)", x.duellist(2, -1), Due.OUTSIDE);
        due.has("no DUEL", x, 0, 0, 30, 3, 4, 2, 0, 9, 1, 0, 0, 0, 0, 0, 0, 0, 0);
        due.has("no DUEL", x, 1, 0, 40, 5, 1, 5, 3, 2, 2, 0, 0, 0, 0, 0, 0, 0, 0);
        due.has("no DUEL", x, 2, 0, 25, 0, 9, 9, 9, 9, 4, 0, 0, 0, 0, 0, 0, 0, 0);
        x.duel(1, 0);
        x.say(0);
        x.say(4);
        x.say(3);
        due.has("in a DUEL", x, 0, 7, 0, 35, 1, 4, 1, 0, 0, 1);
        due.has("in a DUEL", x, 1, 7, 2, 0, 0, 4, 0, 0, 1, 0);
        due.has("not in it", x, 2, 7, 0, 0, 0, 0, 0, 0, 0, 0);
        due.is("35 is LINE 30 or more", x.told(5), 1);
        due.is("points", x.duellist(1, 7), 2);
        x.duel(1, 2);
        due.has("a new DUEL", x, 1, 7, 2, 0, 0, 0, 0, 0, 0, 0);
        due.has("left", x, 0, 7, 0, 0, 0, 0, 0, 0, 0, 0);
    }

    private static void compliment() {
        PraiseDuels x = Due.meadow(THREE);
        int[][] want = {{0, 5, 3, 8, 8}, {1, 6, 2, 0, 8}, {1, 3, 9, 0, 1}, {3, 2, 1, 8, 8}, {2, 9, 4, 2, 3},
            {0, 4, 1, 8, 1}};
        for (int c = 0; c < want.length; c++) {
            for (int what = 0; what < 5; what++) {
                due.is("compliment(" + c + ", " + what + ")", x.compliment(c, what), want[c][what]);
            }
        }
        due.is("compliment(-1, 0)", x.compliment(-1, 0), Due.UNKNOWN);
        due.is("compliment(6, 0)", x.compliment(6, 0), Due.UNKNOWN);
        due.is("compliment(6, 5)", x.compliment(6, 5), Due.UNKNOWN);
        due.is("compliment(0, 5)", x.compliment(0, 5), Due.OUTSIDE);
        due.is("compliment(0, -1)", x.compliment(0, -1), Due.OUTSIDE);
    }

    private static void truthAndEffect() {
        PraiseDuels x = Due.meadow(THREE);
        int[][] truths = {{2, 2, 2}, {2, 0, 0}, {1, 1, 0}, {2, 2, 2}, {0, 0, 1}, {0, 2, 0}};
        int[][] effects = {{20, 5, 45}, {12, 0, 0}, {3, 7, 0}, {18, 4, 18}, {0, 0, 40}, {0, 4, 0}};
        for (int c = 0; c < truths.length; c++) {
            for (int d = 0; d < 3; d++) {
                due.is("truth(" + c + ", " + d + ")", x.truth(c, d), truths[c][d]);
                due.is("effect(" + c + ", " + d + ")", x.effect(c, d), effects[c][d]);
            }
        }
        due.is("truth(6, 0)", x.truth(6, 0), Due.UNKNOWN);
        due.is("truth(-1, 0)", x.truth(-1, 0), Due.UNKNOWN);
        due.is("truth(0, 3)", x.truth(0, 3), Due.UNKNOWN);
        due.is("truth(0, -1)", x.truth(0, -1), Due.UNKNOWN);
        due.is("effect(6, 0)", x.effect(6, 0), Due.UNKNOWN);
        due.is("effect(-1, 0)", x.effect(-1, 0), Due.UNKNOWN);
        due.is("effect(0, 3)", x.effect(0, 3), Due.UNKNOWN);
        due.is("effect(0, -1)", x.effect(0, -1), Due.UNKNOWN);
        x.act(2, 3);
        due.is("truth behind a DEED", x.truth(4, 2), 2);
        due.is("effect behind a DEED", x.effect(4, 2), 81);
        x.vanity(2, 2, 3);
        due.is("effect behind a VANITY", x.effect(4, 2), 27);
        effectHalved();
        twiceTheSameDeed();
    }

    private static void effectHalved() {
        PraiseDuels x = Due.meadow("d999 0 9 0 0 0;d999 0 9 0 0 0;d1 0 9 0 0 0;c0 9 1 8 8;c0 9 1 8 8;c0 9 1 0 1;"
                + "c0 1 1 7 7;c0 9 1 8 8;e0 1;e1 1;e2 1;");
        x.duel(1, 0);
        for (int c = 0; c < 3; c++) {
            due.is("effect(0, 0) told " + c, x.effect(0, 0), 81 >> c);
            due.is("effect(2, 0) told " + c, x.effect(2, 0), 40 >> c);
            due.is("effect(0, 1) not told", x.effect(0, 1), 81);
            due.is("effect(0, 2) not in the DUEL", x.effect(0, 2), 81);
            x.say(c);
            x.pass();
        }
        due.is("blush 81 and 40 and 10", x.duellist(0, 8), 81 + 40 + 10);
        due.is("told thrice", x.duellist(0, 11), 3);
        x.say(3);
        due.is("a FALSE one was told, too", x.duellist(0, 11), 4);
        due.is("81 / 16", x.effect(4, 0), 5);
        due.is("a new DUEL", x.duel(0, 1), 0);
        due.is("first told again", x.effect(4, 0), 81);
    }

    private static void twiceTheSameDeed() {
        PraiseDuels x = Due.meadow("d9 0 5 5 5 5;c0 3 1 4 4;c1 3 1 4 5;");
        due.is("neither", x.truth(0, 0), 0);
        due.is("neither of two", x.truth(1, 0), 0);
        x.act(0, 4);
        due.is("the one", x.truth(0, 0), 2);
        due.is("one of two", x.truth(1, 0), 1);
        due.is("15 / 2", x.effect(1, 0), 7);
        x.act(0, 5);
        due.is("both", x.truth(1, 0), 2);
    }
}
