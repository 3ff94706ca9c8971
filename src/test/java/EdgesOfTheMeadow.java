/** Promises 1, 3, 5 to 9: a new object, what a new MEADOW empties, what is told of all; what is TRUE, and EFFECTS. */
final class EdgesOfTheMeadow {
    // d0 has done 0; of it c0 is TRUE without any DEED, c1 TRUE, c2 HALF true, c3 FALSE, c4 FALSE
    private static final String TRUTHS = "d999 0 9 7 5 0;d999 0 9 9 9 9;c0 9 1 8 8;c0 9 1 0 8;c0 9 1 0 7;c0 9 1 8 7;"
            + "c0 9 1 6 7;e0 0;";
    private final Edges edges;

    EdgesOfTheMeadow(Edges edges) {
        this.edges = edges;
    }

    void all() {
        newObject();
        numbersFromNone();
        callsOfAnObject();
        anew();
        allElse();
        told();
        toldOfNoDuel();
        duellist();
        notInTheDuel();
        compliment();
        truth();
        effect();
        toldBefore();
    }

    private static PraiseDuels three() {
        return Due.meadow(MeadowTest.THREE);
    }

    // ---- promise 1

    private void newObject() {
        edges.sentence(1, "Nobody,");
        PraiseDuels x = new PraiseDuels();
        edges.is("told(0)", x.told(0), 0);
        edges.is("duellist(0, 0)", x.duellist(0, 0), Due.UNKNOWN);
        edges.is("act(0, 0)", x.act(0, 0), Due.UNKNOWN);
        edges.is("vain(0, 0)", x.vain(0, 0), Due.UNKNOWN);
        edges.is("league(2)", x.league(2), 0);
        edges.sentence(1, "no COMPLIMENTS,");
        edges.is("told(1)", x.told(1), 0);
        edges.is("compliment(0, 0)", x.compliment(0, 0), Due.UNKNOWN);
        edges.is("shared(0, 0)", x.shared(0, 0), Due.UNKNOWN);
        edges.is("write(0)", x.write(0), Due.UNKNOWN);
        edges.sentence(1, "no DUEL.");
        edges.tells("a new object", x, 0, 0, 0, Due.NONE, Due.NONE, 0, 0, Due.NONE, 0, 0, 0, 0, 0);
        edges.is("pass()", x.pass(), Due.NOT);
        edges.is("powder()", x.powder(), Due.NOT);
        edges.is("judge(1)", x.judge(1), Due.NOT);
        edges.is("undo(1)", x.undo(1), Due.NOT);
        edges.is("duel(0, 1)", x.duel(0, 1), Due.UNKNOWN);
    }

    private void numbersFromNone() {
        edges.sentence(1, "What has a number has it from 0 on, as it comes.");
        PraiseDuels x = Due.meadow("d5 0 0 0 0 0;c0 1 5 8 8;d6 0 0 0 0 0;c0 1 6 8 8;");
        edges.is("the first 'd' is 0", x.duellist(0, 0), 5);
        edges.is("the second 'd' is 1", x.duellist(1, 0), 6);
        edges.is("the first 'c' is 0", x.compliment(0, 2), 5);
        edges.is("the second 'c' is 1", x.compliment(1, 2), 6);
        edges.sentence(1, "NONE is -1.");
        edges.is("NONE", PraiseDuels.NONE, -1);
        edges.is("nothing there", new PraiseDuels().told(3), PraiseDuels.NONE);
        edges.sentence(1, "A SET is a whole number, bit k for k.");
        edges.is("DEED 0", x.act(1, 0), 1);
        edges.is("DEED 7", x.act(1, 7), 129);
    }

    private void callsOfAnObject() {
        edges.sentence(1, "All numbers are whole; / cuts towards 0.");
        edges.is("the half of 81", Due.meadow(TRUTHS).effect(2, 0), 40);
        PraiseDuels x = new PraiseDuels();
        for (int i = 1; i <= 250; i++) {
            edges.is("feed(' ')", x.feed(' '), i);
        }
        edges.is("meadow(), the 251st call", x.meadow(), 0);
        for (int i = 1; i <= 250; i++) {
            edges.is("feed(' ')", x.feed(' '), i);
        }
        edges.is("meadow(), the 502nd call", x.meadow(), 0);
        for (int i = 1; i <= 10; i++) {
            edges.is("write(8), the 512th call at last", x.write(8), i);
        }
    }

    // ---- promise 3

    /** All that a MEADOW may have gathered. */
    private static PraiseDuels used() {
        PraiseDuels x = three();
        x.act(0, 5);
        x.vanity(0, 0, 8);
        x.duel(0, 1);
        x.pass();
        x.pass();
        x.duel(1, 0);
        x.say(3);
        x.warm(0, 0, 0, 20);
        x.cheek(7);
        x.cheek(8);
        x.write(8);
        x.write(8);
        x.write(8);
        x.seed(99);
        x.keep(0);
        x.keep(1);
        return x;
    }

    private void anew() {
        PraiseDuels x = used();
        Due.feedAll(x, MeadowTest.THREE);
        x.meadow();
        edges.sentence(3, "(no DUEL,");
        edges.is("told(3)", x.told(3), Due.NONE);
        edges.is("told(4)", x.told(4), Due.NONE);
        edges.is("told(6)", x.told(6), 0);
        edges.is("told(8)", x.told(8), 0);
        edges.is("pass()", x.pass(), Due.NOT);
        edges.is("undo(1)", x.undo(1), Due.NOT);
        edges.has("BLUSH and the rest", x, 0, 8, 0, 0, 0, 0, 0, 0, 0);
        edges.sentence(3, "THE LEAGUE empty;");
        edges.is("points", x.duellist(0, 7), 0);
        edges.is("points", x.duellist(1, 7), 0);
        edges.is("met(0, 1)", x.met(0, 1), 0);
        edges.sentence(3, "nothing WARMED,");
        edges.is("told(9)", x.told(9), 0);
        edges.is("vain(0, 0)", x.vain(0, 0), 1023);
        edges.sentence(3, "no CHEEKS,");
        edges.is("told(10)", x.told(10), 0);
        edges.sentence(3, "no BOOK;");
        edges.is("told(11)", x.told(11), 0);
        edges.is("tear()", x.tear(), 0);
        edges.sentence(3, "IMAGES are gone;");
        edges.is("goBack(0)", x.goBack(0), Due.NOT);
        edges.is("goBack(1)", x.goBack(1), Due.NOT);
        edges.sentence(3, "THE SEED stays):");
        edges.is("seed(0)", x.seed(0), 99);
        edges.has("DEEDS and VANITIES are those of the text", x, 0, 2, 4, 2, 0, 9, 1);
    }

    private void allElse() {
        edges.sentence(3, "(all else is as it was).");
        PraiseDuels x = used();
        Due.feedAll(x, "d1 0 0 0 0 0;c0 1 1 8 8;e0 0;e0 0;");
        edges.is("meadow()", x.meadow(), -14);
        edges.tells("all as it was", x, 3, 6, 0, 1, 0, 0, 1, 0, 8, 1, 2, 3, 0);
        edges.has("all as it was", x, 0, 0, 30, 3, 8, 2, 0, 9, 33, 1, 18, 0, 0, 0, 0, 0, 1);
        edges.has("all as it was", x, 1, 7, 1, 0, 0, 1);
        edges.is("a COMPLIMENT", x.compliment(0, 1), 5);
        edges.is("vain(0, 0)", x.vain(0, 0), 16);
        edges.is("met(0, 1)", x.met(0, 1), 1);
        edges.is("judge(0)", x.judge(0), 2);
        edges.is("undo(1)", x.undo(1), 0);
        edges.is("goBack(0)", x.goBack(0), 1);
        edges.is("goBack(1)", x.goBack(1), 1);
        edges.is("seed(0)", x.seed(0), 99);
    }

    // ---- promise 5

    private void told() {
        edges.sentence(5, "0 DUELLISTS, 1 COMPLIMENTS, 2 letters of THE TEXT,");
        PraiseDuels x = three();
        Due.feedAll(x, "xy");
        edges.tells("three", x, 3, 6, 2);
        edges.sentence(5, "6 turns,");
        x.duel(2, 0);
        edges.is("told(6), a new DUEL", x.told(6), 0);
        x.pass();
        edges.is("told(6), a PASS", x.told(6), 1);
        edges.sentence(5, "8 COMPLIMENTS said (a SET),");
        edges.is("told(8), none", x.told(8), 0);
        x.say(5);
        edges.is("told(8), the greatest", x.told(8), 32);
        x.say(0);
        edges.is("told(8), and the least", x.told(8), 33);
        edges.sentence(5, "9 how many were WARMED, 10 CHEEKS, 11 turns of THE BOOK,");
        x.warm(0, 0, 0, 0);
        x.cheek(0);
        x.cheek(0);
        x.write(8);
        x.write(8);
        x.write(8);
        edges.is("told(9)", x.told(9), 1);
        edges.is("told(10)", x.told(10), 2);
        edges.is("told(11)", x.told(11), 3);
        edges.sentence(5, "12 PASSES one behind the other now.");
        edges.is("told(12), none", x.told(12), 0);
        x.pass();
        edges.is("told(12), one", x.told(12), 1);
        x.say(2);
        edges.is("told(12), one, but not now", x.told(12), 0);
        x.pass();
        x.pass();
        edges.is("told(12), two", x.told(12), 2);
        edges.sentence(5, "OUTSIDE.");
        edges.is("told(-1)", x.told(-1), Due.OUTSIDE);
        edges.is("told(13)", x.told(13), Due.OUTSIDE);
        edges.is("told(MAX)", x.told(Integer.MAX_VALUE), Due.OUTSIDE);
        edges.is("told(MIN)", x.told(Integer.MIN_VALUE), Due.OUTSIDE);
    }

    private void toldOfNoDuel() {
        PraiseDuels x = three();
        edges.sentence(5, "3 the first one of the DUEL (NONE), 4 the other one (NONE),");
        edges.is("told(3), no DUEL", x.told(3), Due.NONE);
        edges.is("told(4), no DUEL", x.told(4), Due.NONE);
        x.duel(2, 0);
        edges.is("told(3)", x.told(3), 2);
        edges.is("told(4)", x.told(4), 0);
        edges.sentence(5, "5 RESULT (0 without a DUEL),");
        edges.is("told(5), no DUEL", three().told(5), 0);
        edges.is("told(5), it goes on", x.told(5), 0);
        edges.sentence(5, "7 whose turn it is (NONE without a DUEL that goes on),");
        edges.is("told(7), no DUEL", three().told(7), Due.NONE);
        edges.is("told(7), the first one", x.told(7), 2);
        x.pass();
        edges.is("told(7), the other one", x.told(7), 0);
        x.pass();
        edges.is("told(7), over", x.told(7), Due.NONE);
        edges.is("told(5), over", x.told(5), 3);
        edges.is("told(3), over", x.told(3), 2);
        edges.is("told(4), over", x.told(4), 0);
        edges.is("told(6), over", x.told(6), 2);
        x.undo(1);
        edges.is("told(7), it goes on again", x.told(7), 0);
    }

    // ---- promise 6

    private void duellist() {
        edges.sentence(6, "Of a DUELLIST: what = 0 LINE, 1 COOL, 2 to 5 VANITIES, 6 DEEDS (a SET), 7 points,");
        PraiseDuels x = three();
        edges.has("the first one", x, 0, 0, 30, 3, 4, 2, 0, 9, 1, 0);
        edges.has("the last one", x, 2, 0, 25, 0, 9, 9, 9, 9, 4, 0);
        edges.sentence(6, "8 BLUSH, 9 FOULS, 10 WORDS, 11 to 14 how often each TOPIC was told to it");
        x.duel(1, 0);
        x.say(0);
        x.say(4);
        edges.has("in the DUEL", x, 0, 8, 17, 1, 4, 1, 0, 0, 0);
        edges.has("in the DUEL", x, 1, 8, 0, 0, 3, 0, 0, 1, 0);
        edges.sentence(6, "UNKNOWN,");
        edges.is("duellist(-1, 0)", x.duellist(-1, 0), Due.UNKNOWN);
        edges.is("duellist(3, 0)", x.duellist(3, 0), Due.UNKNOWN);
        edges.is("duellist(3, 8)", x.duellist(3, 8), Due.UNKNOWN);
        edges.is("duellist(MIN, 0)", x.duellist(Integer.MIN_VALUE, 0), Due.UNKNOWN);
        edges.is("duellist(MAX, 0)", x.duellist(Integer.MAX_VALUE, 0), Due.UNKNOWN);
        edges.sentence(6, "OUTSIDE.");
        edges.is("duellist(0, -1)", x.duellist(0, -1), Due.OUTSIDE);
        edges.is("duellist(0, 15)", x.duellist(0, 15), Due.OUTSIDE);
        edges.is("duellist(2, 15), not in the DUEL", x.duellist(2, 15), Due.OUTSIDE);
        edges.is("duellist(2, MAX)", x.duellist(2, Integer.MAX_VALUE), Due.OUTSIDE);
        edges.is("duellist(2, MIN)", x.duellist(2, Integer.MIN_VALUE), Due.OUTSIDE);
    }

    private void notInTheDuel() {
        edges.sentence(6, "(8 and on: 0 for who is not in the DUEL).");
        PraiseDuels x = three();
        edges.has("no DUEL", x, 0, 8, 0, 0, 0, 0, 0, 0, 0);
        edges.has("no DUEL", x, 2, 8, 0, 0, 0, 0, 0, 0, 0);
        x.duel(1, 0);
        x.say(3);
        x.say(4);
        edges.has("one who is in it", x, 0, 8, 15, 1, 4, 0, 0, 0, 1);
        edges.has("one who is not", x, 2, 8, 0, 0, 0, 0, 0, 0, 0);
        x.pass();
        x.pass();
        edges.has("it is over", x, 0, 8, 12, 1, 4, 0, 0, 0, 1);
        edges.is("points of who is not in it now", x.duellist(0, 7), 1);
        x.duel(2, 1);
        edges.is("points of who is not in it now", x.duellist(0, 7), 1);
        edges.has("no longer in it", x, 0, 8, 0, 0, 0, 0, 0, 0, 0);
        edges.has("anew in it", x, 1, 8, 0, 0, 0, 0, 0, 0, 0);
    }

    // ---- promise 7

    private void compliment() {
        edges.sentence(7, "Of a COMPLIMENT: what = 0 TOPIC, 1 STRENGTH, 2 WORDS, 3 N, 4 M (8: none).");
        PraiseDuels x = Due.meadow("c3 1 9 0 7;c0 1 1 8 8;c0 1 1 8 8;c0 1 1 8 8;c0 1 1 8 8;c0 1 1 8 8;c0 1 1 8 8;c0 9 1 7 8;");
        int[] first = {3, 1, 9, 0, 7};
        int[] last = {0, 9, 1, 7, 8};
        for (int what = 0; what < 5; what++) {
            edges.is("compliment(0, " + what + ")", x.compliment(0, what), first[what]);
            edges.is("compliment(7, " + what + ")", x.compliment(7, what), last[what]);
        }
        edges.sentence(7, "UNKNOWN,");
        edges.is("compliment(-1, 0)", x.compliment(-1, 0), Due.UNKNOWN);
        edges.is("compliment(8, 0)", x.compliment(8, 0), Due.UNKNOWN);
        edges.is("compliment(6, 0), of six", three().compliment(6, 0), Due.UNKNOWN);
        edges.is("compliment(MIN, 0)", x.compliment(Integer.MIN_VALUE, 0), Due.UNKNOWN);
        edges.is("compliment(MAX, 0)", x.compliment(Integer.MAX_VALUE, 0), Due.UNKNOWN);
        edges.sentence(7, "OUTSIDE.");
        edges.is("compliment(0, -1)", x.compliment(0, -1), Due.OUTSIDE);
        edges.is("compliment(0, 5)", x.compliment(0, 5), Due.OUTSIDE);
        edges.is("compliment(0, MIN)", x.compliment(0, Integer.MIN_VALUE), Due.OUTSIDE);
        edges.is("compliment(0, MAX)", x.compliment(0, Integer.MAX_VALUE), Due.OUTSIDE);
    }

    // ---- promises 8 and 9

    private void truth() {
        PraiseDuels x = Due.meadow(TRUTHS);
        edges.sentence(8, "What a COMPLIMENT is of a DUELLIST: 2 TRUE, 1 HALF true, 0 FALSE.");
        edges.is("truth(1, 0)", x.truth(1, 0), 2);
        edges.is("truth(2, 0)", x.truth(2, 0), 1);
        edges.is("truth(3, 0)", x.truth(3, 0), 0);
        edges.sentence(8, "A COMPLIMENT is TRUE of one who has done all DEEDS that it needs,");
        edges.is("it needs none", x.truth(0, 0), 2);
        edges.is("it needs none", x.truth(0, 1), 2);
        x.act(1, 0);
        x.act(1, 7);
        edges.is("one of one", x.truth(1, 1), 2);
        edges.is("two of two", x.truth(2, 1), 2);
        edges.is("one of one, told as M", x.truth(3, 1), 2);
        edges.sentence(8, "HALF true of one who has done one of two,");
        edges.is("the N of N and M", x.truth(2, 0), 1);
        edges.is("the M of N and M", x.truth(4, 1), 1);
        edges.sentence(8, "else FALSE.");
        edges.is("none of one, told as M", x.truth(3, 0), 0);
        edges.is("none of two", x.truth(4, 0), 0);
        PraiseDuels y = Due.meadow("d1 0 0 0 0 0;c0 1 1 7 7;");
        edges.is("none of a DEED told twice", y.truth(0, 0), 0);
        y.act(0, 7);
        edges.is("a DEED told twice is all", y.truth(0, 0), 2);
        edges.sentence(8, "UNKNOWN.");
        edges.is("truth(-1, 0)", x.truth(-1, 0), Due.UNKNOWN);
        edges.is("truth(5, 0)", x.truth(5, 0), Due.UNKNOWN);
        edges.is("truth(0, -1)", x.truth(0, -1), Due.UNKNOWN);
        edges.is("truth(0, 2)", x.truth(0, 2), Due.UNKNOWN);
        edges.is("truth(MAX, MIN)", x.truth(Integer.MAX_VALUE, Integer.MIN_VALUE), Due.UNKNOWN);
    }

    private void effect() {
        PraiseDuels x = Due.meadow(TRUTHS);
        edges.sentence(9, "EFFECT on one: S times the VANITY of its TOPIC,");
        edges.is("9 times 9, the greatest", x.effect(0, 0), 81);
        x.vanity(0, 0, 1);
        edges.is("9 times 1", x.effect(0, 0), 9);
        x.vanity(0, 0, 0);
        edges.is("9 times 0", x.effect(0, 0), 0);
        x.vanity(0, 0, 9);
        edges.sentence(9, "half of that (cut), if HALF true,");
        edges.is("the half of 81", x.effect(2, 0), 40);
        x.vanity(0, 0, 8);
        edges.is("the half of 72", x.effect(2, 0), 36);
        PraiseDuels y = Due.meadow("d1 0 1 1 1 1;c0 1 1 0 1;e0 1;");
        edges.is("the half of 1", y.effect(0, 0), 0);
        edges.sentence(9, "none, if FALSE;");
        edges.is("none of one DEED", x.effect(3, 0), 0);
        edges.is("none of two DEEDS", x.effect(4, 0), 0);
        edges.sentence(9, "UNKNOWN.");
        edges.is("effect(-1, 0)", x.effect(-1, 0), Due.UNKNOWN);
        edges.is("effect(5, 0)", x.effect(5, 0), Due.UNKNOWN);
        edges.is("effect(0, -1)", x.effect(0, -1), Due.UNKNOWN);
        edges.is("effect(0, 2)", x.effect(0, 2), Due.UNKNOWN);
        edges.is("effect(MIN, MAX)", x.effect(Integer.MIN_VALUE, Integer.MAX_VALUE), Due.UNKNOWN);
    }

    private void toldBefore() {
        edges.sentence(9, "halved (cut) once for each time that its TOPIC was told to that one in this DUEL.");
        PraiseDuels x = Due.meadow("d999 0 0 0 0 0;d999 0 9 9 0 0;d1 0 9 9 0 0;c0 9 1 8 8;c0 9 1 8 8;c0 9 1 8 8;"
                + "c0 9 1 8 8;c0 9 1 8 8;c0 9 1 0 1;c0 9 1 8 8;c0 9 1 8 8;e1 0;");
        x.duel(0, 1);
        int[] whole = {81, 40, 20, 10, 5, 2, 1, 0};
        int[] half = {40, 20, 10, 5, 2, 1, 0, 0};
        for (int told = 0; told < 8; told++) {
            edges.is("effect(7, 1), told " + told, x.effect(7, 1), whole[told]);
            edges.is("effect(5, 1), HALF true, told " + told, x.effect(5, 1), half[told]);
            edges.is("say(" + told + ")", x.say(told), 0);
            x.pass();
        }
        edges.is("told 8 times", x.effect(0, 1), 0);
        edges.has("BLUSH", x, 1, 8, 81 + 40 + 20 + 10 + 5 + 1 + 1);
        edges.sentence(9, "EFFECT of a COMPLIMENT on a DUELLIST now (who is not in the DUEL: first told).");
        edges.is("who is not in the DUEL", x.effect(0, 2), 81);
        edges.is("told to the other one alone", x.effect(0, 0), 0);
        x.vanity(0, 0, 9);
        edges.is("told to the other one alone", x.effect(0, 0), 81);
        x.duel(1, 0);
        edges.is("a new DUEL", x.effect(0, 1), 81);
        x.say(0);
        edges.is("who is told", x.effect(1, 0), 40);
        edges.is("who tells", x.effect(1, 1), 81);
        x.duel(2, 1);
        edges.is("who is no longer in it", x.effect(1, 0), 81);
    }
}
