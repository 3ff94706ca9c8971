/** Promises 26 to 34: what was WARMED, CHEEKS, THE BOOK, and what section 3 of the terms says of them. */
final class EdgesOfNotes {
    private static final String FOUR = "c0 1 1 8 8;c1 1 1 8 8;c2 1 1 8 8;c3 1 1 8 8;";
    private final Edges edges;

    EdgesOfNotes(Edges edges) {
        this.edges = edges;
    }

    void all() {
        warm();
        warmRefused();
        vain();
        vainRefused();
        probe();
        probeRefused();
        cheek();
        said();
        saidBetween();
        saidRefused();
        firstRow();
        surely();
        write();
        wrong();
        judge();
        judgeRefused();
        tear();
    }

    private static PraiseDuels three() {
        return Due.meadow(MeadowTest.THREE);
    }

    // ---- promise 26

    private void warm() {
        edges.sentence(26, "WARMED (12 at most): a COMPLIMENT was said to a DUELLIST,");
        PraiseDuels x = three();
        for (int i = 1; i <= 12; i++) {
            edges.is("the " + i + ". one", x.warm(5, 2, 9, 99), i);
        }
        edges.is("the 13. one", x.warm(5, 2, 9, 99), Due.FULL);
        edges.sentence(26, "its TOPIC having been told so often (0 .. 9) ahead of it,");
        x = three();
        edges.is("told 0 times", x.warm(0, 0, 0, 0), 1);
        edges.is("told 9 times", x.warm(0, 0, 9, 0), 2);
        edges.is("told -1 times", x.warm(0, 0, -1, 0), Due.OUTSIDE);
        edges.is("told 10 times", x.warm(0, 0, 10, 0), Due.OUTSIDE);
        edges.sentence(26, "and was so much EFFECT (0 .. 99;");
        edges.is("EFFECT 0", x.warm(0, 0, 0, 0), 3);
        edges.is("EFFECT 99", x.warm(0, 0, 0, 99), 4);
        edges.is("EFFECT -1", x.warm(0, 0, 0, -1), Due.OUTSIDE);
        edges.is("EFFECT 100", x.warm(0, 0, 0, 100), Due.OUTSIDE);
        edges.sentence(26, "WARMED: how much.");
        edges.is("told(9)", x.told(9), 4);
        edges.is("five", x.warm(5, 2, 0, 0), 5);
    }

    private void warmRefused() {
        PraiseDuels x = three();
        edges.sentence(26, "UNKNOWN,");
        edges.is("warm(-1, 0, 0, 0)", x.warm(-1, 0, 0, 0), Due.UNKNOWN);
        edges.is("warm(6, 0, 0, 0)", x.warm(6, 0, 0, 0), Due.UNKNOWN);
        edges.is("warm(0, -1, 0, 0)", x.warm(0, -1, 0, 0), Due.UNKNOWN);
        edges.is("warm(0, 3, 0, 0)", x.warm(0, 3, 0, 0), Due.UNKNOWN);
        edges.is("warm(MAX, MIN, 0, 0)", x.warm(Integer.MAX_VALUE, Integer.MIN_VALUE, 0, 0), Due.UNKNOWN);
        edges.sentence(26, "OUTSIDE,");
        edges.is("warm(0, 0, MIN, 0)", x.warm(0, 0, Integer.MIN_VALUE, 0), Due.OUTSIDE);
        edges.is("warm(0, 0, MAX, 0)", x.warm(0, 0, Integer.MAX_VALUE, 0), Due.OUTSIDE);
        edges.is("warm(0, 0, 0, MIN)", x.warm(0, 0, 0, Integer.MIN_VALUE), Due.OUTSIDE);
        edges.is("warm(0, 0, 0, MAX)", x.warm(0, 0, 0, Integer.MAX_VALUE), Due.OUTSIDE);
        edges.is("none is WARMED", x.told(9), 0);
        edges.sentence(26, "FULL (12).");
        for (int i = 0; i < 11; i++) {
            x.warm(3, 0, 0, 18);
        }
        edges.is("the twelfth one", x.warm(0, 0, 0, 20), 12);
        edges.is("the thirteenth one", x.warm(0, 0, 0, 25), Due.FULL);
        edges.is("told(9)", x.told(9), 12);
        edges.is("by the twelfth one, not by the thirteenth one", x.vain(0, 0), 16);
        edges.is("by the eleven ahead", x.vain(0, 3), 512);
        edges.is("torn", x.tear(), 12);
        edges.is("there is room again", x.warm(0, 0, 0, 25), 1);
    }

    // ---- promise 27

    /** The SET by one that is WARMED alone. */
    private int vainBy(int c, int d, int times, int effect) {
        PraiseDuels x = three();
        x.warm(c, d, times, effect);
        return x.vain(d, x.compliment(c, 0));
    }

    private void vain() {
        edges.sentence(27, "VANITY of a TOPIC: numbers (a SET of 0 to 9) by which all WARMED of one in that TOPIC is so.");
        PraiseDuels x = three();
        edges.is("nothing is WARMED: all", x.vain(0, 0), 1023);
        edges.is("the least", vainBy(0, 0, 0, 0), 1);
        edges.is("the greatest", vainBy(0, 0, 0, 45), 512);
        edges.is("one more", vainBy(0, 0, 0, 46), 0);
        edges.is("none", vainBy(0, 0, 0, 44), 0);
        edges.is("half of 3 times 9, the greatest", vainBy(2, 0, 0, 13), 512);
        edges.is("half of 3 times 0, the least", vainBy(2, 0, 0, 0), 1);
        edges.is("FALSE: 0 by all", vainBy(4, 0, 0, 0), 1023);
        edges.is("FALSE: 1 by none", vainBy(4, 0, 0, 1), 0);
        edges.is("told 9 times: 0 by all", vainBy(0, 0, 9, 0), 1023);
        edges.is("told 9 times: 1 by none", vainBy(0, 0, 9, 1), 0);
        edges.is("told 5 times: 45 / 32", vainBy(0, 0, 5, 1), 512 + 256 + 128);
        x.warm(0, 1, 0, 20);
        x.warm(1, 0, 0, 12);
        edges.is("not of the other one", x.vain(0, 0), 1023);
        edges.is("not of the other TOPIC", x.vain(1, 1), 1023);
        edges.is("of this one", x.vain(1, 0), 16);
        x.warm(0, 1, 3, 2);
        edges.is("by both", x.vain(1, 0), 16);
        x.warm(0, 1, 3, 3);
        edges.is("by none of all", x.vain(1, 0), 0);
        edges.sentence(27, "by DEEDS as they are now).");
        x = three();
        x.warm(2, 2, 0, 9);
        edges.is("FALSE", x.vain(2, 1), 0);
        x.act(2, 0);
        edges.is("HALF true", x.vain(2, 1), 64);
        x.act(2, 1);
        edges.is("TRUE", x.vain(2, 1), 8);
    }

    private void vainRefused() {
        PraiseDuels x = three();
        edges.sentence(27, "VANITY of a TOPIC (0 .. 3): the SET.");
        edges.is("the least TOPIC", x.vain(2, 0), 1023);
        edges.is("the greatest TOPIC", x.vain(2, 3), 1023);
        edges.sentence(27, "UNKNOWN,");
        edges.is("vain(-1, 0)", x.vain(-1, 0), Due.UNKNOWN);
        edges.is("vain(3, 0)", x.vain(3, 0), Due.UNKNOWN);
        edges.is("vain(MIN, 0)", x.vain(Integer.MIN_VALUE, 0), Due.UNKNOWN);
        edges.sentence(27, "OUTSIDE.");
        edges.is("vain(0, -1)", x.vain(0, -1), Due.OUTSIDE);
        edges.is("vain(0, 4)", x.vain(0, 4), Due.OUTSIDE);
        edges.is("vain(0, MAX)", x.vain(0, Integer.MAX_VALUE), Due.OUTSIDE);
    }

    // ---- promise 28

    private void probe() {
        edges.sentence(28, "PROBE: the COMPLIMENT (first told) of a TOPIC whose EFFECTS part these best: the greatest part is least;");
        // of d0: c0 and c1 HALF true, c2 TRUE, c3 FALSE; halves of 0 to 9 by two make 5 parts, by three 10 but for 1
        PraiseDuels x = Due.meadow("d9 0 0 0 0 0;d9 0 0 0 0 0;c0 1 1 0 1;c0 1 1 0 2;c0 1 1 0 8;c0 1 1 1 8;c1 1 1 0 1;c1 2 1 0 1;"
                + "c2 1 1 1 8;e0 0;");
        edges.is("ten parts of one", x.probe(0, 0), 2);
        edges.is("2 by halves as 1 by whole ones", x.probe(0, 1), 5);
        x.duel(1, 0);
        x.say(0);
        edges.is("first told", x.probe(0, 0), 2);
        edges.sentence(28, "of like ones the least;");
        PraiseDuels y = Due.meadow("d9 0 0 0 0 0;c1 9 1 8 8;c0 1 1 8 8;c0 9 1 8 8;");
        edges.is("ten parts of one by each", y.probe(0, 0), 1);
        y.warm(2, 0, 0, 81);
        edges.is("9 alone, 9 times", y.probe(0, 0), Due.NONE);
        PraiseDuels z = Due.meadow("d9 0 0 0 0 0;c0 1 1 0 1;c0 7 1 8 8;c0 1 1 8 8;e0 0;");
        z.warm(1, 0, 4, 1);
        edges.is("3 and 4", z.vain(0, 0), 24);
        edges.is("parted by the half, too: 1 and 2", z.probe(0, 0), 0);
        edges.sentence(28, "NONE: none parts them.");
        edges.is("FALSE ones alone", x.probe(0, 2), Due.NONE);
        edges.is("no COMPLIMENT of the TOPIC", x.probe(0, 3), Due.NONE);
        edges.is("FALSE of the other one", x.probe(1, 0), Due.NONE);
        x.warm(2, 0, 0, 9);
        edges.is("9 alone", x.vain(0, 0), 512);
        edges.is("one number has no parts", x.probe(0, 0), Due.NONE);
        x.warm(2, 0, 0, 8);
        edges.is("no number", x.vain(0, 0), 0);
        edges.is("no number has no parts", x.probe(0, 0), Due.NONE);
        x.tear();
        x.warm(0, 0, 0, 4);
        edges.is("8 and 9", x.vain(0, 0), 768);
        edges.is("parted by a TRUE one alone", x.probe(0, 0), 2);
        x.warm(4, 0, 1, 2);
        edges.is("8 and 9", x.vain(0, 1), 768);
        edges.is("parted by 2 times", x.probe(0, 1), 5);
        x.act(0, 1);
        edges.is("TRUE now: 4 and 5", x.vain(0, 1), 16 + 32);
        edges.is("all are TRUE now, the least", x.probe(0, 1), 4);
    }

    private void probeRefused() {
        PraiseDuels x = three();
        edges.sentence(28, "PROBE; NONE.");
        edges.is("the least TOPIC", x.probe(2, 0), 0);
        edges.is("the greatest TOPIC", x.probe(2, 3), 3);
        edges.is("NONE", x.probe(2, 1), Due.NONE);
        edges.sentence(28, "UNKNOWN,");
        edges.is("probe(-1, 0)", x.probe(-1, 0), Due.UNKNOWN);
        edges.is("probe(3, 0)", x.probe(3, 0), Due.UNKNOWN);
        edges.is("probe(MAX, 0)", x.probe(Integer.MAX_VALUE, 0), Due.UNKNOWN);
        edges.sentence(28, "OUTSIDE.");
        edges.is("probe(0, -1)", x.probe(0, -1), Due.OUTSIDE);
        edges.is("probe(0, 4)", x.probe(0, 4), Due.OUTSIDE);
        edges.is("probe(0, MIN)", x.probe(0, Integer.MIN_VALUE), Due.OUTSIDE);
    }

    // ---- promise 29

    private void cheek() {
        edges.sentence(29, "A BLUSH (0 .. 999) more of CHEEKS: how many.");
        PraiseDuels x = three();
        edges.is("the least", x.cheek(0), 1);
        edges.is("the greatest", x.cheek(999), 2);
        edges.sentence(29, "OUTSIDE,");
        edges.is("cheek(-1)", x.cheek(-1), Due.OUTSIDE);
        edges.is("cheek(1000)", x.cheek(1000), Due.OUTSIDE);
        edges.is("cheek(MIN)", x.cheek(Integer.MIN_VALUE), Due.OUTSIDE);
        edges.is("cheek(MAX)", x.cheek(Integer.MAX_VALUE), Due.OUTSIDE);
        edges.is("told(10)", x.told(10), 2);
        edges.sentence(29, "FULL (4).");
        edges.is("the third one", x.cheek(3), 3);
        edges.is("the fourth one", x.cheek(4), 4);
        edges.is("the fifth one", x.cheek(5), Due.FULL);
        edges.is("told(10)", x.told(10), 4);
        x.tear();
        edges.is("there is room again", x.cheek(5), 1);
    }

    // ---- promise 30

    private static PraiseDuels cheeks(PraiseDuels x, int... blushes) {
        x.tear();
        for (int blush : blushes) {
            x.cheek(blush);
        }
        return x;
    }

    /** How many rows; the first one, behind which NONE is told; what is in all. */
    private void rows(String when, PraiseDuels x, int many, int surely, int... first) {
        edges.is(when + ": said(-1)", x.said(Due.NONE), many);
        for (int i = 0; i < 5; i++) {
            edges.is(when + ": said(" + i + ")", x.said(i), i < first.length ? first[i] : Due.NONE);
        }
        edges.is(when + ": surely()", x.surely(), surely);
    }

    private void said() {
        edges.sentence(30, "CHEEKS (4 at most): the other one's BLUSH behind each next turn of the one whose turn it is now,");
        PraiseDuels x = Due.meadow("d999 0 0 0 0 0;d999 0 1 1 1 1;c0 1 1 8 8;c1 3 1 8 8;c2 5 1 0 8;c3 8 1 0 1;c2 7 1 8 8;e1 1;");
        x.duel(0, 1);
        rows("by the BLUSH of one", cheeks(x, 1), 1, 1, 0);
        rows("by the BLUSHES of two", cheeks(x, 1, 4), 1, 3, 0, 1);
        rows("by the BLUSHES of four", cheeks(x, 4, 5, 8, 15), 1, 27, 3, 0, 1, 4);
        rows("one BLUSH by none", cheeks(x, 2), 0, 0);
        rows("the last one by none", cheeks(x, 1, 4, 8, 14), 0, 0);
        edges.sentence(30, "SAID: rows of COMPLIMENTS, unsaid ones, each once, not FALSE, by which it is so");
        rows("one that is FALSE, if it were TRUE", cheeks(x, 5), 0, 0);
        rows("one that is FALSE, of no EFFECT", cheeks(x, 0), 0, 0);
        rows("each once", cheeks(x, 1, 1), 0, 0);
        rows("each once, of 7 halved", cheeks(x, 7, 10), 1, 18, 4, 1);
        x.say(1);
        x.pass();
        rows("one that was said", cheeks(x, 6), 0, 0);
        rows("from the BLUSH of now", cheeks(x, 4), 1, 1, 0);
        x.undo(2);
        rows("an undone one", cheeks(x, 3), 1, 2, 1);
        edges.sentence(30, "Without CHEEKS: one row, an empty one.");
        rows("none", cheeks(x), 1, 0);
        x.duel(1, 0);
        x.pass();
        rows("the other one of whose turn it is is the first one", cheeks(x, 3), 1, 2, 1);
        PraiseDuels none = Due.meadow("d1 0 0 0 0 0;".repeat(2));
        none.duel(0, 1);
        rows("none, there are no COMPLIMENTS", none, 1, 0);
        rows("one, there are no COMPLIMENTS", cheeks(none, 0), 0, 0);
    }

    private void saidBetween() {
        edges.sentence(30, "the other one PASSING between (which counts as no PASS, but it COOLS).");
        PraiseDuels x = Due.meadow("d999 0 0 0 0 0;d999 4 9 9 9 9;c0 1 1 8 8;c1 1 1 8 8;c0 2 1 8 8;c3 9 1 8 8;");
        x.duel(0, 1);
        rows("9, COOLED to 5, 9 more", cheeks(x, 9, 14), 3, 1, 0, 1);
        x.say(0);
        x.pass();
        edges.is("BLUSH", x.duellist(1, 8), 5);
        rows("no COOLING ahead of the first one", cheeks(x, 14), 2, 0, 1);
        rows("14, COOLED to 10, 9 more", cheeks(x, 14, 19), 2, 6, 1, 2);
        edges.is("told(12) stays", x.told(12), 1);
        PraiseDuels z = Due.meadow("d999 0 0 0 0 0;d999 99 9 9 9 9;c0 1 1 8 8;c1 1 1 8 8;c2 1 1 8 8;c3 1 1 8 8;");
        z.duel(0, 1);
        rows("COOLED to 0, not less", cheeks(z, 9, 9, 9, 9), 24, 15, 0, 1, 2, 3);
        edges.sentence(30, "(LINES do not matter):");
        PraiseDuels y = Due.meadow("d1 0 0 0 0 0;d1 0 9 9 9 9;c0 1 1 8 8;c1 1 1 8 8;");
        y.duel(0, 1);
        rows("9 and 18, LINE 1", cheeks(y, 9, 18), 2, 3, 0, 1);
        PraiseDuels most = Due.meadow("d1 0 0 0 0 0;d1 0 9 9 9 9;c0 9 1 8 8;c1 9 1 8 8;c2 9 1 8 8;c3 9 1 8 8;");
        most.duel(0, 1);
        rows("324", cheeks(most, 81, 162, 243, 324), 24, 15, 0, 1, 2, 3);
        rows("999", cheeks(most, 999), 0, 0);
    }

    private void saidRefused() {
        edges.sentence(30, "NOT: no DUEL that goes on.");
        PraiseDuels x = three();
        edges.is("said(-1), no DUEL", x.said(-1), Due.NOT);
        edges.is("said(0), no DUEL", x.said(0), Due.NOT);
        x.duel(0, 1);
        x.pass();
        x.pass();
        edges.is("said(-1), over", x.said(-1), Due.NOT);
        edges.is("said(0), over", x.said(0), Due.NOT);
        edges.sentence(31, "NOT: no DUEL that goes on.");
        edges.is("surely(), over", x.surely(), Due.NOT);
        edges.is("surely(), no DUEL", three().surely(), Due.NOT);
    }

    private void firstRow() {
        edges.sentence(30, "SAID: i = NONE how many, else the first row's i-th; NONE.");
        PraiseDuels x = Due.meadow("d9 0 0 0 0 0;d9 99 1 1 1 1;" + FOUR.repeat(2));
        x.duel(0, 1);
        cheeks(x, 1, 1, 1, 1);
        edges.is("i is NONE", x.said(Due.NONE), 384);
        edges.is("i is the least", x.said(0), 0);
        edges.is("i is the greatest", x.said(3), 3);
        edges.is("i is one more", x.said(4), Due.NONE);
        edges.is("i is one less than NONE", x.said(-2), Due.NONE);
        edges.is("i is MIN", x.said(Integer.MIN_VALUE), Due.NONE);
        edges.is("i is MAX", x.said(Integer.MAX_VALUE), Due.NONE);
        edges.sentence(30, "how many; the first row's i-th;");
        cheeks(x, 1, 1, 1);
        edges.is("8 * 6 * 4", x.said(Due.NONE), 192);
        edges.is("the third one", x.said(2), 2);
        edges.is("the fourth one of three", x.said(3), Due.NONE);
        cheeks(x, 1, 1, 1, 0);
        edges.is("a TOPIC again at last", x.said(Due.NONE), 8 * 6 * 4 * 3);
        edges.is("the least behind 0, 1, 2", x.said(3), 4);
        cheeks(x, 2);
        edges.is("no row", x.said(Due.NONE), 0);
        edges.is("the first one of no row", x.said(0), Due.NONE);
    }

    private void surely() {
        edges.sentence(31, "SURELY: those that are in all such rows (a SET; 0 without).");
        PraiseDuels x = Due.meadow("d9 0 0 0 0 0;d9 0 1 1 1 1;c0 2 1 8 8;c1 2 1 8 8;c2 5 1 8 8;c3 3 1 8 8;");
        x.duel(0, 1);
        edges.is("without CHEEKS", x.surely(), 0);
        edges.is("2: either of two", cheeks(x, 2).surely(), 0);
        edges.is("2 and 5: either of two, and one", cheeks(x, 2, 7).surely(), 4);
        edges.is("5 and 3: one row", cheeks(x, 5, 8).surely(), 12);
        edges.is("2, 2: both ways", cheeks(x, 2, 4).surely(), 3);
        edges.is("without a row", cheeks(x, 1).surely(), 0);
        edges.is("without a row at last", cheeks(x, 2, 4, 5).surely(), 0);
        edges.is("all", cheeks(x, 2, 4, 9, 12).surely(), 15);
        x.say(2);
        x.pass();
        edges.is("what was said ahead is not in it", cheeks(x, 8).surely(), 8);
        edges.sentence(31, "SURELY.");
        edges.is("surely() twice", x.surely(), 8);
    }

    // ---- promise 32

    private void write() {
        edges.sentence(32, "A turn behind THE BOOK (0 .. 9): how many.");
        PraiseDuels x = Due.meadow("d9 0 0 0 0 0;" + FOUR.repeat(2));
        edges.is("the least", x.write(0), 1);
        edges.is("the greatest COMPLIMENT", x.write(7), 2);
        edges.is("a PASS", x.write(8), 3);
        edges.is("the greatest", x.write(9), 4);
        edges.sentence(32, "UNKNOWN (a COMPLIMENT 0 .. 7 that there is not),");
        PraiseDuels y = three();
        edges.is("the last one of six", y.write(5), 1);
        edges.is("write(6) of six", y.write(6), Due.UNKNOWN);
        edges.is("write(7) of six", y.write(7), Due.UNKNOWN);
        edges.is("write(8) of six", y.write(8), 2);
        edges.is("write(0) of none", new PraiseDuels().write(0), Due.UNKNOWN);
        edges.is("write(8) of none", new PraiseDuels().write(8), 1);
        edges.sentence(32, "OUTSIDE,");
        edges.is("write(-1)", x.write(-1), Due.OUTSIDE);
        edges.is("write(10)", x.write(10), Due.OUTSIDE);
        edges.is("write(MIN)", x.write(Integer.MIN_VALUE), Due.OUTSIDE);
        edges.is("write(MAX)", x.write(Integer.MAX_VALUE), Due.OUTSIDE);
        edges.is("told(11)", x.told(11), 4);
        edges.sentence(32, "FULL (20).");
        for (int i = 5; i <= 20; i++) {
            edges.is("write(8)", x.write(8), i);
        }
        edges.is("the twenty-first", x.write(8), Due.FULL);
        edges.is("told(11)", x.told(11), 20);
        x.tear();
        edges.is("there is room again", x.write(8), 1);
    }

    // ---- promise 33

    private static PraiseDuels book(PraiseDuels x, int... turns) {
        x.tear();
        for (int turn : turns) {
            x.write(turn);
        }
        return x;
    }

    private void judged(String when, PraiseDuels x, int wrong, int result) {
        edges.is(when + ": judge(0)", x.judge(0), wrong);
        edges.is(when + ": judge(1)", x.judge(1), result);
    }

    /** c0 to c6 are FALSE of both, either falls by c7. */
    private static PraiseDuels falseOnes() {
        PraiseDuels x = Due.meadow("d9 0 9 9 9 9;d9 0 9 9 9 9;" + "c0 1 1 0 8;".repeat(7) + "c1 1 1 8 8;");
        x.duel(0, 1);
        return x;
    }

    private void wrong() {
        edges.sentence(33, "THE BOOK (20 at most) tells turns of the DUEL from now (a COMPLIMENT, 8 to PASS, 9 to APOLOGIZE):");
        PraiseDuels x = falseOnes();
        int[] twenty = {8, 0, 8, 9, 8, 1, 8, 9, 8, 2, 8, 9, 8, 3, 8, 9, 8, 4, 8, 9};
        judged("all twenty can be", book(x, twenty), Due.NONE, 0);
        edges.is("the twentieth undoes a FOUL, so it was none", x.told(6), 0);
        twenty[19] = 4;
        judged("the twentieth can't be", book(x, twenty), 19, 0);
        twenty[19] = 7;
        judged("the twentieth ends it", book(x, twenty), Due.NONE, 2);
        x.pass();
        judged("from now: an odd turn more", book(x, 8), Due.NONE, 3);
        x.undo(1);
        edges.sentence(33, "WRONG: the first that cannot be (or when it is over); NONE;");
        judged("an empty BOOK", book(x), Due.NONE, 0);
        judged("an apology without FOULS", book(x, 9), 0, 0);
        judged("an apology for the other one's FOUL", book(x, 0, 9), 1, 0);
        judged("what is SAID again", book(x, 0, 0), 1, 0);
        judged("three FOULS, and a turn when it is over", book(x, 0, 8, 1, 8, 2, 8), 5, 2);
        judged("a LINE, and a turn when it is over", book(x, 7, 8), 1, 1);
        judged("a draw, and an apology when it is over", book(x, 0, 8, 8, 9), 3, 3);
        edges.sentence(33, "the RESULT behind all ahead of it.");
        judged("nothing behind it counts", book(x, 8, 9, 8), 1, 0);
        judged("a draw ahead of it", book(x, 8, 8, 9, 0), 2, 3);
        judged("a draw, nothing is wrong", book(x, 8, 8), Due.NONE, 3);
    }

    private void judge() {
        edges.sentence(33, "What = 0 WRONG (NONE), 1 the RESULT.");
        PraiseDuels x = falseOnes();
        judged("won", book(x, 7), Due.NONE, 1);
        judged("lost", book(x, 8, 7), Due.NONE, 2);
        judged("it goes on", book(x, 8), Due.NONE, 0);
        x.say(7);
        judged("over, an empty BOOK", book(x), Due.NONE, 1);
        judged("over, a turn", book(x, 8), 0, 1);
        edges.is("points stay", x.duellist(0, 7), 2);
        edges.is("turns stay", x.told(6), 1);
        edges.is("THE BOOK stays", x.told(11), 1);
    }

    private void judgeRefused() {
        edges.sentence(33, "OUTSIDE,");
        PraiseDuels x = falseOnes();
        edges.is("judge(-1)", x.judge(-1), Due.OUTSIDE);
        edges.is("judge(2)", x.judge(2), Due.OUTSIDE);
        edges.is("judge(MIN)", x.judge(Integer.MIN_VALUE), Due.OUTSIDE);
        edges.is("judge(MAX)", x.judge(Integer.MAX_VALUE), Due.OUTSIDE);
        edges.sentence(33, "NOT: no DUEL.");
        edges.is("judge(0), no DUEL", three().judge(0), Due.NOT);
        edges.is("judge(1), no DUEL", three().judge(1), Due.NOT);
        edges.is("judge(0), no DUEL, a BOOK", book(three(), 8).judge(0), Due.NOT);
    }

    // ---- promise 34

    private void tear() {
        edges.sentence(34, "Nothing WARMED, no CHEEKS, no BOOK: how much all had.");
        PraiseDuels x = three();
        edges.is("nothing", x.tear(), 0);
        for (int i = 0; i < 20; i++) {
            x.warm(0, 0, 0, 20);
            x.cheek(20);
            x.write(0);
        }
        edges.is("all that there may be", x.tear(), 36);
        edges.is("nothing WARMED", x.told(9), 0);
        edges.is("no CHEEKS", x.told(10), 0);
        edges.is("no BOOK", x.told(11), 0);
        edges.is("nothing more", x.tear(), 0);
        edges.is("vain(0, 0)", x.vain(0, 0), 1023);
        x.duel(1, 0);
        edges.is("said(-1)", x.said(-1), 1);
        edges.is("judge(1)", x.judge(1), 0);
        x.warm(0, 0, 0, 20);
        edges.is("WARMED alone", x.tear(), 1);
        x.cheek(20);
        edges.is("CHEEKS alone", x.tear(), 1);
        x.write(0);
        edges.is("THE BOOK alone", x.tear(), 1);
        edges.is("the DUEL stays", x.told(7), 1);
    }
}
