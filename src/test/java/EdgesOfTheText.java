/** THE TEXT: promises 2, 3 and 4, and what section 1 of the terms says of clauses, NUMBERS and FAULTS. */
final class EdgesOfTheText {
    private static final String ONE = "d1 0 0 0 0 0;";
    private static final String PHRASE = "c0 1 1 8 8;";
    private final Edges edges;

    EdgesOfTheText(Edges edges) {
        this.edges = edges;
    }

    void all() {
        letters();
        full();
        textOf250();
        duellistClause();
        complimentClause();
        deedClause();
        numbersAndBlanks();
        firstFault();
        cannotStand();
        badNumbers();
        tooMany();
        doneAgain();
        withoutClauses();
        emptyThen();
        behindALargerOne();
        answersOfMeadow();
        placeOfTheFault();
    }

    private static PraiseDuels fed(String text) {
        PraiseDuels x = new PraiseDuels();
        Due.feedAll(x, text);
        return x;
    }

    private void stands(String text, int people, int phrases) {
        PraiseDuels x = fed(text);
        edges.is("meadow() of '" + text + "'", x.meadow(), people);
        edges.is("fault() of '" + text + "'", x.fault(), Due.NONE);
        edges.is("DUELLISTS of '" + text + "'", x.told(0), people);
        edges.is("COMPLIMENTS of '" + text + "'", x.told(1), phrases);
    }

    private void faulty(String text, int fault, int place) {
        PraiseDuels x = fed(text);
        edges.is("meadow() of '" + text + "'", x.meadow(), -10 - fault);
        edges.is("fault() of '" + text + "'", x.fault(), place);
        edges.is("DUELLISTS of '" + text + "'", x.told(0), 0);
        edges.is("COMPLIMENTS of '" + text + "'", x.told(1), 0);
    }

    // ---- promise 2

    private void letters() {
        edges.sentence(2, "A letter (0 .. 255) comes behind THE TEXT: how many it has.");
        PraiseDuels x = new PraiseDuels();
        edges.is("feed(0), the least", x.feed(0), 1);
        edges.is("feed(255), the greatest", x.feed(255), 2);
        edges.is("feed(127)", x.feed(127), 3);
        edges.is("feed(128)", x.feed(128), 4);
        x = fed(ONE);
        edges.is("the letters stand in the order they came in", x.meadow(), 1);
        edges.is("feed('d') behind meadow()", x.feed('d'), 1);
        edges.sentence(2, "OUTSIDE,");
        x = new PraiseDuels();
        edges.is("feed(-1)", x.feed(-1), Due.OUTSIDE);
        edges.is("feed(256)", x.feed(256), Due.OUTSIDE);
        edges.is("feed(MAX)", x.feed(Integer.MAX_VALUE), Due.OUTSIDE);
        edges.is("feed(MIN)", x.feed(Integer.MIN_VALUE), Due.OUTSIDE);
        edges.is("nothing came", x.told(2), 0);
    }

    private void full() {
        edges.sentence(2, "FULL (250).");
        PraiseDuels x = new PraiseDuels();
        for (int i = 1; i <= 249; i++) {
            edges.is("feed(' ')", x.feed(' '), i);
        }
        edges.is("the 250th", x.feed(' '), 250);
        edges.is("the 251st", x.feed(' '), Due.FULL);
        edges.is("the 251st again", x.feed('x'), Due.FULL);
        edges.is("told(2)", x.told(2), 250);
        edges.is("none of these came", x.meadow(), 0);
        edges.is("there is room again", x.feed(' '), 1);
    }

    // ---- clauses

    /** All clauses that there may be, with blanks ahead of the last letter, so long. */
    private static String largest(int letters) {
        String most = ONE.repeat(4) + PHRASE.repeat(7) + "c0 1 1 8 8";
        return most + " ".repeat(letters - 1 - most.length()) + ";";
    }

    private void textOf250() {
        edges.sentence(3, "THE MEADOW is told in a text (250 letters at most), letter by letter: clauses:");
        stands(largest(250), 4, 8);
        stands(largest(249), 4, 8);
        faulty(largest(251), 1, 250);
    }

    private void duellistClause() {
        edges.sentence(3, "'d' L C V0 V1 V2 V3 ';' (4 DUELLISTS at most:");
        stands(ONE.repeat(4), 4, 0);
        faulty(ONE.repeat(5), 3, 52);
        PraiseDuels x = fed("d7 6 5 4 3 2;");
        x.meadow();
        edges.has("each NUMBER in its place", x, 0, 0, 7, 6, 5, 4, 3, 2);
        edges.sentence(3, "LINE L 1 .. 999,");
        stands("d1 0 0 0 0 0;", 1, 0);
        stands("d999 0 0 0 0 0;", 1, 0);
        faulty("d0 0 0 0 0 0;", 2, 1);
        faulty("d1000 0 0 0 0 0;", 2, 1);
        edges.sentence(3, "COOL C 0 .. 99,");
        stands("d1 0 0 0 0 0;", 1, 0);
        stands("d1 99 0 0 0 0;", 1, 0);
        faulty("d1 100 0 0 0 0;", 2, 3);
        faulty("d1 -1 0 0 0 0;", 1, 3);
        edges.sentence(3, "VANITIES of TOPICS 0 .. 3, 0 .. 9 each)");
        stands("d1 0 9 9 9 9;", 1, 0);
        faulty("d1 0 10 9 9 9;", 2, 5);
        faulty("d1 0 9 10 9 9;", 2, 7);
        faulty("d1 0 9 9 10 9;", 2, 9);
        faulty("d1 0 9 9 9 10;", 2, 11);
        faulty("d1 0 9 9 9;", 1, 10);
        faulty("d1 0 9 9 9 9 9;", 1, 13);
    }

    private void complimentClause() {
        edges.sentence(3, "'c' T S W N M ';' (8 COMPLIMENTS at most:");
        stands(PHRASE.repeat(8), 0, 8);
        faulty(PHRASE.repeat(9), 3, 88);
        PraiseDuels x = fed("c3 9 8 7 6;");
        x.meadow();
        for (int what = 0; what < 5; what++) {
            edges.is("each NUMBER in its place, " + what, x.compliment(0, what), what == 0 ? 3 : 10 - what);
        }
        edges.sentence(3, "TOPIC T 0 .. 3,");
        stands("c0 1 1 8 8;", 0, 1);
        stands("c3 1 1 8 8;", 0, 1);
        faulty("c4 1 1 8 8;", 2, 1);
        edges.sentence(3, "STRENGTH S 1 .. 9,");
        stands("c0 9 1 8 8;", 0, 1);
        faulty("c0 0 1 8 8;", 2, 3);
        faulty("c0 10 1 8 8;", 2, 3);
        edges.sentence(3, "WORDS W 1 .. 9;");
        stands("c0 1 9 8 8;", 0, 1);
        faulty("c0 1 0 8 8;", 2, 5);
        faulty("c0 1 10 8 8;", 2, 5);
        edges.sentence(3, "they need DEEDS N, M, 0 .. 7, or 8: none)");
        stands("c0 1 1 0 0;", 0, 1);
        stands("c0 1 1 7 7;", 0, 1);
        stands("c0 1 1 8 8;", 0, 1);
        faulty("c0 1 1 9 8;", 2, 7);
        faulty("c0 1 1 8 9;", 2, 9);
        faulty("c0 1 1 8;", 1, 8);
        faulty("c0 1 1 8 8 8;", 1, 11);
    }

    private void deedClause() {
        edges.sentence(3, "'e' D N ';' (DUELLIST D, told ahead, has done DEED N, 0 .. 7;");
        PraiseDuels x = fed(ONE + "e0 0;" + ONE + "e1 7;");
        edges.is("meadow()", x.meadow(), 2);
        edges.is("DEEDS of 0", x.duellist(0, 6), 1);
        edges.is("DEEDS of 1", x.duellist(1, 6), 128);
        faulty(ONE + "e0 8;", 2, 16);
        faulty(ONE + "e1 0;" + ONE, 2, 14);
        faulty(ONE + "e0;", 1, 15);
        faulty(ONE + "e0 1 2;", 1, 18);
        edges.sentence(3, "as often as wanted).");
        StringBuilder text = new StringBuilder(ONE.repeat(4));
        for (int i = 0; i < 32; i++) {
            text.append('e').append(i % 4).append(' ').append(i / 4).append(';');
        }
        x = fed(text.toString());
        edges.is("meadow() of 4 'd' and 32 'e'", x.meadow(), 4);
        for (int d = 0; d < 4; d++) {
            edges.is("all DEEDS of " + d, x.duellist(d, 6), 255);
        }
        stands(ONE, 1, 0);
    }

    private void numbersAndBlanks() {
        edges.sentence(3, "NUMBERS have one to three figures;");
        stands("d9 9 9 9 9 9;", 1, 0);
        stands("d99 99 9 9 9 9;", 1, 0);
        stands("d999 099 009 09 000 00;", 1, 0);
        faulty("d0999 0 0 0 0 0;", 2, 1);
        faulty("d9 0000 0 0 0 0;", 2, 3);
        edges.sentence(3, "a word is one letter;");
        faulty("dd1 0 0 0 0 0;", 1, 1);
        faulty("cc0 1 1 8 8;", 1, 1);
        faulty("D1 0 0 0 0 0;", 1, 0);
        faulty(ONE + ";", 1, 13);
        edges.sentence(3, "blanks (32) may stand anywhere but within NUMBERS;");
        stands(" d 1 0 0 0 0 0 ; c 0 1 1 8 8 ; e 0 0 ; ", 1, 1);
        stands("  d   12   0   0   0   0   0   ;   ", 1, 0);
        faulty("d1 2 0 0 0 0 0;", 1, 13);
        faulty("d1\t0 0 0 0 0;", 1, 2);
        faulty("\n" + ONE, 1, 0);
        faulty(ONE + (char) 160, 1, 13);
        faulty(ONE + (char) 0, 1, 13);
        faulty(ONE + (char) 31, 1, 13);
        faulty(ONE + (char) 33, 1, 13);
        edges.sentence(3, "two NUMBERS side by side need one.");
        faulty("d10 0 0 0 0;", 1, 11);
        faulty("c011 8 8;", 2, 1);
        faulty("c01 1 8 8;", 1, 9);
        faulty(ONE + "e00;", 1, 16);
    }

    // ---- FAULTS

    private void firstFault() {
        edges.sentence(3, "FAULTS, at the first letter that has one");
        faulty("d0 x", 2, 1);
        faulty("dx 1000", 1, 1);
        faulty("d1 100 10 x", 2, 3);
        faulty(ONE.repeat(4) + "d0", 3, 52);
        faulty(ONE + "e0 0;e0 0;x", 4, 21);
        faulty(ONE + "x" + "e0 0;e0 0;", 1, 13);
        edges.sentence(3, "(the end at the text's length),");
        faulty("d", 1, 1);
        faulty("d  ", 1, 3);
        faulty("d1 0 0 0 0", 1, 10);
        faulty("d1 0 0 0 0 0", 1, 12);
        faulty("d1 0 0 0 0 0   ", 1, 15);
        faulty("c0 1 1 8 8", 1, 10);
        faulty(ONE + "e", 1, 14);
        faulty(ONE + "e0", 1, 15);
        faulty(ONE + "e0 0", 1, 17);
        faulty("d1 0 0 0 0 0" + " ".repeat(238), 1, 250);
        edges.sentence(3, "of these the least:");
        faulty("1000", 1, 0);
        faulty(ONE + "1000", 1, 13);
        faulty("d1 0 0 0 0 0 1000;", 1, 13);
        faulty(ONE.repeat(3) + "d1 0 0 0 0 0d", 1, 51);
        faulty(PHRASE.repeat(7) + "c0 1 1 8 8c", 1, 87);
        faulty(ONE + "e0 7;e0 0007;", 2, 21);
    }

    private void cannotStand() {
        edges.sentence(3, "1 it cannot stand there (a letter that is no word).");
        faulty("x", 1, 0);
        faulty("  x", 1, 2);
        faulty("b", 1, 0);
        faulty("f", 1, 0);
        faulty("5", 1, 0);
        faulty(";", 1, 0);
        faulty("d;", 1, 1);
        faulty("d/ 0 0 0 0 0;", 1, 1);
        faulty("d: 0 0 0 0 0;", 1, 1);
        faulty("d1x 0 0 0 0 0;", 1, 2);
        faulty("d1 0 0 0 0 0:", 1, 12);
        faulty("d1 0 0 0 0 0<", 1, 12);
        faulty("d1 0 0 0 0 0 x;", 1, 13);
        faulty("d1 0 c0 1 1 8 8;", 1, 5);
        faulty((char) 255 + ONE, 1, 0);
    }

    private void badNumbers() {
        edges.sentence(3, "2 a NUMBER of four figures or more, or out of its bounds;");
        faulty("d0000 0 0 0 0 0;", 2, 1);
        faulty("d0001 0 0 0 0 0;", 2, 1);
        faulty("d1000", 2, 1);
        faulty("d4294967297 0 0 0 0 0;", 2, 1);
        faulty("d" + "1".repeat(249), 2, 1);
        faulty("d1 0 0 0 0 0001;", 2, 11);
        faulty("d000 0 0 0 0 0;", 2, 1);
        faulty("c999 1 1 8 8;", 2, 1);
        faulty(ONE + "e0 999;", 2, 16);
        edges.sentence(3, "a DUELLIST that was not told yet (at its first).");
        faulty("e0 0;", 2, 1);
        faulty("e0 0;" + ONE, 2, 1);
        faulty(ONE + "e1 0;", 2, 14);
        faulty(ONE + "e  10 0;", 2, 16);
        faulty(ONE.repeat(4) + "e4 0;", 2, 53);
        faulty(ONE.repeat(2) + "e1 0;e2", 2, 32);
        stands(ONE.repeat(4) + "e3 0;", 4, 0);
    }

    private void tooMany() {
        edges.sentence(3, "3 a fifth 'd', a ninth 'c' (at it).");
        faulty(ONE.repeat(4) + "d", 3, 52);
        faulty(ONE.repeat(4) + "  dx", 3, 54);
        faulty(PHRASE.repeat(8) + "c", 3, 88);
        faulty(PHRASE.repeat(8) + "  c9", 3, 90);
        faulty(ONE.repeat(4) + PHRASE.repeat(8) + "e3 0;c", 3, 145);
        stands(ONE.repeat(4) + PHRASE.repeat(8) + "e3 0;", 4, 8);
    }

    private void doneAgain() {
        edges.sentence(3, "4 a DEED of one again (at the N).");
        faulty(ONE + "e0 7;e0 7;", 4, 21);
        faulty(ONE + "e0 0;e0 0", 4, 21);
        faulty(ONE + "e0 7;e0   007;", 4, 23);
        faulty(ONE + "e0 7;e0 6;e0 7;", 4, 26);
        faulty(ONE.repeat(2) + "e1 3;e0 3;e1 3;", 4, 39);
        stands(ONE.repeat(2) + "e0 7;e1 7;e0 6;", 2, 0);
        PraiseDuels x = fed(ONE + "e0 7;");
        x.meadow();
        Due.feedAll(x, ONE + "e0 7;");
        edges.is("not of the meadow ahead", x.meadow(), 1);
    }

    private void withoutClauses() {
        edges.sentence(3, "A text without clauses has no FAULT: nobody is there then.");
        stands("", 0, 0);
        stands(" ", 0, 0);
        stands(" ".repeat(250), 0, 0);
        PraiseDuels x = fed(ONE + PHRASE);
        x.meadow();
        edges.is("meadow() of an empty text behind another", x.meadow(), 0);
        edges.is("fault()", x.fault(), Due.NONE);
        edges.is("nobody", x.duellist(0, 0), Due.UNKNOWN);
        edges.is("no COMPLIMENTS", x.compliment(0, 0), Due.UNKNOWN);
    }

    // ---- promise 3

    private void emptyThen() {
        edges.sentence(3, "THE TEXT (it is empty then, with a FAULT, too) becomes THE MEADOW");
        PraiseDuels x = fed(ONE + "  ");
        edges.is("told(2) ahead", x.told(2), 15);
        edges.is("meadow()", x.meadow(), 1);
        edges.is("told(2) behind", x.told(2), 0);
        edges.is("a LINE of it", x.duellist(0, 0), 1);
        Due.feedAll(x, "d1 0 0 x");
        edges.is("told(2) ahead", x.told(2), 8);
        edges.is("meadow() with a FAULT", x.meadow(), -11);
        edges.is("told(2) behind", x.told(2), 0);
        Due.feedAll(x, "d1 0 0");
        edges.is("nothing of the longer text is left behind it", x.meadow(), -11);
        edges.is("at the end", x.fault(), 6);
    }

    /** Two DUELLISTS, one COMPLIMENT behind four, eight: nothing of the others counts anywhere. */
    private void behindALargerOne() {
        edges.sentence(3, "becomes THE MEADOW");
        PraiseDuels x = fed("d99 0 9 9 9 9;".repeat(4) + "c0 9 9 8 8;c1 9 9 8 8;".repeat(4) + "e0 0;");
        edges.is("meadow() of the larger one", x.meadow(), 4);
        Due.feedAll(x, "d50 0 5 5 5 5;".repeat(2) + "c0 2 1 8 8;");
        edges.is("meadow() of the smaller one", x.meadow(), 2);
        edges.is("DEEDS", x.duellist(0, 6), 0);
        edges.is("harden", x.harden(0, 11, 1, Due.NONE), 0);
        edges.is("harden of TOPIC 0", x.harden(0, 11, 1, 0), 0);
        edges.is("harden of TOPIC 1", x.harden(0, 11, 1, 1), 0);
        edges.is("harden by the one that is there", x.harden(0, 10, 1, Due.NONE), 1);
        edges.is("deeds for 1", x.deeds(0, 1, 0), 0);
        edges.is("deeds for 2", x.deeds(0, 2, 0), Due.NONE);
        edges.is("probe of TOPIC 0", x.probe(0, 0), 0);
        edges.is("probe of TOPIC 1", x.probe(0, 1), Due.NONE);
        edges.is("shared by two", x.shared(0, 3), 10);
        edges.is("shared by a third", x.shared(0, 7), Due.UNKNOWN);
        edges.is("league(2)", x.league(2), 3);
        edges.is("duel(0, 2)", x.duel(0, 2), Due.UNKNOWN);
        edges.is("duel(0, 1)", x.duel(0, 1), 0);
        edges.is("greatest(0)", x.greatest(0), 0);
        edges.is("best(1), one being unsaid", x.best(1), 0);
        x.cheek(45);
        edges.is("rows of an EFFECT of the larger one", x.said(Due.NONE), 0);
        x.tear();
        x.cheek(10);
        edges.is("rows of an EFFECT that is there", x.said(Due.NONE), 1);
        edges.is("write(1)", x.write(1), Due.UNKNOWN);
        edges.is("drift(40)", x.drift(40), 3);
        edges.is("nothing else was said", x.told(8) & ~1, 0);
    }

    private void answersOfMeadow() {
        edges.sentence(3, "how many DUELLISTS;");
        for (int many = 0; many <= 4; many++) {
            edges.is(many + " 'd'", fed(ONE.repeat(many)).meadow(), many);
        }
        edges.sentence(3, "-10 less the number of its FAULT");
        edges.is("FAULT 1", fed("x").meadow(), -11);
        edges.is("FAULT 2", fed("d0").meadow(), -12);
        edges.is("FAULT 3", fed(ONE.repeat(5)).meadow(), -13);
        edges.is("FAULT 4", fed(ONE + "e0 0;e0 0;").meadow(), -14);
    }

    // ---- promise 4

    private void placeOfTheFault() {
        edges.sentence(4, "The place (from 0 on) of the letter that has the FAULT of the latest meadow();");
        PraiseDuels x = fed("x");
        x.meadow();
        edges.is("the first letter", x.fault(), 0);
        edges.is("asked again", x.fault(), 0);
        Due.feedAll(x, "d0");
        edges.is("letters fed since do not matter", x.fault(), 0);
        x.meadow();
        edges.is("the second letter", x.fault(), 1);
        Due.feedAll(x, " ".repeat(249) + "x");
        x.meadow();
        edges.is("the 250th letter", x.fault(), 249);
        edges.sentence(4, "NONE.");
        edges.is("a new object", new PraiseDuels().fault(), Due.NONE);
        edges.is("letters without meadow()", fed("x").fault(), Due.NONE);
        Due.feedAll(x, ONE);
        x.meadow();
        edges.is("the latest one has none", x.fault(), Due.NONE);
    }
}
