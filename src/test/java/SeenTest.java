/** Promises 26 to 34: what was seen. */
public final class SeenTest {
    private static final Due due = new Due();

    public static void main(String[] args) {
        warm();
        vain();
        probe();
        cheek();
        saidRefused();
        said();
        saidByCooling();
        saidWithoutLines();
        fourCheeks();
        write();
        judge();
        tear();
        due.end("SeenTest");
    }

    private static PraiseDuels three() {
        return Due.meadow(MeadowTest.THREE);
    }

    private static void warm() {
        PraiseDuels x = three();
        due.is("warm(6, 0, 0, 0)", x.warm(6, 0, 0, 0), Due.UNKNOWN);
        due.is("warm(-1, 0, 0, 0)", x.warm(-1, 0, 0, 0), Due.UNKNOWN);
        due.is("warm(0, 3, 10, 0)", x.warm(0, 3, 10, 0), Due.UNKNOWN);
        due.is("warm(0, -1, 0, 0)", x.warm(0, -1, 0, 0), Due.UNKNOWN);
        due.is("warm(0, 0, 10, 0)", x.warm(0, 0, 10, 0), Due.OUTSIDE);
        due.is("warm(0, 0, -1, 0)", x.warm(0, 0, -1, 0), Due.OUTSIDE);
        due.is("warm(0, 0, 0, 100)", x.warm(0, 0, 0, 100), Due.OUTSIDE);
        due.is("warm(0, 0, 0, -1)", x.warm(0, 0, 0, -1), Due.OUTSIDE);
        for (int i = 1; i <= 12; i++) {
            due.is("warm(5, 2, 9, 99)", x.warm(5, 2, 9, 99), i);
        }
        due.is("warm(0, 0, 0, 0), full", x.warm(0, 0, 0, 0), Due.FULL);
        due.is("warm(0, 0, 10, 0), full", x.warm(0, 0, 10, 0), Due.OUTSIDE);
        due.is("warm(6, 0, 0, 0), full", x.warm(6, 0, 0, 0), Due.UNKNOWN);
        due.is("told(9)", x.told(9), 12);
        x = three();
        for (int i = 0; i < 11; i++) {
            x.warm(5, 1, i % 10, 0);
        }
        x.warm(0, 0, 0, 20);
        due.is("by the twelfth", x.vain(0, 0), 16);
        due.is("0 by the first", x.vain(1, 0), 1);
    }

    /** The SET of who is WARMED once, alone. */
    private static void vainOnce(int c, int d, int times, int effect, int want) {
        PraiseDuels x = three();
        x.warm(c, d, times, effect);
        int topic = x.compliment(c, 0);
        due.is("vain by " + c + ", " + d + ", " + times + ", " + effect, x.vain(d, topic), want);
        due.is("another TOPIC", x.vain(d, (topic + 1) % 4), 1023);
        due.is("another DUELLIST", x.vain((d + 1) % 3, topic), 1023);
    }

    private static void vain() {
        PraiseDuels x = three();
        due.is("vain(3, 4)", x.vain(3, 4), Due.UNKNOWN);
        due.is("vain(-1, 0)", x.vain(-1, 0), Due.UNKNOWN);
        due.is("vain(0, 4)", x.vain(0, 4), Due.OUTSIDE);
        due.is("vain(0, -1)", x.vain(0, -1), Due.OUTSIDE);
        due.is("vain(0, 3)", x.vain(0, 3), 1023);
        vainOnce(0, 0, 0, 20, 16);
        vainOnce(0, 0, 0, 21, 0);
        vainOnce(0, 0, 0, 45, 512);
        vainOnce(0, 0, 1, 12, 32);
        vainOnce(0, 0, 3, 2, 16);
        vainOnce(0, 0, 3, 5, 256 + 512);
        vainOnce(0, 0, 9, 0, 1023);
        vainOnce(0, 0, 9, 1, 0);
        vainOnce(2, 0, 0, 1, 2);
        vainOnce(2, 0, 0, 3, 4);
        vainOnce(2, 1, 2, 1, 56);
        vainOnce(4, 0, 0, 0, 1023);
        vainOnce(4, 0, 0, 1, 0);
        x.warm(2, 0, 2, 1);
        due.is("3, 4 or 5", x.vain(0, 1), 56);
        x.warm(1, 0, 4, 1);
        due.is("by both", x.vain(0, 1), 56);
        x.warm(1, 0, 3, 3);
        due.is("by all", x.vain(0, 1), 48);
        x.warm(1, 1, 0, 6);
        due.is("FALSE of 1", x.vain(1, 1), 0);
        x.act(1, 0);
        due.is("by DEEDS as they are now", x.vain(1, 1), 2);
        x.duel(1, 0);
        x.say(1);
        due.is("the DUEL does not matter", x.vain(0, 1), 48);
    }

    private static void probe() {
        PraiseDuels x = three();
        due.is("probe(3, 4)", x.probe(3, 4), Due.UNKNOWN);
        due.is("probe(-1, 0)", x.probe(-1, 0), Due.UNKNOWN);
        due.is("probe(0, 4)", x.probe(0, 4), Due.OUTSIDE);
        due.is("probe(0, -1)", x.probe(0, -1), Due.OUTSIDE);
        int[][] want = {{0, 1, -1, 3}, {0, 2, -1, 3}, {0, -1, 4, 3}};
        for (int d = 0; d < 3; d++) {
            for (int topic = 0; topic < 4; topic++) {
                due.is("probe(" + d + ", " + topic + ")", x.probe(d, topic), want[d][topic]);
            }
        }
        x.warm(0, 0, 0, 20);
        due.is("one number", x.probe(0, 0), Due.NONE);
        x.warm(0, 0, 0, 25);
        due.is("no number", x.probe(0, 0), Due.NONE);
        PraiseDuels y = Due.meadow("d9 0 1 1 1 1;d9 0 1 1 1 1;c0 1 1 2 3;c0 1 1 0 1;c0 2 1 0 1;c0 1 1 1 8;c1 1 1 0 1;e0 0;e1 1;");
        due.is("pairs are worse than single ones", y.probe(0, 0), 2);
        due.is("of like ones the least", y.probe(1, 0), 2);
        due.is("pairs", y.probe(0, 1), 4);
        due.is("no COMPLIMENT of it", y.probe(0, 2), Due.NONE);
        y.warm(1, 0, 1, 1);
        y.warm(4, 0, 0, 2);
        due.is("4 to 7", y.vain(0, 0), 240);
        due.is("parts of 4 to 7", y.probe(0, 0), 2);
        due.is("4 and 5", y.vain(0, 1), 48);
        due.is("none parts 4 and 5", y.probe(0, 1), Due.NONE);
        y.act(0, 1);
        due.is("it is TRUE now: 2 alone", y.vain(0, 1), 4);
        PraiseDuels z = Due.meadow("d9 0 1 1 1 1;c0 1 1 8 8;c0 2 1 8 8;c1 2 1 0 1;c2 1 1 0 8;c2 1 1 0 1;e0 1;");
        due.is("first told, all parted by each", z.probe(0, 0), 0);
        due.is("a FALSE one parts none", z.probe(0, 2), 4);
        z.warm(2, 0, 2, 1);
        due.is("4 to 7", z.vain(0, 1), 240);
        due.is("4 to 7 parted", z.probe(0, 1), 2);
        z.warm(2, 0, 1, 3);
        due.is("6 and 7", z.vain(0, 1), 192);
        due.is("two parted", z.probe(0, 1), 2);
        PraiseDuels most = Due.meadow("d9 0 1 1 1 1;c0 9 1 8 8;");
        due.is("by 0 to 81", most.probe(0, 0), 0);
        most.warm(0, 0, 0, 81);
        due.is("9 alone", most.vain(0, 0), 512);
        due.is("9 alone is not parted", most.probe(0, 0), Due.NONE);
    }

    private static void cheek() {
        PraiseDuels x = new PraiseDuels();
        due.is("cheek(-1)", x.cheek(-1), Due.OUTSIDE);
        due.is("cheek(1000)", x.cheek(1000), Due.OUTSIDE);
        due.is("cheek(0)", x.cheek(0), 1);
        due.is("cheek(999)", x.cheek(999), 2);
        due.is("cheek(0)", x.cheek(0), 3);
        due.is("cheek(0)", x.cheek(0), 4);
        due.is("cheek(0), full", x.cheek(0), Due.FULL);
        due.is("cheek(1000), full", x.cheek(1000), Due.OUTSIDE);
        due.is("told(10)", x.told(10), 4);
    }

    private static void saidRefused() {
        PraiseDuels x = three();
        due.is("said(-1), no DUEL", x.said(-1), Due.NOT);
        due.is("said(7), no DUEL", x.said(7), Due.NOT);
        due.is("surely(), no DUEL", x.surely(), Due.NOT);
        x.duel(0, 1);
        x.pass();
        x.pass();
        due.is("said(-1), over", x.said(-1), Due.NOT);
        due.is("surely(), over", x.surely(), Due.NOT);
    }

    /** How many rows, the first one with NONE behind it, and what is in all. */
    private static void rows(String when, PraiseDuels x, int many, int surely, int... first) {
        due.is(when + ": said(-1)", x.said(-1), many);
        due.is(when + ": surely()", x.surely(), surely);
        for (int i = 0; i < 6; i++) {
            due.is(when + ": said(" + i + ")", x.said(i), i < first.length ? first[i] : Due.NONE);
        }
        due.is(when + ": said(-2)", x.said(-2), Due.NONE);
        due.is(when + ": said(MAX)", x.said(Integer.MAX_VALUE), Due.NONE);
        due.is(when + ": said(MIN)", x.said(Integer.MIN_VALUE), Due.NONE);
    }

    private static void said() {
        PraiseDuels x = three();
        x.duel(0, 1);
        rows("without CHEEKS", x, 1, 0);
        x.cheek(4);
        rows("4: c3 or c5", x, 2, 0, 3);
        x.cheek(7);
        rows("7: c2 behind it", x, 2, 4, 3, 2);
        x.cheek(7);
        rows("2 and 5", x, 1, 13, 3, 2, 0);
        x.tear();
        x.cheek(4);
        x.cheek(7);
        x.cheek(4);
        rows("2 and 5 halved", x, 1, 37, 5, 2, 0);
        x.tear();
        x.cheek(0);
        rows("FALSE ones are none", x, 0, 0);
        x.vanity(1, 3, 0);
        rows("of no EFFECT, but not FALSE", x, 1, 8, 3);
        x.vanity(1, 3, 2);
        x.tear();
        x.say(3);
        x.cheek(18);
        rows("c3 was said", x, 0, 0);
        x.tear();
        x.cheek(20);
        due.is("surely() ahead of said()", x.surely(), 1);
        rows("on the other one now", x, 1, 1, 0);
        x.cheek(29);
        rows("17 and 12", x, 1, 3, 0, 1);
        due.is("nothing changes", x.told(6), 1);
        x.duel(2, 1);
        x.pass();
        x.tear();
        x.cheek(40);
        due.is("surely() on 2", x.surely(), 16);
        rows("on 2", x, 1, 16, 4);
    }

    private static void saidByCooling() {
        PraiseDuels x = three();
        x.duel(1, 0);
        x.say(0);
        x.pass();
        due.is("blush", x.duellist(0, 8), 17);
        x.cheek(29);
        rows("no COOLING ahead of the first", x, 1, 2, 1);
        x.cheek(44);
        rows("26 and 18", x, 1, 10, 1, 3);
        x.tear();
        x.cheek(35);
        x.cheek(44);
        rows("32 and 12", x, 1, 10, 3, 1);
        x.tear();
        x.cheek(17);
        rows("c0 was said", x, 0, 0);
        x.tear();
        x.act(0, 1);
        x.cheek(25);
        rows("8: c5, told before", x, 1, 32, 5);
        x.cheek(22);
        rows("not once more", x, 0, 0);
    }

    private static void saidWithoutLines() {
        PraiseDuels x = three();
        x.duel(0, 2);
        x.cheek(45);
        rows("45 is more than LINE 25", x, 1, 1, 0);
        x.cheek(63);
        rows("63", x, 1, 9, 0, 3);
        x.cheek(103);
        rows("half true c4", x, 1, 25, 0, 3, 4);
        x.cheek(103);
        rows("nothing more of no EFFECT", x, 0, 0);
    }

    private static void fourCheeks() {
        PraiseDuels x = Due.meadow("d999 99 9 9 9 9;d5 0 1 1 1 1;c0 1 1 8 8;c1 1 1 8 8;c2 1 1 8 8;c3 1 1 8 8;c0 1 1 8 8;"
                + "c1 1 1 8 8;c2 1 1 8 8;c3 1 1 8 8;");
        x.duel(0, 1);
        x.cheek(1);
        x.cheek(2);
        x.cheek(3);
        x.cheek(4);
        rows("8 * 6 * 4 * 2", x, 384, 0, 0, 1, 2, 3);
        x.tear();
        x.cheek(1);
        x.cheek(1);
        x.cheek(2);
        x.cheek(2);
        rows("a TOPIC again is nothing", x, 48, 0, 0, 4, 1, 5);
    }

    private static void write() {
        PraiseDuels x = new PraiseDuels();
        due.is("write(0), no COMPLIMENTS", x.write(0), Due.UNKNOWN);
        due.is("write(7), no COMPLIMENTS", x.write(7), Due.UNKNOWN);
        due.is("write(9)", x.write(9), 1);
        x = three();
        due.is("write(6)", x.write(6), Due.UNKNOWN);
        due.is("write(10)", x.write(10), Due.OUTSIDE);
        due.is("write(-1)", x.write(-1), Due.OUTSIDE);
        due.is("write(5)", x.write(5), 1);
        for (int i = 2; i <= 20; i++) {
            due.is("write(8)", x.write(8), i);
        }
        due.is("write(8), full", x.write(8), Due.FULL);
        due.is("write(6), full", x.write(6), Due.UNKNOWN);
        due.is("write(10), full", x.write(10), Due.OUTSIDE);
    }

    private static PraiseDuels book(int... turns) {
        PraiseDuels x = three();
        x.duel(0, 1);
        x.say(3);
        for (int turn : turns) {
            x.write(turn);
        }
        return x;
    }

    private static void judged(String when, PraiseDuels x, int wrong, int result) {
        int turns = x.told(6);
        due.is(when + ": judge(0)", x.judge(0), wrong);
        due.is(when + ": judge(1)", x.judge(1), result);
        due.is(when + ": nothing changes", x.told(6), turns);
        due.is(when + ": nothing changes", x.duellist(0, 7), 0);
    }

    private static void judge() {
        PraiseDuels x = three();
        due.is("judge(0), no DUEL", x.judge(0), Due.NOT);
        due.is("judge(2), no DUEL", x.judge(2), Due.OUTSIDE);
        due.is("judge(-1), no DUEL", x.judge(-1), Due.OUTSIDE);
        judged("an empty BOOK", book(), Due.NONE, 0);
        judged("c3 was said", book(3), 0, 0);
        judged("c0 twice", book(8, 0, 0, 8), 2, 0);
        judged("a draw", book(8, 8), Due.NONE, 3);
        judged("more behind a draw", book(0, 8, 8, 1), 3, 3);
        judged("no FOULS to apologize for", book(9), 0, 0);
        judged("a FOUL of the other one", book(4, 8, 9, 9), 3, 0);
        judged("an apology between PASSES", book(4, 8, 9, 8, 8), Due.NONE, 3);
        judged("not to apologize twice", book(4, 8, 9, 8, 9), 4, 0);
        judged("29 is less than LINE 30", book(0, 8, 1, 8, 8), Due.NONE, 3);
        x = book(0, 8, 1, 8, 8);
        x.vanity(0, 1, 3);
        judged("35 is more", x, 3, 2);
        x = book(8, 8);
        x.pass();
        judged("from now: a PASS ahead", x, 1, 3);
        x.pass();
        due.is("over: judge(0)", x.judge(0), 0);
        due.is("over: judge(1)", x.judge(1), 3);
        x.tear();
        due.is("over, an empty BOOK: judge(0)", x.judge(0), Due.NONE);
        due.is("over, an empty BOOK: judge(1)", x.judge(1), 3);
        x = book(4, 8, 5, 8, 1);
        x.write(8);
        judged("1 says FALSE ones", x, Due.NONE, 0);
    }

    private static void tear() {
        PraiseDuels x = three();
        due.is("tear()", x.tear(), 0);
        x.warm(0, 0, 0, 0);
        x.warm(0, 0, 0, 99);
        x.cheek(1);
        x.cheek(1);
        x.cheek(1);
        x.write(9);
        due.is("tear()", x.tear(), 6);
        due.is("tear() again", x.tear(), 0);
        due.tells("torn", x, 3, 6, 0, Due.NONE, Due.NONE, 0, 0, Due.NONE, 0, 0, 0, 0, 0);
        due.is("vain", x.vain(0, 0), 1023);
        x.duel(0, 1);
        due.is("said", x.said(-1), 1);
        due.is("judge", x.judge(0), Due.NONE);
        due.is("warm again", x.warm(0, 0, 0, 5), 1);
        due.is("vain", x.vain(0, 0), 2);
    }
}
