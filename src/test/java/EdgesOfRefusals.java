import java.util.function.Supplier;
import java.util.function.ToIntFunction;

/** The order of REFUSALS, and that what is refused changes nothing: each call beside an object of which it is not asked. */
final class EdgesOfRefusals {
    private static final String PEOPLE = "d30 3 4 2 0 9;d40 5 1 5 3 2;";
    private static final String TWO = PEOPLE + "c0 5 3 8 8;c1 6 2 0 8;c3 2 1 8 8;e0 0;";
    private final Edges edges;

    EdgesOfRefusals(Edges edges) {
        this.edges = edges;
    }

    void all() {
        constants();
        edges.sentence(11, "REFUSALS, of several the first in this order:");
        unknownFirst();
        outsideAheadOfNot();
        outsideAheadOfFull();
        edges.sentence(12, "What is refused changes nothing.");
        unknownChangesNothing();
        outsideChangesNothing();
        notChangesNothing();
        overChangesNothing();
        fullChangesNothing();
    }

    private void constants() {
        edges.sentence(1, "They are far below all that is counted: -1000000001 and on.");
        edges.is("UNKNOWN", PraiseDuels.UNKNOWN, -1000000001);
        edges.is("OUTSIDE", PraiseDuels.OUTSIDE, -1000000002);
        edges.is("NOT", PraiseDuels.NOT, -1000000003);
        edges.is("FULL", PraiseDuels.FULL, -1000000004);
        PraiseDuels x = new PraiseDuels();
        edges.sentence(6, "UNKNOWN (a DUELLIST, COMPLIMENT, IMAGE that there is not; one twice; bits of such),");
        edges.is("duellist(0, 0)", x.duellist(0, 0), -1000000001);
        edges.is("compliment(0, 0)", x.compliment(0, 0), -1000000001);
        edges.is("keep(2)", x.keep(2), -1000000001);
        edges.is("duel(0, 0)", noDuel().duel(0, 0), -1000000001);
        edges.is("shared(0, 4)", noDuel().shared(0, 4), -1000000001);
        edges.sentence(2, "OUTSIDE (another number out of its bounds),");
        edges.is("feed(256)", x.feed(256), -1000000002);
        edges.sentence(12, "NOT (not now, as told),");
        edges.is("pass()", x.pass(), -1000000003);
        edges.sentence(29, "FULL.");
        for (int i = 0; i < 4; i++) {
            x.cheek(0);
        }
        edges.is("cheek(0)", x.cheek(0), -1000000004);
    }

    // ---- objects

    private static PraiseDuels noDuel() {
        PraiseDuels x = Due.meadow(TWO);
        x.seed(77);
        x.act(1, 6);
        x.keep(1);
        x.vanity(0, 0, 3);
        x.write(8);
        return x;
    }

    private static PraiseDuels inDuel() {
        PraiseDuels x = noDuel();
        x.duel(1, 0);
        x.pass();
        x.pass();
        x.duel(0, 1);
        x.say(1);
        x.say(0);
        x.pass();
        return x;
    }

    private static PraiseDuels over() {
        PraiseDuels x = inDuel();
        x.pass();
        return x;
    }

    /** All that can be full is. */
    private static PraiseDuels full() {
        PraiseDuels x = Due.meadow(PEOPLE + "c0 5 3 8 8;");
        x.duel(1, 0);
        for (int i = 0; i < 12; i++) {
            x.warm(0, 0, 0, 20);
        }
        for (int i = 0; i < 4; i++) {
            x.cheek(20);
        }
        for (int i = 0; i < 20; i++) {
            x.write(8);
        }
        for (int i = 0; i < 250; i++) {
            x.feed(' ');
        }
        return x;
    }

    /** A call that is refused so, and the same object without it: of both all is the same. */
    private void refused(String call, Supplier<PraiseDuels> made, ToIntFunction<PraiseDuels> asked, int want) {
        PraiseDuels x = made.get();
        PraiseDuels y = made.get();
        edges.is(call, asked.applyAsInt(x), want);
        same(call, x, y);
        edges.is(call + ": goBack(0)", x.goBack(0), y.goBack(0));
        edges.is(call + ": goBack(1)", x.goBack(1), y.goBack(1));
        edges.is(call + ": THE SEED of the IMAGE", x.seed(0), y.seed(0));
        edges.is(call + ": undo(1) of the IMAGE", x.undo(1), y.undo(1));
        edges.is(call + ": meadow()", x.meadow(), y.meadow());
    }

    private void same(String call, PraiseDuels x, PraiseDuels y) {
        for (int what = 0; what <= 12; what++) {
            edges.is(call + ": told(" + what + ")", x.told(what), y.told(what));
        }
        for (int d = 0; d < 2; d++) {
            for (int what = 0; what <= 14; what++) {
                edges.is(call + ": duellist(" + d + ", " + what + ")", x.duellist(d, what), y.duellist(d, what));
            }
            edges.is(call + ": vain(" + d + ", 0)", x.vain(d, 0), y.vain(d, 0));
        }
        edges.is(call + ": fault()", x.fault(), y.fault());
        edges.is(call + ": met(0, 1)", x.met(0, 1), y.met(0, 1));
        edges.is(call + ": said(-1)", x.said(-1), y.said(-1));
        edges.is(call + ": said(0)", x.said(0), y.said(0));
        edges.is(call + ": judge(0)", x.judge(0), y.judge(0));
        edges.is(call + ": judge(1)", x.judge(1), y.judge(1));
        edges.is(call + ": the SEED", x.seed(5), y.seed(5));
        edges.is(call + ": undo(1)", x.undo(1), y.undo(1));
    }

    // ---- the order

    private void unknownFirst() {
        PraiseDuels x = noDuel();
        int want = Due.UNKNOWN;
        edges.is("ahead of OUTSIDE: duellist(2, 15)", x.duellist(2, 15), want);
        edges.is("ahead of OUTSIDE: compliment(3, 5)", x.compliment(3, 5), want);
        edges.is("ahead of OUTSIDE: act(2, 8)", x.act(2, 8), want);
        edges.is("ahead of OUTSIDE: vanity(2, 4, 10)", x.vanity(2, 4, 10), want);
        edges.is("ahead of OUTSIDE: harden(2, 0, 0, 4)", x.harden(2, 0, 0, 4), want);
        edges.is("ahead of OUTSIDE: deeds(2, 9, 2)", x.deeds(2, 9, 2), want);
        edges.is("ahead of OUTSIDE: warm(3, 0, 10, 100)", x.warm(3, 0, 10, 100), want);
        edges.is("ahead of OUTSIDE: warm(0, 2, 10, 100)", x.warm(0, 2, 10, 100), want);
        edges.is("ahead of OUTSIDE: vain(2, 4)", x.vain(2, 4), want);
        edges.is("ahead of OUTSIDE: probe(2, 4)", x.probe(2, 4), want);
        edges.is("ahead of NOT: say(3), no DUEL", x.say(3), want);
        edges.is("ahead of NOT: say(3), over", over().say(3), want);
        edges.is("ahead of NOT: goBack(2)", x.goBack(2), want);
        edges.is("ahead of FULL: warm(1, 0, 0, 0)", full().warm(1, 0, 0, 0), want);
        edges.is("ahead of FULL: warm(0, 2, 0, 0)", full().warm(0, 2, 0, 0), want);
        edges.is("ahead of FULL: write(1)", full().write(1), want);
    }

    private void outsideAheadOfNot() {
        PraiseDuels x = noDuel();
        PraiseDuels y = over();
        int want = Due.OUTSIDE;
        edges.is("no DUEL: undo(0)", x.undo(0), want);
        edges.is("no DUEL: undo(61)", x.undo(61), want);
        edges.is("not so many: undo(61)", y.undo(61), want);
        edges.is("no DUEL: drift(0)", x.drift(0), want);
        edges.is("over: drift(41)", y.drift(41), want);
        edges.is("no DUEL: best(2)", x.best(2), want);
        edges.is("over: best(-1)", y.best(-1), want);
        edges.is("no DUEL: greatest(2)", x.greatest(2), want);
        edges.is("over: greatest(-1)", y.greatest(-1), want);
        edges.is("no DUEL: judge(2)", x.judge(2), want);
        PraiseDuels six = Due.meadow(MeadowTest.THREE);
        six.duel(0, 1);
        edges.is("more than 5 are unsaid: best(2)", six.best(2), want);
    }

    private void outsideAheadOfFull() {
        PraiseDuels x = full();
        int want = Due.OUTSIDE;
        edges.is("feed(-1)", x.feed(-1), want);
        edges.is("feed(256)", x.feed(256), want);
        edges.is("warm(0, 0, 10, 0)", x.warm(0, 0, 10, 0), want);
        edges.is("warm(0, 0, 0, 100)", x.warm(0, 0, 0, 100), want);
        edges.is("cheek(-1)", x.cheek(-1), want);
        edges.is("cheek(1000)", x.cheek(1000), want);
        edges.is("write(-1)", x.write(-1), want);
        edges.is("write(10)", x.write(10), want);
    }

    // ---- nothing changes

    private void unknownChangesNothing() {
        Supplier<PraiseDuels> made = EdgesOfRefusals::inDuel;
        refused("duel(0, 2)", made, x -> x.duel(0, 2), Due.UNKNOWN);
        refused("duel(-1, 1)", made, x -> x.duel(-1, 1), Due.UNKNOWN);
        refused("duel(1, 1)", made, x -> x.duel(1, 1), Due.UNKNOWN);
        refused("say(3)", made, x -> x.say(3), Due.UNKNOWN);
        refused("say(-1)", made, x -> x.say(-1), Due.UNKNOWN);
        refused("act(2, 3)", made, x -> x.act(2, 3), Due.UNKNOWN);
        refused("vanity(2, 0, 0)", made, x -> x.vanity(2, 0, 0), Due.UNKNOWN);
        refused("warm(3, 0, 0, 20)", made, x -> x.warm(3, 0, 0, 20), Due.UNKNOWN);
        refused("warm(0, 2, 0, 20)", made, x -> x.warm(0, 2, 0, 20), Due.UNKNOWN);
        refused("write(3)", made, x -> x.write(3), Due.UNKNOWN);
        refused("keep(2)", made, x -> x.keep(2), Due.UNKNOWN);
        refused("keep(-1)", made, x -> x.keep(-1), Due.UNKNOWN);
        refused("goBack(2)", made, x -> x.goBack(2), Due.UNKNOWN);
        refused("goBack(-1)", made, x -> x.goBack(-1), Due.UNKNOWN);
    }

    private void outsideChangesNothing() {
        Supplier<PraiseDuels> made = EdgesOfRefusals::inDuel;
        refused("feed(256)", made, x -> x.feed(256), Due.OUTSIDE);
        refused("undo(0)", made, x -> x.undo(0), Due.OUTSIDE);
        refused("undo(-1)", made, x -> x.undo(-1), Due.OUTSIDE);
        refused("undo(61)", made, x -> x.undo(61), Due.OUTSIDE);
        refused("act(0, 8)", made, x -> x.act(0, 8), Due.OUTSIDE);
        refused("act(0, 32)", made, x -> x.act(0, 32), Due.OUTSIDE);
        refused("vanity(0, 4, 0)", made, x -> x.vanity(0, 4, 0), Due.OUTSIDE);
        refused("vanity(0, 0, 10)", made, x -> x.vanity(0, 0, 10), Due.OUTSIDE);
        refused("drift(0)", made, x -> x.drift(0), Due.OUTSIDE);
        refused("drift(41)", made, x -> x.drift(41), Due.OUTSIDE);
        refused("warm(0, 0, 10, 20)", made, x -> x.warm(0, 0, 10, 20), Due.OUTSIDE);
        refused("warm(0, 0, 0, 100)", made, x -> x.warm(0, 0, 0, 100), Due.OUTSIDE);
        refused("cheek(1000)", made, x -> x.cheek(1000), Due.OUTSIDE);
        refused("cheek(-1)", made, x -> x.cheek(-1), Due.OUTSIDE);
        refused("write(10)", made, x -> x.write(10), Due.OUTSIDE);
        refused("seed(-1)", made, x -> x.seed(-1), Due.OUTSIDE);
    }

    private void notChangesNothing() {
        refused("no DUEL: say(0)", EdgesOfRefusals::noDuel, x -> x.say(0), Due.NOT);
        refused("no DUEL: pass()", EdgesOfRefusals::noDuel, PraiseDuels::pass, Due.NOT);
        refused("no DUEL: sorry()", EdgesOfRefusals::noDuel, PraiseDuels::sorry, Due.NOT);
        refused("no DUEL: undo(1)", EdgesOfRefusals::noDuel, x -> x.undo(1), Due.NOT);
        refused("no DUEL: drift(1)", EdgesOfRefusals::noDuel, x -> x.drift(1), Due.NOT);
        refused("no DUEL: goBack(0)", EdgesOfRefusals::noDuel, x -> x.goBack(0), Due.NOT);
        refused("in a DUEL: goBack(0)", EdgesOfRefusals::inDuel, x -> x.goBack(0), Due.NOT);
        refused("said already: say(0)", EdgesOfRefusals::inDuel, x -> x.say(0), Due.NOT);
        refused("no FOULS: sorry()", EdgesOfRefusals::inDuel, PraiseDuels::sorry, Due.NOT);
        refused("not so many: undo(4)", EdgesOfRefusals::inDuel, x -> x.undo(4), Due.NOT);
        refused("not so many: undo(60)", EdgesOfRefusals::inDuel, x -> x.undo(60), Due.NOT);
    }

    private void overChangesNothing() {
        Supplier<PraiseDuels> made = EdgesOfRefusals::over;
        refused("over: say(2)", made, x -> x.say(2), Due.NOT);
        refused("over: pass()", made, PraiseDuels::pass, Due.NOT);
        refused("over: sorry()", made, PraiseDuels::sorry, Due.NOT);
        refused("over: drift(40)", made, x -> x.drift(40), Due.NOT);
        refused("over: undo(5)", made, x -> x.undo(5), Due.NOT);
    }

    private void fullChangesNothing() {
        Supplier<PraiseDuels> made = EdgesOfRefusals::full;
        refused("full: feed('x')", made, x -> x.feed('x'), Due.FULL);
        refused("full: warm(0, 0, 0, 25)", made, x -> x.warm(0, 0, 0, 25), Due.FULL);
        refused("full: cheek(25)", made, x -> x.cheek(25), Due.FULL);
        refused("full: write(0)", made, x -> x.write(0), Due.FULL);
    }
}
