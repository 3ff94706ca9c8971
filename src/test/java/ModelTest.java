/** Runs of calls by numbers drawn from a fixed start: PraiseDuels answers each as the Model does. */
public final class ModelTest {
    private static final int RUNS = 3000;
    // an object is used for 512 calls: a step takes 9 at most, all there is to compare 105, a meadow 252
    private static final int LAST_STEP = 398;
    private static final int LAST_COMPARED = 290;
    private static final int LAST_MEADOW = 150;
    private static final String[] LETTERS = {"d", "c", "e", ";", " ", "x", "0", "1", "8", "9", "10", "1000", "99"};

    private final Due due;
    private final int run;
    private long drawn;
    private int calls;
    private PraiseDuels x = new PraiseDuels();
    private Model model = new Model();

    private ModelTest(Due due, int run) {
        this.due = due;
        this.run = run;
        drawn = run * 7919L + 17;
    }

    public static void main(String[] args) {
        Due due = new Due();
        for (int run = 0; run < RUNS; run++) {
            new ModelTest(due, run).go();
        }
        due.end("ModelTest");
    }

    private int draw(int n) {
        drawn = drawn * 6364136223846793005L + 1442695040888963407L;
        return (int) ((drawn >>> 33) % n);
    }

    /** From least to most; now and then beyond them. */
    private int near(int least, int most) {
        return draw(12) == 0 ? least - 1 + draw(2) * (most - least + 2) : least + draw(most - least + 1);
    }

    private void is(String call, int got, int want) {
        due.is("run " + run + ": " + call, got, want);
        calls++;
    }

    private void go() {
        tellMeadow(run % 10 == 9);
        int last = LAST_STEP - draw(3) * 50;
        // a step may be without a call, so the steps are counted, too
        for (int step = 0; step < LAST_STEP && calls < last; step++) {
            int what = draw(100);
            if (what < 45) {
                turn();
            } else if (what < 65) {
                tried();
            } else if (what < 85) {
                seen();
            } else {
                change(what);
            }
            if (calls < LAST_COMPARED && draw(12) == 0) {
                compareAll();
            }
        }
        compareAll();
    }

    private String number(int least, int most) {
        return " " + (draw(300) == 0 ? near(least, most) : least + draw(most - least + 1));
    }

    private void tellMeadow(boolean wild) {
        StringBuilder text = new StringBuilder();
        int people = draw(10) == 0 ? draw(6) : 2 + draw(3);
        int phrases = draw(8) == 0 ? draw(10) : 3 + draw(6);
        int deeds = people == 0 ? 0 : draw(8);
        int height = draw(3) == 0 ? 999 : 40 + draw(60);
        for (int d = 0; d < people; d++) {
            text.append("d").append(number(1, height)).append(number(0, draw(3) == 0 ? 20 : 4));
            text.append(number(0, 9)).append(number(0, 9)).append(number(0, 9)).append(number(0, 9)).append(";");
        }
        int topics = draw(4);
        for (int c = 0; c < phrases; c++) {
            text.append("c").append(number(0, topics)).append(number(1, 9)).append(number(1, 9));
            text.append(draw(3) == 0 ? number(0, 4) : " 8").append(draw(3) == 0 ? number(0, 4) : " 8").append(";");
        }
        for (int e = 0; e < deeds; e++) {
            text.append("e").append(number(0, people - 1)).append(" ").append(e % 5).append(";");
        }
        for (int k = wild ? 1 + draw(3) : 0; k > 0; k--) {
            text.insert(draw(text.length() + 1), LETTERS[draw(LETTERS.length)]);
        }
        for (int i = 0; i < text.length(); i++) {
            is("feed(" + (int) text.charAt(i) + ")", x.feed(text.charAt(i)), model.feed(text.charAt(i)));
        }
        is("meadow() of '" + text + "'", x.meadow(), model.meadow());
        is("fault() of '" + text + "'", x.fault(), model.fault());
    }

    private void turn() {
        int what = draw(20);
        if (what < 9) {
            int c = near(0, Math.max(0, model.told(1) - 1));
            is("say(" + c + ")", x.say(c), model.say(c));
        } else if (what < 11) {
            is("pass()", x.pass(), model.pass());
        } else if (what < 14) {
            is("sorry()", x.sorry(), model.sorry());
        } else if (what == 14) {
            int n = draw(3) == 0 ? near(1, 60) : near(1, 4);
            is("undo(" + n + ")", x.undo(n), model.undo(n));
        } else if (what == 15) {
            int n = draw(3) == 0 ? near(1, 40) : near(1, 3);
            is("drift(" + n + ")", x.drift(n), model.drift(n));
        } else if (model.told(7) < 0 || draw(4) == 0) {
            int a = near(0, 3);
            int b = near(0, 3);
            is("duel(" + a + ", " + b + ")", x.duel(a, b), model.duel(a, b));
        }
    }

    private void tried() {
        int d = near(0, Math.max(0, model.told(0) - 1));
        int c = near(0, Math.max(0, model.told(1) - 1));
        int what = near(0, 1);
        switch (draw(9)) {
            case 0:
                if (model.told(1) - Integer.bitCount(model.told(8)) < 5 || draw(8) == 0) {
                    is("best(0)", x.best(0), model.best(0));
                    is("best(" + what + ")", x.best(what), model.best(what));
                }
                break;
            case 1:
                is("greatest(" + what + ")", x.greatest(what), model.greatest(what));
                break;
            case 2:
                harden(d);
                break;
            case 3:
                int m = near(0, 8);
                is("deeds(" + d + ", " + m + ", " + what + ")", x.deeds(d, m, what), model.deeds(d, m, what));
                break;
            case 4:
                int g = near(1, 2);
                if (g < 1 || g > 2 || model.openDuels(g) <= 7) {
                    is("league(" + g + ")", x.league(g), model.league(g));
                }
                break;
            case 5:
                is("met(" + d + ", " + what + ")", x.met(d, what), model.met(d, what));
                break;
            case 6:
                int set = near(0, draw(3) == 0 ? 15 : (1 << model.told(0)) - 1);
                is("shared(" + c + ", " + set + ")", x.shared(c, set), model.shared(c, set));
                break;
            case 7:
                is("powder()", x.powder(), model.powder());
                break;
            default:
                is("effect(" + c + ", " + d + ")", x.effect(c, d), model.effect(c, d));
                is("truth(" + c + ", " + d + ")", x.truth(c, d), model.truth(c, d));
        }
    }

    private void harden(int d) {
        int v = draw(3) == 0 ? near(1, 99) : near(1, 30);
        int p = near(1, 9);
        for (int topic = -2; topic < 5; topic++) {
            is("harden(" + d + ", " + v + ", " + p + ", " + topic + ")", x.harden(d, v, p, topic),
                    model.harden(d, v, p, topic));
        }
    }

    private void seen() {
        int d = near(0, Math.max(0, model.told(0) - 1));
        int c = near(0, Math.max(0, model.told(1) - 1));
        int what = near(0, 1);
        int topic = near(0, 3);
        switch (draw(8)) {
            case 0:
                warm(c, d);
                break;
            case 1:
                is("vain(" + d + ", " + topic + ")", x.vain(d, topic), model.vain(d, topic));
                break;
            case 2:
                is("probe(" + d + ", " + topic + ")", x.probe(d, topic), model.probe(d, topic));
                break;
            case 3:
                cheek();
                break;
            case 4:
                for (int i = -1; i < 5; i++) {
                    is("said(" + i + ")", x.said(i), model.said(i));
                }
                is("surely()", x.surely(), model.surely());
                break;
            case 5:
                int turn = draw(3) == 0 ? near(0, 9) : draw(2) == 0 ? near(8, 9) : c;
                is("write(" + turn + ")", x.write(turn), model.write(turn));
                break;
            case 6:
                is("judge(0)", x.judge(0), model.judge(0));
                is("judge(" + what + ")", x.judge(what), model.judge(what));
                break;
            default:
                if (draw(4) == 0) {
                    is("tear()", x.tear(), model.tear());
                }
        }
    }

    private void warm(int c, int d) {
        int times = draw(3) == 0 ? near(0, 9) : draw(2);
        int v = draw(10);
        int whole = Math.max(0, model.compliment(c, 1)) * v;
        int half = model.truth(c, d) == 1 ? whole / 2 : model.truth(c, d) == 0 ? 0 : whole;
        int effect = draw(4) == 0 ? near(0, 99) : half >> Math.max(0, times);
        is("warm(" + c + ", " + d + ", " + times + ", " + effect + ")", x.warm(c, d, times, effect),
                model.warm(c, d, times, effect));
    }

    /** A BLUSH that may well be: of the rows that fit so far, the first one's with one more. */
    private void cheek() {
        int blush = draw(8) == 0 ? near(0, 999) : draw(60);
        int first = model.told(7);
        if (first >= 0 && draw(4) != 0) {
            int other = model.told(3) == first ? model.told(4) : model.told(3);
            int c = draw(8);
            int cool = Math.max(0, model.duellist(other, 1));
            blush = model.duellist(other, 8) + Math.max(0, model.effect(c, other));
            for (int i = 0; i < model.told(10); i++) {
                blush = Math.max(0, blush - cool) + Math.max(0, model.effect((c + i + 1) % 8, other));
            }
        }
        is("cheek(" + blush + ")", x.cheek(blush), model.cheek(blush));
    }

    private void change(int what) {
        int d = near(0, Math.max(0, model.told(0) - 1));
        int i = near(0, 1);
        if (what < 89) {
            int n = near(0, 7);
            is("act(" + d + ", " + n + ")", x.act(d, n), model.act(d, n));
        } else if (what < 92) {
            int topic = near(0, 3);
            int v = near(0, 9);
            is("vanity(" + d + ", " + topic + ", " + v + ")", x.vanity(d, topic, v), model.vanity(d, topic, v));
        } else if (what < 95) {
            is("keep(" + i + ")", x.keep(i), model.keep(i));
        } else if (what < 98) {
            is("goBack(" + i + ")", x.goBack(i), model.goBack(i));
        } else if (what < 99) {
            int v = draw(4) == 0 ? -draw(9) : draw(2147483647);
            is("seed(" + v + ")", x.seed(v), model.seed(v));
        } else if (calls < LAST_MEADOW) {
            tellMeadow(draw(2) == 0);
        }
    }

    private void compareAll() {
        for (int what = 0; what < 13; what++) {
            is("told(" + what + ")", x.told(what), model.told(what));
        }
        for (int d = 0; d < model.told(0); d++) {
            for (int what = 0; what < 15; what++) {
                is("duellist(" + d + ", " + what + ")", x.duellist(d, what), model.duellist(d, what));
            }
            for (int c = 0; c < model.told(1); c++) {
                is("effect(" + c + ", " + d + ")", x.effect(c, d), model.effect(c, d));
            }
        }
    }
}
