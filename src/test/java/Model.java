import java.util.ArrayList;
import java.util.Arrays;
import java.util.List;

/** The document once more, in the plainest and slowest way: what PraiseDuels answers is compared with it. */
final class Model {
    private static final int NONE = -1, UNKNOWN = -1000000001, OUTSIDE = -1000000002, NOT = -1000000003,
            FULL = -1000000004;

    /** A DUEL at one moment. */
    private static final class Moment {
        int result;
        int passes;
        List<Integer> said = new ArrayList<>();
        int[] blush = new int[2];
        int[] fouls = new int[2];
        int[] words = new int[2];
        int[][] told = new int[2][4];

        Moment copy() {
            Moment m = new Moment();
            m.result = result;
            m.passes = passes;
            m.said = new ArrayList<>(said);
            m.blush = blush.clone();
            m.fouls = fouls.clone();
            m.words = words.clone();
            m.told = new int[][] {told[0].clone(), told[1].clone()};
            return m;
        }
    }

    /** A DUEL that is over: the first one, the other one, the RESULT. */
    private record Over(int a, int b, int result) {
    }

    private static final class World {
        int[] done = new int[4];
        int[][] vanities = new int[4][4];
        int a = NONE;
        int b = NONE;
        List<Moment> moments = new ArrayList<>();
        List<Over> overs = new ArrayList<>();
        long seed;

        World copy() {
            World w = new World();
            w.done = done.clone();
            for (int d = 0; d < 4; d++) {
                w.vanities[d] = vanities[d].clone();
            }
            w.a = a;
            w.b = b;
            for (Moment m : moments) {
                w.moments.add(m.copy());
            }
            w.overs.addAll(overs);
            w.seed = seed;
            return w;
        }

        Moment last() {
            return moments.get(moments.size() - 1);
        }

        int turns() {
            return moments.size() - 1;
        }

        int person(int side) {
            return side == 0 ? a : b;
        }
    }

    private final StringBuilder text = new StringBuilder();
    private int faultPlace = NONE;
    private List<int[]> people = new ArrayList<>();
    private List<int[]> phrases = new ArrayList<>();
    private World w = new World();
    private final World[] images = new World[2];
    private final List<int[]> warmed = new ArrayList<>();
    private final List<Integer> cheeks = new ArrayList<>();
    private final List<Integer> book = new ArrayList<>();

    // ---- the meadow

    int feed(int letter) {
        if (letter < 0 || letter > 255) {
            return OUTSIDE;
        }
        if (text.length() == 250) {
            return FULL;
        }
        text.append((char) letter);
        return text.length();
    }

    /** Every FAULT with its place is gathered here; the first place counts, there the least. */
    private static final class Faults {
        int number;
        int place = Integer.MAX_VALUE;

        void add(int n, int at) {
            if (at < place || at == place && n < number) {
                number = n;
                place = at;
            }
        }
    }

    int meadow() {
        String t = text.toString();
        text.setLength(0);
        Faults faults = new Faults();
        List<int[]> newPeople = new ArrayList<>();
        List<int[]> newPhrases = new ArrayList<>();
        int[] done = new int[4];
        int[][] bounds = {{}, {1, 999, 0, 99, 0, 9, 0, 9, 0, 9, 0, 9}, {0, 3, 1, 9, 1, 9, 0, 8, 0, 8}, {0, 999, 0, 7}};
        int clause = 0;
        List<Integer> numbers = new ArrayList<>();
        int i = 0;
        while (i < t.length() && faults.number == 0) {
            char c = t.charAt(i);
            if (c == ' ') {
                i++;
            } else if (clause == 0) {
                clause = "dce".indexOf(c) + 1;
                if (clause == 0) {
                    faults.add(1, i);
                }
                if (clause == 1 && newPeople.size() == 4 || clause == 2 && newPhrases.size() == 8) {
                    faults.add(3, i);
                }
                numbers.clear();
                i++;
            } else if (numbers.size() < bounds[clause].length / 2) {
                int end = i;
                while (end < t.length() && Character.isDigit(t.charAt(end)) && t.charAt(end) < 128) {
                    end++;
                }
                if (end == i) {
                    faults.add(1, i);
                    break;
                }
                int k = numbers.size();
                int v = end - i > 3 ? -1 : Integer.parseInt(t.substring(i, end));
                if (v < bounds[clause][2 * k] || v > bounds[clause][2 * k + 1]) {
                    faults.add(2, i);
                } else if (clause == 3 && k == 0 && v >= newPeople.size()) {
                    faults.add(2, i);
                } else if (clause == 3 && k == 1 && (done[numbers.get(0)] & 1 << v) != 0) {
                    faults.add(4, i);
                }
                numbers.add(v);
                i = end;
            } else {
                if (c != ';') {
                    faults.add(1, i);
                    break;
                }
                int[] row = new int[numbers.size()];
                for (int k = 0; k < row.length; k++) {
                    row[k] = numbers.get(k);
                }
                if (clause == 1) {
                    newPeople.add(row);
                } else if (clause == 2) {
                    newPhrases.add(row);
                } else {
                    done[row[0]] |= 1 << row[1];
                }
                clause = 0;
                i++;
            }
        }
        if (clause != 0) {
            faults.add(1, t.length());
        }
        if (faults.number != 0) {
            faultPlace = faults.place;
            return -10 - faults.number;
        }
        faultPlace = NONE;
        people = newPeople;
        phrases = newPhrases;
        long seed = w.seed;
        w = new World();
        w.seed = seed;
        w.done = done;
        for (int d = 0; d < people.size(); d++) {
            w.vanities[d] = Arrays.copyOfRange(people.get(d), 2, 6);
        }
        Arrays.fill(images, null);
        tear();
        return people.size();
    }

    int fault() {
        return faultPlace;
    }

    private boolean person(int d) {
        return d >= 0 && d < people.size();
    }

    private boolean phrase(int c) {
        return c >= 0 && c < phrases.size();
    }

    private boolean exists() {
        return w.a != NONE;
    }

    private boolean goesOn() {
        return exists() && w.last().result == 0;
    }

    private int set(List<Integer> list) {
        int set = 0;
        for (int c : list) {
            set |= 1 << c;
        }
        return set;
    }

    int told(int what) {
        switch (what) {
            case 0: return people.size();
            case 1: return phrases.size();
            case 2: return text.length();
            case 3: return w.a;
            case 4: return w.b;
            case 5: return exists() ? w.last().result : 0;
            case 6: return exists() ? w.turns() : 0;
            case 7: return goesOn() ? w.person(w.turns() % 2) : NONE;
            case 8: return exists() ? set(w.last().said) : 0;
            case 9: return warmed.size();
            case 10: return cheeks.size();
            case 11: return book.size();
            case 12: return exists() ? w.last().passes : 0;
            default: return OUTSIDE;
        }
    }

    private int points(int d) {
        int points = 0;
        for (Over over : w.overs) {
            points += pointsBy(over, d);
        }
        return points;
    }

    private static int pointsBy(Over over, int d) {
        if (d != over.a && d != over.b) {
            return 0;
        }
        if (over.result == 3) {
            return 1;
        }
        return (over.result == 1) == (d == over.a) ? 2 : 0;
    }

    int duellist(int d, int what) {
        if (!person(d)) {
            return UNKNOWN;
        }
        if (what < 0 || what > 14) {
            return OUTSIDE;
        }
        if (what < 2) {
            return people.get(d)[what];
        }
        if (what < 6) {
            return w.vanities[d][what - 2];
        }
        if (what == 6) {
            return w.done[d];
        }
        if (what == 7) {
            return points(d);
        }
        if (!exists() || d != w.a && d != w.b) {
            return 0;
        }
        int side = d == w.a ? 0 : 1;
        switch (what) {
            case 8: return w.last().blush[side];
            case 9: return w.last().fouls[side];
            case 10: return w.last().words[side];
            default: return w.last().told[side][what - 11];
        }
    }

    int compliment(int c, int what) {
        if (!phrase(c)) {
            return UNKNOWN;
        }
        return what < 0 || what > 4 ? OUTSIDE : phrases.get(c)[what];
    }

    private int truthBy(int c, int done) {
        int needed = 0;
        int has = 0;
        for (int k = 3; k < 5; k++) {
            int deed = phrases.get(c)[k];
            if (deed < 8) {
                needed++;
                has += done >> deed & 1;
            }
        }
        if (has == needed) {
            return 2;
        }
        return has > 0 ? 1 : 0;
    }

    int truth(int c, int d) {
        return phrase(c) && person(d) ? truthBy(c, w.done[d]) : UNKNOWN;
    }

    private int effectBy(int c, int d, int vanity, int times) {
        int effect = phrases.get(c)[1] * vanity;
        int truth = truthBy(c, w.done[d]);
        effect = truth == 2 ? effect : truth == 1 ? effect / 2 : 0;
        for (int i = 0; i < times; i++) {
            effect /= 2;
        }
        return effect;
    }

    private int effect(int c, int d, int times) {
        return effectBy(c, d, w.vanities[d][phrases.get(c)[0]], times);
    }

    private int times(Moment m, int c, int d) {
        if (d != w.a && d != w.b) {
            return 0;
        }
        return m.told[d == w.a ? 0 : 1][phrases.get(c)[0]];
    }

    int effect(int c, int d) {
        if (!phrase(c) || !person(d)) {
            return UNKNOWN;
        }
        return effect(c, d, exists() ? times(w.last(), c, d) : 0);
    }

    // ---- duels

    int duel(int a, int b) {
        if (!person(a) || !person(b) || a == b) {
            return UNKNOWN;
        }
        w.a = a;
        w.b = b;
        w.moments = new ArrayList<>();
        w.moments.add(new Moment());
        return a;
    }

    /** What is so behind a turn of a side, null if it cannot be. */
    private Moment behind(Moment ahead, int side, int turn) {
        boolean can = ahead.result == 0 && (turn < 8 ? !ahead.said.contains(turn) : turn == 8 || ahead.fouls[side] > 0);
        if (!can) {
            return null;
        }
        Moment m = ahead.copy();
        int me = w.person(side);
        int other = w.person(1 - side);
        m.blush[side] = Math.max(0, m.blush[side] - people.get(me)[1]);
        if (turn == 8) {
            m.passes++;
            m.result = m.passes == 2 ? 3 : 0;
            return m;
        }
        m.passes = 0;
        if (turn == 9) {
            m.fouls[side]--;
            return m;
        }
        m.blush[1 - side] += effect(turn, other, times(ahead, turn, other));
        m.told[1 - side][phrases.get(turn)[0]]++;
        m.words[side] += phrases.get(turn)[2];
        m.said.add(turn);
        if (truth(turn, other) == 0) {
            m.fouls[side]++;
        }
        if (m.fouls[side] == 3) {
            m.result = 2 - side;
        } else if (m.blush[1 - side] >= people.get(other)[0]) {
            m.result = 1 + side;
        }
        return m;
    }

    private int play(int turn) {
        Moment m = behind(w.last(), w.turns() % 2, turn);
        if (m == null) {
            return NOT;
        }
        w.moments.add(m);
        if (m.result != 0) {
            w.overs.add(new Over(w.a, w.b, m.result));
        }
        return m.result;
    }

    int say(int c) {
        if (!phrase(c)) {
            return UNKNOWN;
        }
        return exists() ? play(c) : NOT;
    }

    int pass() {
        return exists() ? play(8) : NOT;
    }

    int sorry() {
        int side = exists() ? w.turns() % 2 : 0;
        if (!exists() || play(9) == NOT) {
            return NOT;
        }
        return w.last().fouls[side];
    }

    int undo(int n) {
        if (n < 1 || n > 60) {
            return OUTSIDE;
        }
        if (!exists() || w.turns() < n) {
            return NOT;
        }
        if (w.last().result != 0) {
            w.overs.remove(w.overs.size() - 1);
        }
        for (int i = 0; i < n; i++) {
            w.moments.remove(w.moments.size() - 1);
        }
        return w.turns();
    }

    int act(int d, int n) {
        if (!person(d)) {
            return UNKNOWN;
        }
        if (n < 0 || n > 7) {
            return OUTSIDE;
        }
        w.done[d] |= 1 << n;
        return w.done[d];
    }

    int vanity(int d, int topic, int v) {
        if (!person(d)) {
            return UNKNOWN;
        }
        if (topic < 0 || topic > 3 || v < 0 || v > 9) {
            return OUTSIDE;
        }
        int before = w.vanities[d][topic];
        w.vanities[d][topic] = v;
        return before;
    }

    private List<Integer> unsaid(Moment m) {
        List<Integer> list = new ArrayList<>();
        for (int c = 0; c < phrases.size(); c++) {
            if (!m.said.contains(c)) {
                list.add(c);
            }
        }
        return list;
    }

    int drift(int n) {
        if (n < 1 || n > 40) {
            return OUTSIDE;
        }
        if (!goesOn()) {
            return NOT;
        }
        for (int i = 0; i < n && goesOn(); i++) {
            List<Integer> unsaid = unsaid(w.last());
            w.seed = (w.seed * 1103515245L + 12345L) % 2147483648L;
            int draw = (int) (w.seed / 65536 % (unsaid.size() + 1));
            play(draw == unsaid.size() ? 8 : unsaid.get(draw));
        }
        return w.last().result;
    }

    // ---- tried

    private int[] bestOf(Moment m, int side) {
        if (m.result != 0) {
            return new int[] {m.result == 3 ? 1 : m.result - 1 == side ? 2 : 0, NONE};
        }
        int[] best = {NONE, NONE};
        List<Integer> turns = unsaid(m);
        turns.add(8);
        for (int turn : turns) {
            int value = 2 - bestOf(behind(m, side, turn), 1 - side)[0];
            if (value > best[0]) {
                best[0] = value;
                best[1] = turn;
            }
        }
        return best;
    }

    int best(int what) {
        if (what < 0 || what > 1) {
            return OUTSIDE;
        }
        if (!goesOn() || unsaid(w.last()).size() > 5) {
            return NOT;
        }
        return bestOf(w.last(), w.turns() % 2)[what];
    }

    int greatest(int what) {
        if (what < 0 || what > 1) {
            return OUTSIDE;
        }
        if (!goesOn()) {
            return NOT;
        }
        int other = w.person(1 - w.turns() % 2);
        int[] most = {NONE, NONE};
        for (int c : unsaid(w.last())) {
            if (truth(c, other) > 0 && effect(c, other) > most[1]) {
                most = new int[] {c, effect(c, other)};
            }
        }
        return most[what];
    }

    int harden(int d, int v, int p, int topic) {
        if (!person(d)) {
            return UNKNOWN;
        }
        if (v < 1 || v > 99 || p < 1 || p > 9 || topic < -1 || topic > 3) {
            return OUTSIDE;
        }
        int least = Integer.MAX_VALUE;
        int[] by = null;
        for (int code = 0; code < 10000; code++) {
            int[] less = {code / 1000, code / 100 % 10, code / 10 % 10, code % 10};
            int cost = 0;
            boolean can = true;
            for (int t = 0; t < 4; t++) {
                cost += less[t] * p * (t + 1);
                can &= less[t] <= w.vanities[d][t];
            }
            for (int c = 0; can && c < phrases.size(); c++) {
                int t = phrases.get(c)[0];
                can = truth(c, d) != 2 || effectBy(c, d, w.vanities[d][t] - less[t], 0) < v;
            }
            if (can && cost < least) {
                least = cost;
                by = less;
            }
        }
        return topic == NONE || by == null ? least : by[topic];
    }

    int deeds(int d, int m, int what) {
        if (!person(d)) {
            return UNKNOWN;
        }
        if (m < 0 || m > 8 || what < 0 || what > 1) {
            return OUTSIDE;
        }
        for (int many = 0; many <= 8; many++) {
            for (int set = 0; set < 256; set++) {
                int isTrue = 0;
                for (int c = 0; c < phrases.size(); c++) {
                    isTrue += truthBy(c, w.done[d] | set) == 2 ? 1 : 0;
                }
                if (Integer.bitCount(set) == many && isTrue >= m) {
                    return what == 0 ? many : set;
                }
            }
        }
        return NONE;
    }

    int openDuels(int g) {
        int open = 0;
        for (int a = 0; a < people.size(); a++) {
            for (int b = a + 1; b < people.size(); b++) {
                open += Math.max(0, g - met(a, b));
            }
        }
        return open;
    }

    private int ends(List<int[]> open, int from, int[] points) {
        if (from == open.size()) {
            int winners = 0;
            for (int d = 0; d < people.size(); d++) {
                boolean most = true;
                for (int e = 0; e < people.size(); e++) {
                    most &= points[d] >= points[e];
                }
                winners |= most ? 1 << d : 0;
            }
            return winners;
        }
        int[] pair = open.get(from);
        int winners = 0;
        for (int share = 0; share <= 2; share++) {
            points[pair[0]] += share;
            points[pair[1]] += 2 - share;
            winners |= ends(open, from + 1, points);
            points[pair[0]] -= share;
            points[pair[1]] -= 2 - share;
        }
        return winners;
    }

    int league(int g) {
        if (g < 1 || g > 2) {
            return OUTSIDE;
        }
        int[] points = new int[4];
        int[][] counted = new int[4][4];
        for (Over over : w.overs) {
            int low = Math.min(over.a, over.b);
            int high = Math.max(over.a, over.b);
            counted[low][high]++;
            if (counted[low][high] <= g) {
                points[low] += pointsBy(over, low);
                points[high] += pointsBy(over, high);
            }
        }
        List<int[]> open = new ArrayList<>();
        for (int a = 0; a < people.size(); a++) {
            for (int b = a + 1; b < people.size(); b++) {
                for (int i = counted[a][b]; i < g; i++) {
                    open.add(new int[] {a, b});
                }
            }
        }
        return ends(open, 0, points);
    }

    int met(int a, int b) {
        if (!person(a) || !person(b) || a == b) {
            return UNKNOWN;
        }
        int many = 0;
        for (Over over : w.overs) {
            many += over.a == a && over.b == b || over.a == b && over.b == a ? 1 : 0;
        }
        return many;
    }

    int shared(int c, int set) {
        if (!phrase(c) || set < 0 || set > 15) {
            return UNKNOWN;
        }
        int together = 0;
        for (int d = 0; d < 4; d++) {
            if ((set >> d & 1) == 1) {
                if (!person(d)) {
                    return UNKNOWN;
                }
                together += effect(c, d, 0) / Integer.bitCount(set);
            }
        }
        return together;
    }

    int powder() {
        if (!exists()) {
            return NOT;
        }
        int[] words = w.last().words;
        return words[0] == words[1] ? 2 : words[0] > words[1] ? 0 : 1;
    }

    // ---- what was seen

    int warm(int c, int d, int times, int effect) {
        if (!phrase(c) || !person(d)) {
            return UNKNOWN;
        }
        if (times < 0 || times > 9 || effect < 0 || effect > 99) {
            return OUTSIDE;
        }
        if (warmed.size() == 12) {
            return FULL;
        }
        warmed.add(new int[] {c, d, times, effect});
        return warmed.size();
    }

    private List<Integer> vanities(int d, int topic) {
        List<Integer> fitting = new ArrayList<>();
        for (int v = 0; v < 10; v++) {
            boolean fits = true;
            for (int[] row : warmed) {
                if (row[1] == d && phrases.get(row[0])[0] == topic) {
                    fits &= effectBy(row[0], d, v, row[2]) == row[3];
                }
            }
            if (fits) {
                fitting.add(v);
            }
        }
        return fitting;
    }

    int vain(int d, int topic) {
        if (!person(d)) {
            return UNKNOWN;
        }
        return topic < 0 || topic > 3 ? OUTSIDE : set(vanities(d, topic));
    }

    int probe(int d, int topic) {
        if (!person(d)) {
            return UNKNOWN;
        }
        if (topic < 0 || topic > 3) {
            return OUTSIDE;
        }
        List<Integer> fitting = vanities(d, topic);
        int which = NONE;
        int least = Integer.MAX_VALUE;
        for (int c = 0; c < phrases.size(); c++) {
            if (phrases.get(c)[0] != topic) {
                continue;
            }
            int greatest = 0;
            for (int v : fitting) {
                int part = 0;
                for (int u : fitting) {
                    part += effectBy(c, d, u, 0) == effectBy(c, d, v, 0) ? 1 : 0;
                }
                greatest = Math.max(greatest, part);
            }
            if (greatest < fitting.size() && greatest < least) {
                least = greatest;
                which = c;
            }
        }
        return which;
    }

    int cheek(int blush) {
        if (blush < 0 || blush > 999) {
            return OUTSIDE;
        }
        if (cheeks.size() == 4) {
            return FULL;
        }
        cheeks.add(blush);
        return cheeks.size();
    }

    /** All rows there are, in the order of their numbers, each tried for itself. */
    private List<List<Integer>> fittingRows() {
        List<List<Integer>> rows = new ArrayList<>();
        rows.add(new ArrayList<>());
        for (int i = 0; i < cheeks.size(); i++) {
            List<List<Integer>> longer = new ArrayList<>();
            for (List<Integer> row : rows) {
                for (int c : unsaid(w.last())) {
                    if (!row.contains(c)) {
                        List<Integer> more = new ArrayList<>(row);
                        more.add(c);
                        longer.add(more);
                    }
                }
            }
            rows = longer;
        }
        List<List<Integer>> fitting = new ArrayList<>();
        for (List<Integer> row : rows) {
            if (fits(row)) {
                fitting.add(row);
            }
        }
        return fitting;
    }

    private boolean fits(List<Integer> row) {
        int side = 1 - w.turns() % 2;
        int d = w.person(side);
        int blush = w.last().blush[side];
        int[] told = w.last().told[side].clone();
        for (int i = 0; i < row.size(); i++) {
            int c = row.get(i);
            if (truth(c, d) == 0) {
                return false;
            }
            blush += effect(c, d, told[phrases.get(c)[0]]++);
            if (blush != cheeks.get(i)) {
                return false;
            }
            blush = Math.max(0, blush - people.get(d)[1]);
        }
        return true;
    }

    int said(int i) {
        if (!goesOn()) {
            return NOT;
        }
        List<List<Integer>> rows = fittingRows();
        if (i == NONE) {
            return rows.size();
        }
        return rows.isEmpty() || i < 0 || i >= rows.get(0).size() ? NONE : rows.get(0).get(i);
    }

    int surely() {
        if (!goesOn()) {
            return NOT;
        }
        List<List<Integer>> rows = fittingRows();
        int all = rows.isEmpty() ? 0 : 255;
        for (List<Integer> row : rows) {
            all &= set(row);
        }
        return all;
    }

    int write(int turn) {
        if (turn >= 0 && turn < 8 && !phrase(turn)) {
            return UNKNOWN;
        }
        if (turn < 0 || turn > 9) {
            return OUTSIDE;
        }
        if (book.size() == 20) {
            return FULL;
        }
        book.add(turn);
        return book.size();
    }

    int judge(int what) {
        if (what < 0 || what > 1) {
            return OUTSIDE;
        }
        if (!exists()) {
            return NOT;
        }
        Moment m = w.last();
        for (int i = 0; i < book.size(); i++) {
            Moment next = behind(m, (w.turns() + i) % 2, book.get(i));
            if (next == null) {
                return what == 0 ? i : m.result;
            }
            m = next;
        }
        return what == 0 ? NONE : m.result;
    }

    int tear() {
        int all = warmed.size() + cheeks.size() + book.size();
        warmed.clear();
        cheeks.clear();
        book.clear();
        return all;
    }

    // ---- images

    int seed(int v) {
        if (v < 0) {
            return OUTSIDE;
        }
        int before = (int) w.seed;
        w.seed = v;
        return before;
    }

    int keep(int i) {
        if (i < 0 || i > 1) {
            return UNKNOWN;
        }
        images[i] = w.copy();
        return 1;
    }

    int goBack(int i) {
        if (i < 0 || i > 1) {
            return UNKNOWN;
        }
        if (images[i] == null) {
            return NOT;
        }
        w = images[i].copy();
        return 1;
    }
}
