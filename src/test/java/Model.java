import java.math.BigInteger;
import java.util.ArrayDeque;
import java.util.ArrayList;
import java.util.Arrays;
import java.util.HashMap;
import java.util.HashSet;
import java.util.List;
import java.util.Map;
import java.util.Set;
import java.util.TreeSet;
import java.util.regex.Matcher;
import java.util.regex.Pattern;

/** The document written a second time, by other means (search through all there is), to hold answers against. */
final class Model {
    private static final int BAD = -1, STATE = -2, FULL = -3, NONE = -9, NO = -1000000;
    private static final Pattern TOKEN = Pattern.compile(" *(?:([a-z]+)|([0-9]+)|(;)|$)");

    private record Stage(int a, int b, int heat, int night, int lender) {
        int other(int w) {
            return w == a ? b : w == b ? a : -1;
        }
    }

    /** A caravan is where, cups, dry, lives. */
    private static final class State {
        final List<int[]> caravans = new ArrayList<>();
        final Map<List<Integer>, Integer> knots = new HashMap<>();
        final Map<List<Integer>, Integer> dues = new HashMap<>();
        int sand;

        State copy() {
            State s = new State();
            caravans.forEach(c -> s.caravans.add(c.clone()));
            s.knots.putAll(knots);
            s.dues.putAll(dues);
            s.sand = sand;
            return s;
        }

        int knots(int c, int w) {
            return knots.getOrDefault(List.of(c, w), 0);
        }

        int dues(int w, int v) {
            return dues.getOrDefault(List.of(w, v), 0);
        }
    }

    private StringBuilder text = new StringBuilder();
    private List<Integer> refuses = new ArrayList<>();
    private List<Stage> stages = new ArrayList<>();
    private List<Integer> bears = new ArrayList<>();
    private State state = new State();
    private ArrayDeque<State> past = new ArrayDeque<>();
    private final State[] images = new State[2];
    private final List<ArrayDeque<State>> imagePasts = new ArrayList<>(Arrays.asList(null, null));
    private final List<int[]> heard = new ArrayList<>();
    private long trace;

    int type(int c) {
        if (c < 0 || c > 255) {
            return BAD;
        }
        if (text.length() == 200) {
            return FULL;
        }
        text.append((char) c);
        return text.length();
    }

    int clear() {
        int n = text.length();
        text = new StringBuilder();
        return n;
    }

    int road() {
        Model m = new Model();
        Matcher t = TOKEN.matcher(text);
        int at = 0;
        int items = 0;
        List<Integer> item = null;
        char letter = 0;
        while (true) {
            int place = at;
            while (place < text.length() && text.charAt(place) == ' ') {
                place++;
            }
            if (!t.find(at) || t.start() != at) {
                return -10 - place;
            }
            at = t.end();
            boolean end = t.group(1) == null && t.group(2) == null && t.group(3) == null;
            if (item == null) {
                if (end) {
                    break;
                }
                if (t.group(1) == null || t.group(1).length() != 1 || !m.mayBegin(t.group(1).charAt(0))) {
                    return -10 - place;
                }
                letter = t.group(1).charAt(0);
                item = new ArrayList<>();
            } else if (item.size() < "w1s5c3k3d3".charAt("w1s5c3k3d3".indexOf(letter) + 1) - '0') {
                String n = t.group(2);
                if (n == null || n.length() > 2 || n.length() == 2 && n.charAt(0) == '0') {
                    return -10 - place;
                }
                item.add(Integer.valueOf(n));
                if (!m.mayStand(letter, item)) {
                    return -10 - place;
                }
            } else {
                if (t.group(3) == null) {
                    return -10 - place;
                }
                m.take(letter, item);
                items++;
                item = null;
            }
        }
        text = new StringBuilder();
        refuses = m.refuses;
        stages = m.stages;
        bears = m.bears;
        state = m.state;
        past = new ArrayDeque<>();
        images[0] = null;
        images[1] = null;
        heard.clear();
        return items;
    }

    private boolean mayBegin(char letter) {
        switch (letter) {
            case 'w': return refuses.size() < 6;
            case 's': return stages.size() < 8;
            case 'c': return bears.size() < 4;
            default: return letter == 'k' || letter == 'd';
        }
    }

    private boolean mayStand(char letter, List<Integer> item) {
        int i = item.size() - 1;
        int n = item.get(i);
        char[] kinds = letter == 'w' ? "b".toCharArray() : letter == 's' ? "wwhbw".toCharArray()
            : letter == 'c' ? "wCB".toCharArray() : letter == 'k' ? "cwN".toCharArray() : "wwN".toCharArray();
        if ((letter == 's' || letter == 'd') && i == 1 && n == item.get(0)) {
            return false;
        }
        switch (kinds[i]) {
            case 'b': return n <= 1;
            case 'w': return n < refuses.size();
            case 'c': return n < bears.size();
            case 'h': return n >= 1 && n <= 9;
            case 'C': return n <= 20;
            case 'B': return n >= 1 && n <= 20;
            default: return n <= 60;
        }
    }

    private void take(char letter, List<Integer> i) {
        switch (letter) {
            case 'w': refuses.add(i.get(0)); break;
            case 's': stages.add(new Stage(i.get(0), i.get(1), i.get(2), i.get(3), i.get(4))); break;
            case 'c':
                state.caravans.add(new int[] {i.get(0), i.get(1), 0, 1});
                bears.add(i.get(2));
                break;
            case 'k': state.knots.put(List.of(i.get(0), i.get(1)), i.get(2)); break;
            default: state.dues.put(List.of(i.get(0), i.get(1)), i.get(2));
        }
    }

    private boolean noWell(int w) {
        return w < 0 || w >= refuses.size();
    }

    private boolean noStage(int s) {
        return s < 0 || s >= stages.size();
    }

    private boolean noCaravan(int c) {
        return c < 0 || c >= bears.size();
    }

    private boolean dead(int c) {
        return state.caravans.get(c)[3] == 0;
    }

    int stage(int s, int what) {
        if (noStage(s) || what < 0 || what > 4) {
            return BAD;
        }
        Stage g = stages.get(s);
        return new int[] {g.a, g.b, g.heat, g.night, g.lender}[what];
    }

    int caravan(int c, int what) {
        if (noCaravan(c) || what < 0 || what > 5) {
            return BAD;
        }
        int[] v = state.caravans.get(c);
        int all = 0;
        for (int w = 0; w < refuses.size(); w++) {
            all += state.knots(c, w);
        }
        return new int[] {v[0], v[1], bears.get(c), v[2], v[3], all}[what];
    }

    int well(int w, int what) {
        if (noWell(w) || what < 0 || what > 3) {
            return NO;
        }
        return new int[] {refuses.get(w), knotsAt(w), owed(w), net(w)}[what];
    }

    private int knotsAt(int w) {
        return state.knots.entrySet().stream().filter(e -> e.getKey().get(1) == w).mapToInt(Map.Entry::getValue).sum();
    }

    private int owed(int w) {
        return state.dues.entrySet().stream().filter(e -> e.getKey().get(0) == w).mapToInt(Map.Entry::getValue).sum();
    }

    private int net(int w) {
        return state.dues.entrySet().stream().filter(e -> e.getKey().get(1) == w).mapToInt(Map.Entry::getValue).sum()
            - owed(w);
    }

    int knots(int c, int w) {
        return noCaravan(c) || noWell(w) ? BAD : state.knots(c, w);
    }

    int dues(int w, int v) {
        return noWell(w) || noWell(v) || w == v ? BAD : state.dues(w, v);
    }

    private void deed() {
        past.addLast(state.copy());
        if (past.size() > 10) {
            past.removeFirst();
        }
    }

    int goes(int c, int s, int d) {
        if (noCaravan(c) || noStage(s) || d < 0 || d > 9) {
            return BAD;
        }
        Stage g = stages.get(s);
        int[] v = state.caravans.get(c);
        if (dead(c) || g.other(v[0]) < 0 || d > v[1] || d > g.heat) {
            return STATE;
        }
        deed();
        v[0] = g.other(v[0]);
        v[1] -= d;
        v[2] += g.heat - d;
        if (v[2] > bears.get(c)) {
            v[3] = 0;
            for (int w = 0; w < refuses.size(); w++) {
                state.sand += state.knots(c, w);
                state.knots.remove(List.of(c, w));
            }
            state.sand = Math.min(9999, state.sand);
            return 0;
        }
        int paid = g.night == 0 ? g.heat - d : refuses.get(g.lender) == 1 ? 0 : (g.heat - d) / 2;
        state.knots.put(List.of(c, g.lender), Math.max(0, state.knots(c, g.lender) - paid));
        return 1;
    }

    int drinks(int c, int n) {
        if (noCaravan(c) || n < 1 || n > 20) {
            return BAD;
        }
        int[] v = state.caravans.get(c);
        if (dead(c) || v[2] < n || state.knots(c, v[0]) + n > 99) {
            return STATE;
        }
        deed();
        v[2] -= n;
        state.knots.merge(List.of(c, v[0]), n, Integer::sum);
        return state.knots(c, v[0]);
    }

    int fills(int c, int n) {
        if (noCaravan(c) || n < 1 || n > 20) {
            return BAD;
        }
        int[] v = state.caravans.get(c);
        if (dead(c) || v[1] + n > 20 || state.knots(c, v[0]) + n > 99) {
            return STATE;
        }
        deed();
        v[1] += n;
        state.knots.merge(List.of(c, v[0]), n, Integer::sum);
        return state.knots(c, v[0]);
    }

    int hands(int c, int e, int w, int n) {
        if (noCaravan(c) || noCaravan(e) || c == e || noWell(w) || n < 1 || n > 99) {
            return BAD;
        }
        if (dead(c) || dead(e) || state.knots(c, w) < n || state.knots(e, w) + n > 99) {
            return STATE;
        }
        deed();
        state.knots.merge(List.of(c, w), -n, Integer::sum);
        state.knots.merge(List.of(e, w), n, Integer::sum);
        return state.knots(e, w);
    }

    int strikes() {
        List<Integer> r = bestRound();
        if (r == null) {
            return STATE;
        }
        deed();
        int by = strike(r);
        for (int i = 0; i < r.size(); i++) {
            state.dues.merge(List.of(r.get(i), r.get((i + 1) % r.size())), -by, Integer::sum);
        }
        return by * r.size();
    }

    int undo() {
        if (past.isEmpty()) {
            return STATE;
        }
        state = past.removeLast();
        return past.size();
    }

    int now(int what) {
        switch (what) {
            case 0: return state.sand;
            case 1: {
                int bits = 0;
                for (int c = 0; c < bears.size(); c++) {
                    bits += dead(c) ? 0 : 1 << c;
                }
                return bits;
            }
            case 2: return state.knots.values().stream().mapToInt(n -> n).sum();
            case 3: return state.dues.values().stream().mapToInt(n -> n).sum();
            case 4: return settle(new ArrayList<>(), 0);
            case 5: return salt();
            default: return BAD;
        }
    }

    /** All ways to part the wells into groups, each group's nets adding up to 0. */
    private int settle(List<int[]> groups, int w) {
        if (w == refuses.size()) {
            return groups.stream().allMatch(g -> g[0] == 0) ? refuses.size() - groups.size() : Integer.MAX_VALUE;
        }
        int least = Integer.MAX_VALUE;
        for (int g = 0; g < groups.size(); g++) {
            groups.get(g)[0] += net(w);
            least = Math.min(least, settle(groups, w + 1));
            groups.get(g)[0] -= net(w);
        }
        groups.add(new int[] {net(w)});
        least = Math.min(least, settle(groups, w + 1));
        groups.remove(groups.size() - 1);
        return least;
    }

    private int salt() {
        for (int size = 0; size <= 6; size++) {
            for (int set = 0; set < 64; set++) {
                int bits = set;
                if (Integer.bitCount(set) == size
                    && stages.stream().allMatch(g -> (bits & (1 << g.a | 1 << g.b)) != 0)) {
                    return set;
                }
            }
        }
        return -5;
    }

    /** Every row of stages with every way to spread the cups, step by step. */
    int pass(int c, int w, int what) {
        if (noCaravan(c) || noWell(w) || what < 0 || what > 2) {
            return BAD;
        }
        if (dead(c)) {
            return STATE;
        }
        int[] v = state.caravans.get(c);
        if (v[0] == w) {
            return what == 0 ? 0 : NONE;
        }
        Set<List<Integer>> level = new HashSet<>();
        level.add(List.of(-1, -1, v[0], v[1], v[2]));
        Set<List<Integer>> seen = new HashSet<>();
        for (int n = 1; !level.isEmpty(); n++) {
            Set<List<Integer>> next = new HashSet<>();
            for (List<Integer> l : level) {
                for (int s = 0; s < stages.size(); s++) {
                    Stage g = stages.get(s);
                    for (int d = 0; g.other(l.get(2)) >= 0 && d <= Math.min(g.heat, l.get(3)); d++) {
                        int dry = l.get(4) + g.heat - d;
                        if (dry <= bears.get(c)) {
                            next.add(List.of(l.get(0) < 0 ? s : l.get(0), l.get(0) < 0 ? d : l.get(1),
                                g.other(l.get(2)), l.get(3) - d, dry));
                        }
                    }
                }
            }
            TreeSet<Integer> ends = new TreeSet<>();
            next.stream().filter(l -> l.get(2) == w).forEach(l -> ends.add(l.get(0) * 100 + l.get(1)));
            if (!ends.isEmpty()) {
                return what == 0 ? n : what == 1 ? ends.first() / 100 : ends.first() % 100;
            }
            next.removeAll(seen);
            seen.addAll(next);
            level = next;
        }
        return NONE;
    }

    private int strike(List<Integer> round) {
        int least = Integer.MAX_VALUE;
        for (int i = 0; i < round.size(); i++) {
            least = Math.min(least, state.dues(round.get(i), round.get((i + 1) % round.size())));
        }
        return least;
    }

    private List<Integer> bestRound() {
        List<List<Integer>> rounds = new ArrayList<>();
        gather(new ArrayList<>(), rounds);
        rounds.sort((p, q) -> {
            int worth = strike(q) * q.size() - strike(p) * p.size();
            if (worth != 0 || p.size() != q.size()) {
                return worth != 0 ? worth : p.size() - q.size();
            }
            for (int i = 0; i < p.size(); i++) {
                if (!p.get(i).equals(q.get(i))) {
                    return p.get(i) - q.get(i);
                }
            }
            return 0;
        });
        return rounds.isEmpty() ? null : rounds.get(0);
    }

    /** All rows of unlike wells that begin with their lowest and close with dues all around. */
    private void gather(List<Integer> row, List<List<Integer>> rounds) {
        if (row.size() >= 2 && row.stream().allMatch(w -> w >= row.get(0)) && strike(row) > 0) {
            rounds.add(new ArrayList<>(row));
        }
        for (int w = 0; w < refuses.size(); w++) {
            if (!row.contains(w)) {
                row.add(w);
                gather(row, rounds);
                row.remove(row.size() - 1);
            }
        }
    }

    int ring(int i) {
        if (i < -2 || i > 5) {
            return BAD;
        }
        List<Integer> r = bestRound();
        if (r == null) {
            return NONE;
        }
        return i == -2 ? strike(r) : i == -1 ? r.size() : i < r.size() ? r.get(i) : NONE;
    }

    int safe(int c, int h, int more, int n, int x, int what) {
        if (noCaravan(c) || h < 0 || h > 9 || more < 0 || more > 9 || n < 0 || n > 6 || x < 0 || x > 10
            || what < 0 || what > 1) {
            return BAD;
        }
        if (dead(c)) {
            return STATE;
        }
        BigInteger upper = BigInteger.ZERO;
        for (int hot = 0; hot < 1 << n; hot++) {
            int k = Integer.bitCount(hot);
            if (state.caravans.get(c)[2] + n * h + k * more <= bears.get(c)) {
                upper = upper.add(BigInteger.valueOf(x).pow(k).multiply(BigInteger.valueOf(10 - x).pow(n - k)));
            }
        }
        BigInteger lower = BigInteger.TEN.pow(n);
        return (what == 0 ? upper : lower).divide(upper.gcd(lower)).intValueExact();
    }

    int hears(int c, int s, int d, int r) {
        if (noCaravan(c) || noStage(s) || d < 0 || d > 9 || r < 0 || r > 9) {
            return BAD;
        }
        if (heard.size() == 6) {
            return FULL;
        }
        heard.add(new int[] {c, s, d, r});
        return heard.size();
    }

    int forget() {
        int n = heard.size();
        heard.clear();
        return n;
    }

    int stones(int what) {
        if (what < 0 || what > 1) {
            return BAD;
        }
        int bits = 0;
        for (int[] h : heard) {
            int stones = stages.get(h[1]).heat - h[2] - h[3];
            boolean sucked = stones == 1 || stones == 2 || stones == 3;
            if (what == 0 ? sucked : !sucked && stones != 0) {
                bits |= 1 << h[0];
            }
        }
        return bits;
    }

    int mark(int kind, int w) {
        if (noWell(w) || kind < 0 || kind > 5) {
            return NO;
        }
        trace += new int[] {1, 11, 101, 1011, 10101, 100001}[kind];
        int lent = (int) stages.stream().filter(g -> g.lender == w).count();
        return new int[] {knotsAt(w), knotsAt(w) + lent, knotsAt(w) - owed(w), 2 * (knotsAt(w) + lent),
            knotsAt(w) - owed(w) + w, knotsAt(w) + state.sand}[kind];
    }

    private static ArrayDeque<State> copyOf(ArrayDeque<State> states) {
        ArrayDeque<State> copy = new ArrayDeque<>();
        states.forEach(s -> copy.add(s.copy()));
        return copy;
    }

    int keep(int image) {
        if (image < 0 || image > 1) {
            return BAD;
        }
        images[image] = state.copy();
        imagePasts.set(image, copyOf(past));
        return state.sand;
    }

    int back(int image) {
        if (image < 0 || image > 1) {
            return BAD;
        }
        if (images[image] == null) {
            return STATE;
        }
        state = images[image].copy();
        past = copyOf(imagePasts.get(image));
        return state.sand;
    }

    int count(int what) {
        if (what < 0 || what > 5) {
            return BAD;
        }
        return new int[] {refuses.size(), stages.size(), bears.size(), heard.size(), past.size(), text.length()}[what];
    }

    long trace() {
        return trace;
    }
}
