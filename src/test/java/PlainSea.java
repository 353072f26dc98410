import java.math.BigInteger;
import java.util.ArrayList;
import java.util.Arrays;
import java.util.HashSet;
import java.util.List;
import java.util.Set;

/** The document again, as slowly and as near to its words as can be: nothing is kept from call to call but the input. */
final class PlainSea {
    static final int UNKNOWN = -1, BAD = -2, STATE = -3, FULL = -4, NONE = -9;
    private static final int[] DX = {0, 1, 0, -1, 0};
    private static final int[] DY = {0, 0, 1, 0, -1};

    static final class Kept {
        int w = 5, h = 5, n = 2, power = 2, spin = 0, seed = 0;
        int[][] press = new int[6][100];
        boolean[][] left = new boolean[6][100];

        Kept copy() {
            Kept k = new Kept();
            k.w = w;
            k.h = h;
            k.n = n;
            k.power = power;
            k.spin = spin;
            k.seed = seed;
            for (int i = 0; i < 6; i++) {
                k.press[i] = press[i].clone();
                k.left[i] = left[i].clone();
            }
            return k;
        }
    }

    static final class Scene {
        int[] x = new int[6], y = new int[6], points = new int[6];
        int ballX, ballY;

        String text() {
            return Arrays.toString(x) + Arrays.toString(y) + Arrays.toString(points) + ballX + "," + ballY;
        }
    }

    interface Source {
        int press(int hand, int tick);
    }

    Kept k = new Kept();
    int delay = 0, feel = 5, turn = 1, sight = 9;
    int[][] wait = new int[6][6];
    boolean[][] lost = new boolean[6][100];
    List<int[]> players = new ArrayList<>();
    int[][] far = new int[4][4];
    Kept[] slots = new Kept[4];

    // ---- the field

    static boolean on(Kept k, int x, int y) {
        return 0 <= x && x < k.w && 0 <= y && y < k.h;
    }

    static boolean handAt(Kept k, Scene s, int x, int y) {
        for (int i = 0; i < k.n; i++) {
            if (s.x[i] == x && s.y[i] == y) {
                return true;
            }
        }
        return false;
    }

    static boolean open(Kept k, Scene s, int x, int y) {
        return on(k, x, y) && !handAt(k, s, x, y);
    }

    static Scene start(Kept k) {
        Scene s = new Scene();
        for (int i = 0; i < k.n; i++) {
            s.x[i] = i % k.w;
            s.y[i] = i / k.w;
        }
        s.ballX = k.w - 1;
        s.ballY = k.h - 1;
        return s;
    }

    static int machinePress(Scene s, int hand) {
        for (int way = 1; way <= 4; way++) {
            if (s.x[hand] + DX[way] == s.ballX && s.y[hand] + DY[way] == s.ballY) {
                return 5;
            }
        }
        int byX = Math.abs(s.ballX - s.x[hand]);
        int byY = Math.abs(s.ballY - s.y[hand]);
        if (byX >= byY) {
            return s.ballX > s.x[hand] ? 1 : 3;
        }
        return s.ballY > s.y[hand] ? 2 : 4;
    }

    static void tick(Kept k, Scene s, int power, int t, Source source) {
        for (int hand = 0; hand < k.n; hand++) {
            int p = k.left[hand][t] ? machinePress(s, hand) : source.press(hand, t);
            if (p >= 1 && p <= 4) {
                int nx = s.x[hand] + DX[p];
                int ny = s.y[hand] + DY[p];
                boolean goes = open(k, s, nx, ny);
                if (goes && s.ballX == nx && s.ballY == ny) {
                    if (open(k, s, nx + DX[p], ny + DY[p])) {
                        s.ballX += DX[p];
                        s.ballY += DY[p];
                    } else {
                        goes = false;
                    }
                }
                if (goes) {
                    s.x[hand] = nx;
                    s.y[hand] = ny;
                }
            }
            if (p == 5) {
                int found = 0;
                for (int way = 4; way >= 1; way--) {
                    if (s.x[hand] + DX[way] == s.ballX && s.y[hand] + DY[way] == s.ballY) {
                        found = way;
                    }
                }
                int times = found == 0 ? 0 : power;
                while (times > 0 && open(k, s, s.ballX + DX[found], s.ballY + DY[found])) {
                    s.ballX += DX[found];
                    s.ballY += DY[found];
                    times--;
                }
            }
        }
        if (k.spin > 0 && (t + 1) % k.spin == 0) {
            int way = (31 * k.seed + 17 * t) % 4 + 1;
            if (open(k, s, s.ballX + DX[way], s.ballY + DY[way])) {
                s.ballX += DX[way];
                s.ballY += DY[way];
            }
        }
        for (int a = 0; a < k.n; a++) {
            boolean nearest = true;
            for (int b = 0; b < k.n; b++) {
                if (a != b && ballAway(s, b) <= ballAway(s, a)) {
                    nearest = false;
                }
            }
            if (nearest) {
                s.points[a]++;
            }
        }
    }

    static int ballAway(Scene s, int hand) {
        return Math.abs(s.x[hand] - s.ballX) + Math.abs(s.y[hand] - s.ballY);
    }

    static Scene play(Kept k, int power, int lastTick, Source source) {
        Scene s = start(k);
        for (int t = 0; t <= lastTick; t++) {
            tick(k, s, power, t, source);
        }
        return s;
    }

    static Scene trueScene(Kept k, int power, int lastTick) {
        return play(k, power, lastTick, (hand, t) -> k.press[hand][t]);
    }

    Scene glassScene(int glass, int clock) {
        return play(k, k.power, clock, (hand, t) -> taken(delay, glass, clock, hand, t));
    }

    static int tell(Kept k, Scene s, int what) {
        if (what == 6) {
            return s.ballY * k.w + s.ballX;
        }
        return what >= 10 ? s.points[what - 10] : s.y[what] * k.w + s.x[what];
    }

    static boolean tellable(Kept k, int what) {
        return what == 6 || what >= 0 && what < k.n || what >= 10 && what < 10 + k.n;
    }

    boolean hand(int v) {
        return v >= 0 && v < k.n;
    }

    static boolean in(int v, int least, int most) {
        return v >= least && v <= most;
    }

    // ---- the game

    int field(int w, int h, int hands) {
        if (!in(w, 3, 9) || !in(h, 3, 9) || !in(hands, 2, 6)) {
            return BAD;
        }
        Kept fresh = new Kept();
        fresh.w = w;
        fresh.h = h;
        fresh.n = hands;
        fresh.power = k.power;
        fresh.spin = k.spin;
        fresh.seed = k.seed;
        k = fresh;
        wait = new int[6][6];
        lost = new boolean[6][100];
        return w * h;
    }

    int rule(int what, int v) {
        int was;
        if (what == 0 && in(v, 1, 5)) {
            was = k.power;
            k.power = v;
        } else if (what == 1 && in(v, 0, 9)) {
            was = k.spin;
            k.spin = v;
        } else if (what == 2 && in(v, 0, 999)) {
            was = k.seed;
            k.seed = v;
        } else if (what == 3 && in(v, 0, 9)) {
            was = delay;
            delay = v;
        } else if (what == 4 && in(v, 0, 99)) {
            was = feel;
            feel = v;
        } else if (what == 5 && in(v, 0, 99)) {
            was = turn;
            turn = v;
        } else if (what == 6 && in(v, 0, 9)) {
            was = sight;
            sight = v;
        } else {
            was = BAD;
        }
        return was;
    }

    int press(int hand, int tick, int v) {
        if (!hand(hand) || !in(tick, 0, 99)) {
            return UNKNOWN;
        }
        if (!in(v, 0, 5)) {
            return BAD;
        }
        int was = k.press[hand][tick];
        k.press[hand][tick] = v;
        return was;
    }

    int hold(int hand, int from, int to, int v) {
        if (!hand(hand) || !in(from, 0, 99) || !in(to, 0, 99)) {
            return UNKNOWN;
        }
        if (to < from || !in(v, 0, 5)) {
            return BAD;
        }
        int otherwise = 0;
        for (int t = from; t <= to; t++) {
            otherwise += press(hand, t, v) != v ? 1 : 0;
        }
        return otherwise;
    }

    int leave(int hand, int from, int to) {
        if (!hand(hand)) {
            return UNKNOWN;
        }
        if (!in(from, 0, 100) || !in(to, from, 100)) {
            return BAD;
        }
        for (int t = 0; t < 100; t++) {
            k.left[hand][t] = from <= t && t < to;
        }
        return to - from;
    }

    int truly(int tick, int what) {
        if (!in(tick, 0, 99)) {
            return UNKNOWN;
        }
        return tellable(k, what) ? tell(k, trueScene(k, k.power, tick), what) : BAD;
    }

    int machine(int hand, int tick) {
        if (!hand(hand) || !in(tick, 0, 99)) {
            return UNKNOWN;
        }
        return machinePress(trueScene(k, k.power, tick), hand);
    }

    // ---- lines

    int line(int a, int b, int v) {
        if (!hand(a) || !hand(b)) {
            return UNKNOWN;
        }
        if (!in(v, 0, 9)) {
            return BAD;
        }
        if (a == b) {
            return STATE;
        }
        int was = wait[Math.min(a, b)][Math.max(a, b)];
        wait[Math.min(a, b)][Math.max(a, b)] = v;
        return was;
    }

    int lose(int hand, int tick, boolean now) {
        if (!hand(hand) || !in(tick, 0, 99)) {
            return UNKNOWN;
        }
        int was = lost[hand][tick] ? 1 : 0;
        lost[hand][tick] = now;
        return was;
    }

    int knownClock(int d, int glass, int hand, int t) {
        if (k.left[hand][t]) {
            return -100;
        }
        int later = 0;
        if (glass != hand) {
            int w = wait[Math.min(glass, hand)][Math.max(glass, hand)];
            later = lost[hand][t] ? 3 * w + 1 : w;
        }
        return t - d + later;
    }

    int taken(int d, int glass, int clock, int hand, int t) {
        if (knownClock(d, glass, hand, t) <= clock) {
            return k.press[hand][t];
        }
        int guess = 0;
        for (int s = 0; s < t; s++) {
            if (knownClock(d, glass, hand, s) <= clock) {
                guess = k.left[hand][s] ? 0 : k.press[hand][s];
            }
        }
        return guess;
    }

    int goneBack(int d, int glass, int clock) {
        for (int t = 0; t < clock; t++) {
            for (int hand = 0; hand < k.n; hand++) {
                if (taken(d, glass, clock, hand, t) != taken(d, glass, clock - 1, hand, t)) {
                    return clock - t;
                }
            }
        }
        return 0;
    }

    int known(int glass, int hand, int tick) {
        if (!hand(glass) || !hand(hand) || !in(tick, 0, 99)) {
            return UNKNOWN;
        }
        return knownClock(delay, glass, hand, tick) + 100;
    }

    int takes(int glass, int clock, int hand, int tick) {
        if (!hand(glass) || !hand(hand) || !in(clock, 0, 99) || !in(tick, 0, clock)) {
            return UNKNOWN;
        }
        return taken(delay, glass, clock, hand, tick);
    }

    int shown(int glass, int clock, int what) {
        if (!hand(glass) || !in(clock, 0, 99)) {
            return UNKNOWN;
        }
        return tellable(k, what) ? tell(k, glassScene(glass, clock), what) : BAD;
    }

    int back(int glass, int clock) {
        return hand(glass) && in(clock, 0, 99) ? goneBack(delay, glass, clock) : UNKNOWN;
    }

    int agreed(int glass, int clock) {
        if (!hand(glass) || !in(clock, 0, 99)) {
            return UNKNOWN;
        }
        for (int last = clock; last >= 0; last--) {
            boolean all = true;
            for (int t = 0; t <= last; t++) {
                for (int hand = 0; hand < k.n; hand++) {
                    all &= knownClock(delay, glass, hand, t) <= clock;
                }
            }
            if (all) {
                return last;
            }
        }
        return NONE;
    }

    int wrong(int glass, int m, boolean run) {
        if (!hand(glass) || !in(m, 0, 99)) {
            return UNKNOWN;
        }
        StringBuilder marks = new StringBuilder();
        for (int c = 0; c <= m; c++) {
            boolean same = glassScene(glass, c).text().equals(trueScene(k, k.power, c).text());
            marks.append(same ? '.' : 'x');
        }
        int answer = 0;
        for (String part : marks.toString().split("\\.")) {
            answer = run ? Math.max(answer, part.length()) : answer + part.length();
        }
        return answer;
    }

    int price(int d, int m) {
        if (!in(d, 0, 9)) {
            return BAD;
        }
        if (!in(m, 0, 99)) {
            return UNKNOWN;
        }
        int all = 0;
        for (int glass = 0; glass < k.n; glass++) {
            for (int c = 1; c <= m; c++) {
                all += goneBack(d, glass, c);
            }
        }
        return feel * d * k.n * (m + 1) + turn * all;
    }

    int best(int m) {
        if (!in(m, 0, 99)) {
            return UNKNOWN;
        }
        int best = 9;
        for (int d = 8; d >= 0; d--) {
            if (price(d, m) <= price(best, m)) {
                best = d;
            }
        }
        return best;
    }

    // ---- sight

    boolean seesCell(Scene s, int hand, int x, int y) {
        return Math.abs(s.x[hand] - x) + Math.abs(s.y[hand] - y) <= sight;
    }

    int sees(int hand, int other, int tick) {
        if (!hand(hand) || !hand(other) || !in(tick, 0, 99)) {
            return UNKNOWN;
        }
        Scene s = trueScene(k, k.power, tick);
        return seesCell(s, hand, s.x[other], s.y[other]) ? 1 : 0;
    }

    Set<Integer> cells(int hand, int other, int tick) {
        Set<Integer> set = new HashSet<>();
        set.add(other);
        Scene s = start(k);
        for (int t = 0; t <= tick; t++) {
            tick(k, s, k.power, t, (who, when) -> k.press[who][when]);
            Set<Integer> next = new HashSet<>();
            for (int cell : set) {
                for (int way = 0; way <= 4; way++) {
                    int x = cell % k.w + DX[way];
                    int y = cell / k.w + DY[way];
                    if (on(k, x, y)) {
                        next.add(y * k.w + x);
                    }
                }
            }
            if (seesCell(s, hand, s.x[other], s.y[other])) {
                next.clear();
                next.add(s.y[other] * k.w + s.x[other]);
            } else {
                next.removeIf(cell -> seesCell(s, hand, cell % k.w, cell / k.w));
            }
            set = next;
        }
        return set;
    }

    int could(int hand, int other, int tick) {
        if (!hand(hand) || !hand(other) || !in(tick, 0, 99)) {
            return UNKNOWN;
        }
        return cells(hand, other, tick).size();
    }

    int couldBe(int hand, int other, int tick, int cell) {
        if (!hand(hand) || !hand(other) || !in(tick, 0, 99) || !in(cell, 0, k.w * k.h - 1)) {
            return UNKNOWN;
        }
        return cells(hand, other, tick).contains(cell) ? 1 : 0;
    }

    // ---- players

    int player(int skill, int shore) {
        if (!in(skill, 0, 999) || !in(shore, 0, 3)) {
            return BAD;
        }
        if (players.size() == 10) {
            return FULL;
        }
        players.add(new int[] {skill, shore});
        return players.size() - 1;
    }

    int far(int a, int b, int v) {
        if (!in(a, 0, 3) || !in(b, 0, 3)) {
            return UNKNOWN;
        }
        if (!in(v, 0, 999)) {
            return BAD;
        }
        int was = far[a][b];
        far[a][b] = v;
        far[b][a] = v;
        return was;
    }

    /** All ways to pair, each as the row of mates (99: left over), in the order of those rows. */
    void allPairings(int[] mates, boolean oneOver, List<int[]> into) {
        int first = 0;
        while (first < mates.length && mates[first] >= 0) {
            first++;
        }
        if (first == mates.length) {
            into.add(mates.clone());
            return;
        }
        for (int other = first + 1; other < mates.length; other++) {
            if (mates[other] < 0) {
                mates[first] = other;
                mates[other] = first;
                allPairings(mates, oneOver, into);
                mates[other] = -1;
            }
        }
        if (oneOver) {
            mates[first] = 99;
            allPairings(mates, false, into);
        }
        mates[first] = -1;
    }

    int costOf(int[] mates) {
        int cost = 0;
        for (int a = 0; a < mates.length; a++) {
            int b = mates[a];
            if (b != 99 && a < b) {
                int[] one = players.get(a);
                int[] two = players.get(b);
                cost += Math.abs(one[0] - two[0]) + far[one[1]][two[1]];
            }
        }
        return cost;
    }

    int[] bestPairing() {
        int[] mates = new int[players.size()];
        Arrays.fill(mates, -1);
        List<int[]> all = new ArrayList<>();
        allPairings(mates, players.size() % 2 == 1, all);
        int[] best = all.get(0);
        for (int[] one : all) {
            int byCost = Integer.compare(costOf(one), costOf(best));
            if (byCost < 0 || byCost == 0 && Arrays.compare(one, best) < 0) {
                best = one;
            }
        }
        return best;
    }

    int pairs() {
        return costOf(bestPairing());
    }

    int mate(int player) {
        if (!in(player, 0, players.size() - 1)) {
            return UNKNOWN;
        }
        int mate = bestPairing()[player];
        return mate == 99 ? NONE : mate;
    }

    static BigInteger choose(int n, int r) {
        if (r < 0 || r > n) {
            return BigInteger.ZERO;
        }
        BigInteger ways = BigInteger.ONE;
        for (int i = 1; i <= r; i++) {
            ways = ways.multiply(BigInteger.valueOf(n - r + i)).divide(BigInteger.valueOf(i));
        }
        return ways;
    }

    long odds(int n, int late, int hits, int both, boolean upper) {
        if (!in(n, 1, 60) || !in(late, 0, n) || !in(hits, 0, n) || !in(both, 0, Math.min(late, hits))) {
            return BAD;
        }
        BigInteger some = BigInteger.ZERO;
        for (int b = both; b <= hits; b++) {
            some = some.add(choose(hits, b).multiply(choose(n - hits, late - b)));
        }
        BigInteger all = choose(n, late);
        BigInteger common = all.gcd(some);
        return (upper ? some : all).divide(common).longValueExact();
    }

    // ---- kept

    int pressed() {
        int all = 0;
        for (int[] row : k.press) {
            all += (int) Arrays.stream(row).filter(p -> p != 0).count();
        }
        return all;
    }

    int keep(int slot) {
        if (!in(slot, 0, 3)) {
            return UNKNOWN;
        }
        slots[slot] = k.copy();
        return pressed();
    }

    int again(int slot) {
        if (!in(slot, 0, 3)) {
            return UNKNOWN;
        }
        if (slots[slot] == null) {
            return STATE;
        }
        k = slots[slot].copy();
        return k.n;
    }

    int tried(int slot, int power, int tick, int what) {
        if (!in(slot, 0, 3) || !in(tick, 0, 99)) {
            return UNKNOWN;
        }
        if (slots[slot] == null) {
            return STATE;
        }
        if (!in(power, 1, 5) || !tellable(slots[slot], what)) {
            return BAD;
        }
        return tell(slots[slot], trueScene(slots[slot], power, tick), what);
    }

    int differs(int slot, int power) {
        if (!in(slot, 0, 3)) {
            return UNKNOWN;
        }
        Kept old = slots[slot];
        if (old == null) {
            return STATE;
        }
        if (!in(power, 1, 5)) {
            return BAD;
        }
        for (int t = 0; t < 100; t++) {
            if (!trueScene(old, power, t).text().equals(trueScene(old, old.power, t).text())) {
                return t;
            }
        }
        return NONE;
    }

    int count(int what) {
        int all = 0;
        switch (what) {
            case 0:
                return k.n;
            case 1:
                return k.w;
            case 2:
                return k.h;
            case 3:
                return pressed();
            case 4:
                for (int hand = 0; hand < k.n; hand++) {
                    for (boolean one : lost[hand]) {
                        all += one ? 1 : 0;
                    }
                }
                return all;
            case 5:
                for (boolean[] row : k.left) {
                    for (boolean one : row) {
                        all += one ? 1 : 0;
                    }
                }
                return all;
            case 6:
                return players.size();
            case 7:
                for (Kept one : slots) {
                    all += one == null ? 0 : 1;
                }
                return all;
            default:
                return BAD;
        }
    }
}
