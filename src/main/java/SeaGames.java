import java.util.Arrays;

/** Played over the sea: hands push a ball about a field, each seen on a glass far from the others. */
public final class SeaGames {
    public static final int UNKNOWN = -1, BAD = -2, STATE = -3, FULL = -4, NONE = -9;

    private static final int TICKS = 100, MOST_HANDS = 6, MOST_SIDE = 9, MOST_DELAY = 9, MOST_WAIT = 9;
    private static final int SLOTS = 4, SHORES = 4, MOST_PLAYERS = 10, MOST_SKILL = 999, MOST_FAR = 999;
    private static final int MOST_DEALT = 60;
    private static final int KICK = 5;
    private static final int POWER = 0, SPIN = 1, SEED = 2, DELAY = 3, FEEL = 4, TURN = 5, SIGHT = 6;
    private static final int[] LEAST_RULE = {1, 0, 0, 0, 0, 0, 0};
    private static final int[] MOST_RULE = {5, 9, 999, 9, 99, 99, 9};

    /* A spot is 16 y + x: no side is longer than 9, so a step over any edge gives a spot that is off the field. */
    private static final int[] STEP = {0, 1, 16, -1, -16};

    /* A state is one row of numbers: the spots of the hands, the ball's spot, the points of the hands. */
    private static final int BALL = 6, POINTS = 7, ROW = 13;
    private static final int TOLD_POINTS = 10;

    private final Play play = new Play();
    private final Lines lines = new Lines(play);
    private final Track truth = new Track();
    private final Track glassTrack = new Track();
    private final Board board = new Board();
    private final Board otherBoard = new Board();
    private final int[] presses = new int[MOST_HANDS];
    private final Fog fog = new Fog();
    private final Crowd crowd = new Crowd();
    private final Deal deal = new Deal();
    private final Play[] slots = {new Play(), new Play(), new Play(), new Play()};
    private final boolean[] kept = new boolean[SLOTS];

    public SeaGames() {
    }

    // ---- the game

    public int field(int w, int h, int hands) {
        if (!isSide(w) || !isSide(h) || hands < 2 || hands > MOST_HANDS) {
            return BAD;
        }
        play.clear(w, h, hands);
        lines.clear();
        truth.keepBelow(0);
        return w * h;
    }

    public int rule(int what, int v) {
        if (what < 0 || what > SIGHT || v < LEAST_RULE[what] || v > MOST_RULE[what]) {
            return BAD;
        }
        int was = play.rules[what];
        play.rules[what] = v;
        if (what <= SEED) {
            truth.keepBelow(0);
        }
        return was;
    }

    public int press(int hand, int tick, int v) {
        if (!isHand(hand) || !isTick(tick)) {
            return UNKNOWN;
        }
        if (!isPress(v)) {
            return BAD;
        }
        int was = play.pressOf(hand, tick);
        play.setPress(hand, tick, v);
        truth.keepBelow(tick);
        return was;
    }

    public int hold(int hand, int from, int to, int v) {
        if (!isHand(hand) || !isTick(from) || !isTick(to)) {
            return UNKNOWN;
        }
        if (to < from || !isPress(v)) {
            return BAD;
        }
        int otherwise = 0;
        for (int tick = from; tick <= to; tick++) {
            if (play.pressOf(hand, tick) != v) {
                otherwise++;
                play.setPress(hand, tick, v);
            }
        }
        truth.keepBelow(from);
        return otherwise;
    }

    public int leave(int hand, int from, int to) {
        if (!isHand(hand)) {
            return UNKNOWN;
        }
        if (from < 0 || to < from || to > TICKS) {
            return BAD;
        }
        play.leftFrom[hand] = from;
        play.leftTo[hand] = to;
        truth.keepBelow(0);
        return to - from;
    }

    public int truly(int tick, int what) {
        if (!isTick(tick)) {
            return UNKNOWN;
        }
        int column = columnOf(what, play.hands);
        if (column < 0) {
            return BAD;
        }
        playTrulyTo(tick);
        return told(play, truth.at(tick, column), column);
    }

    public int machine(int hand, int tick) {
        if (!isHand(hand) || !isTick(tick)) {
            return UNKNOWN;
        }
        playTrulyTo(tick);
        truth.load(tick, board);
        return board.machinePress(hand);
    }

    // ---- lines

    public int line(int a, int b, int v) {
        if (!isHand(a) || !isHand(b)) {
            return UNKNOWN;
        }
        if (v < 0 || v > MOST_WAIT) {
            return BAD;
        }
        if (a == b) {
            return STATE;
        }
        int was = lines.waitOf(a, b);
        lines.setWait(a, b, v);
        return was;
    }

    public int lose(int hand, int tick, boolean lost) {
        if (!isHand(hand) || !isTick(tick)) {
            return UNKNOWN;
        }
        int was = lines.isLost(hand, tick) ? 1 : 0;
        lines.setLost(hand, tick, lost);
        return was;
    }

    public int known(int glass, int hand, int tick) {
        if (!isHand(glass) || !isHand(hand) || !isTick(tick)) {
            return UNKNOWN;
        }
        if (play.isLeft(hand, tick)) {
            return 0;
        }
        return lines.clockOf(play.rules[DELAY], glass, hand, tick) + 100;
    }

    public int takes(int glass, int clock, int hand, int tick) {
        if (!isHand(glass) || !isHand(hand) || !isTick(clock) || tick < 0 || tick > clock) {
            return UNKNOWN;
        }
        return lines.taken(play.rules[DELAY], glass, clock, hand, tick);
    }

    public int shown(int glass, int clock, int what) {
        if (!isHand(glass) || !isTick(clock)) {
            return UNKNOWN;
        }
        int column = columnOf(what, play.hands);
        if (column < 0) {
            return BAD;
        }
        showFrom(glass, clock, 0);
        return told(play, glassTrack.at(clock, column), column);
    }

    public int back(int glass, int clock) {
        if (!isHand(glass) || !isTick(clock)) {
            return UNKNOWN;
        }
        return lines.goneBack(play.rules[DELAY], glass, clock);
    }

    public int agreed(int glass, int clock) {
        if (!isHand(glass) || !isTick(clock)) {
            return UNKNOWN;
        }
        int greatest = NONE;
        for (int tick = 0; tick <= clock; tick++) {
            if (!lines.allKnown(play.rules[DELAY], glass, clock, tick)) {
                return greatest;
            }
            greatest = tick;
        }
        return greatest;
    }

    public int wrong(int glass, int m, boolean run) {
        if (!isHand(glass) || !isTick(m)) {
            return UNKNOWN;
        }
        playTrulyTo(m);
        int all = 0;
        int together = 0;
        int mostTogether = 0;
        for (int clock = 0; clock <= m; clock++) {
            // what was shown a clock ago still stands for the ticks that the glass does not go back over
            showFrom(glass, clock, clock - lines.goneBack(play.rules[DELAY], glass, clock));
            if (glassTrack.isLike(truth, clock)) {
                together = 0;
            } else {
                all++;
                together++;
                mostTogether = Math.max(mostTogether, together);
            }
        }
        return run ? mostTogether : all;
    }

    public int price(int delay, int m) {
        if (delay < 0 || delay > MOST_DELAY) {
            return BAD;
        }
        if (!isTick(m)) {
            return UNKNOWN;
        }
        return costOf(delay, m);
    }

    public int best(int m) {
        if (!isTick(m)) {
            return UNKNOWN;
        }
        int least = 0;
        int leastCost = costOf(0, m);
        for (int delay = 1; delay <= MOST_DELAY; delay++) {
            int cost = costOf(delay, m);
            if (cost < leastCost) {
                least = delay;
                leastCost = cost;
            }
        }
        return least;
    }

    // ---- sight

    public int sees(int hand, int other, int tick) {
        if (!isHand(hand) || !isHand(other) || !isTick(tick)) {
            return UNKNOWN;
        }
        playTrulyTo(tick);
        return seesThen(hand, other, tick) ? 1 : 0;
    }

    public int could(int hand, int other, int tick) {
        if (!isHand(hand) || !isHand(other) || !isTick(tick)) {
            return UNKNOWN;
        }
        playTrulyTo(tick);
        thinkTo(hand, other, tick);
        return fog.size(play.h);
    }

    public int couldBe(int hand, int other, int tick, int cell) {
        if (!isHand(hand) || !isHand(other) || !isTick(tick) || cell < 0 || cell >= play.w * play.h) {
            return UNKNOWN;
        }
        playTrulyTo(tick);
        thinkTo(hand, other, tick);
        return fog.has(spotOf(cell, play.w)) ? 1 : 0;
    }

    // ---- players

    public int player(int skill, int shore) {
        if (skill < 0 || skill > MOST_SKILL || !isShore(shore)) {
            return BAD;
        }
        if (crowd.size == MOST_PLAYERS) {
            return FULL;
        }
        return crowd.join(skill, shore);
    }

    public int far(int a, int b, int v) {
        if (!isShore(a) || !isShore(b)) {
            return UNKNOWN;
        }
        if (v < 0 || v > MOST_FAR) {
            return BAD;
        }
        return crowd.setFar(a, b, v);
    }

    public int pairs() {
        crowd.pairUp();
        return crowd.leastCost();
    }

    public int mate(int player) {
        if (player < 0 || player >= crowd.size) {
            return UNKNOWN;
        }
        crowd.pairUp();
        return crowd.mates[player];
    }

    public long odds(int n, int late, int hits, int both, boolean upper) {
        if (n < 1 || n > MOST_DEALT || late < 0 || late > n || hits < 0 || hits > n) {
            return BAD;
        }
        if (both < 0 || both > Math.min(late, hits)) {
            return BAD;
        }
        deal.reckon(n, late, hits, both);
        return upper ? deal.above : deal.below;
    }

    // ---- kept

    public int keep(int slot) {
        if (!isSlot(slot)) {
            return UNKNOWN;
        }
        slots[slot].copyFrom(play);
        kept[slot] = true;
        return play.pressed();
    }

    public int again(int slot) {
        if (!isSlot(slot)) {
            return UNKNOWN;
        }
        if (!kept[slot]) {
            return STATE;
        }
        play.copyFrom(slots[slot]);
        truth.keepBelow(0);
        return play.hands;
    }

    public int tried(int slot, int power, int tick, int what) {
        if (!isSlot(slot) || !isTick(tick)) {
            return UNKNOWN;
        }
        if (!kept[slot]) {
            return STATE;
        }
        Play old = slots[slot];
        int column = columnOf(what, old.hands);
        if (!isPower(power) || column < 0) {
            return BAD;
        }
        board.start(old);
        for (int t = 0; t <= tick; t++) {
            old.fillPresses(t, presses);
            board.advance(old, power, t, presses);
        }
        return told(old, board.now[column], column);
    }

    public int differs(int slot, int power) {
        if (!isSlot(slot)) {
            return UNKNOWN;
        }
        if (!kept[slot]) {
            return STATE;
        }
        if (!isPower(power)) {
            return BAD;
        }
        Play old = slots[slot];
        board.start(old);
        otherBoard.start(old);
        for (int t = 0; t < TICKS; t++) {
            old.fillPresses(t, presses);
            board.advance(old, old.rules[POWER], t, presses);
            otherBoard.advance(old, power, t, presses);
            if (!board.isLike(otherBoard)) {
                return t;
            }
        }
        return NONE;
    }

    public int count(int what) {
        switch (what) {
            case 0:
                return play.hands;
            case 1:
                return play.w;
            case 2:
                return play.h;
            case 3:
                return play.pressed();
            case 4:
                return lines.lostOnes();
            case 5:
                return play.leftTicks();
            case 6:
                return crowd.size;
            case 7:
                return slotsKept();
            default:
                return BAD;
        }
    }

    // ---- what a caller may name

    private boolean isHand(int hand) {
        return hand >= 0 && hand < play.hands;
    }

    private static boolean isTick(int tick) {
        return tick >= 0 && tick < TICKS;
    }

    private static boolean isSide(int side) {
        return side >= 3 && side <= MOST_SIDE;
    }

    private static boolean isPress(int v) {
        return v >= 0 && v <= KICK;
    }

    private static boolean isPower(int power) {
        return power >= LEAST_RULE[POWER] && power <= MOST_RULE[POWER];
    }

    private static boolean isShore(int shore) {
        return shore >= 0 && shore < SHORES;
    }

    private static boolean isSlot(int slot) {
        return slot >= 0 && slot < SLOTS;
    }

    /** Where in a state's row that stands which a caller asks for; -1: there is no such thing. */
    private static int columnOf(int what, int hands) {
        if (what == BALL || what >= 0 && what < hands) {
            return what;
        }
        if (what >= TOLD_POINTS && what < TOLD_POINTS + hands) {
            return what - TOLD_POINTS + POINTS;
        }
        return -1;
    }

    private static int told(Play of, int value, int column) {
        return column < POINTS ? yOf(value) * of.w + xOf(value) : value;
    }

    // ---- spots

    private static int xOf(int spot) {
        return spot & 15;
    }

    private static int yOf(int spot) {
        return spot >> 4;
    }

    /** By taking rows off, so that nothing is divided. */
    private static int spotOf(int cell, int w) {
        int x = cell;
        int y = 0;
        for (int i = 0; i < MOST_SIDE && x >= w; i++) {
            x -= w;
            y++;
        }
        return 16 * y + x;
    }

    private static int distance(int spot, int other) {
        return Math.abs(xOf(spot) - xOf(other)) + Math.abs(yOf(spot) - yOf(other));
    }

    // ---- what the calls share

    /** Plays on from the last tick that still stands. */
    private void playTrulyTo(int tick) {
        int first = truth.ready;
        if (first > tick) {
            return;
        }
        setBoardAhead(truth, first);
        for (int t = first; t <= tick; t++) {
            play.fillPresses(t, presses);
            board.advance(play, play.rules[POWER], t, presses);
            truth.save(t, board);
        }
        truth.ready = tick + 1;
    }

    /** Plays ticks first .. clock as a glass takes them at this clock; those below first stand in its track. */
    private void showFrom(int glass, int clock, int first) {
        setBoardAhead(glassTrack, first);
        for (int t = first; t <= clock; t++) {
            for (int hand = 0; hand < play.hands; hand++) {
                presses[hand] = lines.taken(play.rules[DELAY], glass, clock, hand, t);
            }
            board.advance(play, play.rules[POWER], t, presses);
            glassTrack.save(t, board);
        }
    }

    private void setBoardAhead(Track track, int tick) {
        if (tick > 0) {
            track.load(tick - 1, board);
        } else {
            board.start(play);
        }
    }

    private int costOf(int delay, int m) {
        int goneBack = 0;
        for (int glass = 0; glass < play.hands; glass++) {
            for (int clock = 0; clock <= m; clock++) {
                goneBack += lines.goneBack(delay, glass, clock);
            }
        }
        return play.rules[FEEL] * delay * play.hands * (m + 1) + play.rules[TURN] * goneBack;
    }

    private boolean seesThen(int hand, int other, int tick) {
        return distance(truth.at(tick, hand), truth.at(tick, other)) <= play.rules[SIGHT];
    }

    /** Leaves in the fog where the other hand could be, as far as the hand knows; the true play is there. */
    private void thinkTo(int hand, int other, int tick) {
        board.start(play);
        fog.setOnly(board.now[other]);
        for (int t = 0; t <= tick; t++) {
            if (seesThen(hand, other, t)) {
                fog.setOnly(truth.at(t, other));
            } else {
                fog.spread(play.w, play.h);
                fog.removeSeen(truth.at(t, hand), play.rules[SIGHT], play.h);
            }
        }
    }

    private int slotsKept() {
        int all = 0;
        for (int slot = 0; slot < SLOTS; slot++) {
            if (kept[slot]) {
                all++;
            }
        }
        return all;
    }

    /** A play: its field, its rules, what is pressed and who is left. */
    private static final class Play {
        int w = 5;
        int h = 5;
        int hands = 2;
        final int[] rules = {2, 0, 0, 0, 5, 1, 9};
        final int[] pressRow = new int[MOST_HANDS * TICKS];
        final int[] leftFrom = new int[MOST_HANDS];
        final int[] leftTo = new int[MOST_HANDS];

        void clear(int newW, int newH, int newHands) {
            w = newW;
            h = newH;
            hands = newHands;
            Arrays.fill(pressRow, 0);
            Arrays.fill(leftFrom, 0);
            Arrays.fill(leftTo, 0);
        }

        void copyFrom(Play other) {
            w = other.w;
            h = other.h;
            hands = other.hands;
            // POWER, SPIN and SEED are of the play; the rules behind them are not
            System.arraycopy(other.rules, 0, rules, 0, SEED + 1);
            System.arraycopy(other.pressRow, 0, pressRow, 0, pressRow.length);
            System.arraycopy(other.leftFrom, 0, leftFrom, 0, leftFrom.length);
            System.arraycopy(other.leftTo, 0, leftTo, 0, leftTo.length);
        }

        int pressOf(int hand, int tick) {
            return pressRow[hand * TICKS + tick];
        }

        void setPress(int hand, int tick, int v) {
            pressRow[hand * TICKS + tick] = v;
        }

        boolean isLeft(int hand, int tick) {
            return tick >= leftFrom[hand] && tick < leftTo[hand];
        }

        void fillPresses(int tick, int[] into) {
            for (int hand = 0; hand < hands; hand++) {
                into[hand] = pressOf(hand, tick);
            }
        }

        int pressed() {
            int all = 0;
            for (int i = 0; i < hands * TICKS; i++) {
                if (pressRow[i] != 0) {
                    all++;
                }
            }
            return all;
        }

        int leftTicks() {
            int all = 0;
            for (int hand = 0; hand < hands; hand++) {
                all += leftTo[hand] - leftFrom[hand];
            }
            return all;
        }
    }

    /** One state, and how a tick changes it. */
    private static final class Board {
        final int[] now = new int[ROW];

        void start(Play play) {
            Arrays.fill(now, 0);
            for (int hand = 0; hand < play.hands; hand++) {
                now[hand] = spotOf(hand, play.w);
            }
            now[BALL] = 16 * (play.h - 1) + play.w - 1;
        }

        void advance(Play play, int power, int tick, int[] presses) {
            for (int hand = 0; hand < play.hands; hand++) {
                int v = play.isLeft(hand, tick) ? machinePress(hand) : presses[hand];
                if (v == KICK) {
                    kick(play, hand, power);
                } else if (v > 0) {
                    go(play, hand, v);
                }
            }
            spinBall(play, tick);
            givePoint(play);
        }

        int machinePress(int hand) {
            if (wayToBall(hand) > 0) {
                return KICK;
            }
            int dx = xOf(now[BALL]) - xOf(now[hand]);
            int dy = yOf(now[BALL]) - yOf(now[hand]);
            if (Math.abs(dx) >= Math.abs(dy)) {
                return dx > 0 ? 1 : 3;
            }
            return dy > 0 ? 2 : 4;
        }

        boolean isLike(Board other) {
            for (int i = 0; i < ROW; i++) {
                if (now[i] != other.now[i]) {
                    return false;
                }
            }
            return true;
        }

        private boolean isFree(Play play, int spot) {
            if (spot < 0 || xOf(spot) >= play.w || yOf(spot) >= play.h) {
                return false;
            }
            for (int hand = 0; hand < play.hands; hand++) {
                if (now[hand] == spot) {
                    return false;
                }
            }
            return true;
        }

        private boolean moveBall(Play play, int way) {
            int next = now[BALL] + STEP[way];
            if (!isFree(play, next)) {
                return false;
            }
            now[BALL] = next;
            return true;
        }

        private void go(Play play, int hand, int way) {
            int next = now[hand] + STEP[way];
            if (!isFree(play, next)) {
                return;
            }
            if (next == now[BALL] && !moveBall(play, way)) {
                return;
            }
            now[hand] = next;
        }

        private void kick(Play play, int hand, int power) {
            int way = wayToBall(hand);
            boolean rolls = way > 0;
            for (int i = 0; i < power && rolls; i++) {
                rolls = moveBall(play, way);
            }
        }

        /** The way by which the ball is beside a hand; 0: it is not. */
        private int wayToBall(int hand) {
            for (int way = 1; way <= 4; way++) {
                if (now[hand] + STEP[way] == now[BALL]) {
                    return way;
                }
            }
            return 0;
        }

        private void spinBall(Play play, int tick) {
            int spin = play.rules[SPIN];
            if (spin > 0 && (tick + 1) % spin == 0) {
                moveBall(play, (31 * play.rules[SEED] + 17 * tick) % 4 + 1);
            }
        }

        private void givePoint(Play play) {
            int nearest = 0;
            int least = distance(now[0], now[BALL]);
            boolean alone = true;
            for (int hand = 1; hand < play.hands; hand++) {
                int away = distance(now[hand], now[BALL]);
                if (away < least) {
                    nearest = hand;
                    least = away;
                    alone = true;
                } else if (away == least) {
                    alone = false;
                }
            }
            if (alone) {
                now[POINTS + nearest]++;
            }
        }
    }

    /** The states behind all ticks, row by row. */
    private static final class Track {
        final int[] rows = new int[TICKS * ROW];
        int ready = 0;

        void keepBelow(int tick) {
            ready = Math.min(ready, tick);
        }

        int at(int tick, int column) {
            return rows[tick * ROW + column];
        }

        void save(int tick, Board from) {
            System.arraycopy(from.now, 0, rows, tick * ROW, ROW);
        }

        void load(int tick, Board into) {
            System.arraycopy(rows, tick * ROW, into.now, 0, ROW);
        }

        boolean isLike(Track other, int tick) {
            for (int i = tick * ROW; i < tick * ROW + ROW; i++) {
                if (rows[i] != other.rows[i]) {
                    return false;
                }
            }
            return true;
        }
    }

    /** What is known on a glass, and when. */
    private static final class Lines {
        private final Play play;
        private final int[] waits = new int[MOST_HANDS * MOST_HANDS];
        private final boolean[] lostRow = new boolean[MOST_HANDS * TICKS];

        Lines(Play of) {
            play = of;
        }

        void clear() {
            Arrays.fill(waits, 0);
            for (int i = 0; i < lostRow.length; i++) {
                lostRow[i] = false;
            }
        }

        int waitOf(int a, int b) {
            return waits[a * MOST_HANDS + b];
        }

        void setWait(int a, int b, int v) {
            waits[a * MOST_HANDS + b] = v;
            waits[b * MOST_HANDS + a] = v;
        }

        boolean isLost(int hand, int tick) {
            return lostRow[hand * TICKS + tick];
        }

        void setLost(int hand, int tick, boolean lost) {
            lostRow[hand * TICKS + tick] = lost;
        }

        int lostOnes() {
            int all = 0;
            for (int i = 0; i < play.hands * TICKS; i++) {
                if (lostRow[i]) {
                    all++;
                }
            }
            return all;
        }

        /** The clock at which a press is known; nothing for ticks at which the hand is left. */
        int clockOf(int delay, int glass, int hand, int tick) {
            int made = tick - delay;
            if (glass == hand) {
                return made;
            }
            int wait = waits[glass * MOST_HANDS + hand];
            return made + (lostRow[hand * TICKS + tick] ? 3 * wait + 1 : wait);
        }

        boolean allKnown(int delay, int glass, int clock, int tick) {
            for (int hand = 0; hand < play.hands; hand++) {
                if (!isKnown(delay, glass, clock, hand, tick)) {
                    return false;
                }
            }
            return true;
        }

        int taken(int delay, int glass, int clock, int hand, int tick) {
            if (isKnown(delay, glass, clock, hand, tick)) {
                return play.pressOf(hand, tick);
            }
            return guessed(delay, glass, clock, hand, tick);
        }

        /**
         * Only a press that is known from this clock on can change what is taken, and what it changes first is its
         * own tick: behind it the guess was the same as at it. So two ticks of each hand are looked at.
         */
        int goneBack(int delay, int glass, int clock) {
            int most = 0;
            for (int hand = 0; hand < play.hands; hand++) {
                int wait = waitOf(glass, hand);
                int newest = clock + delay;
                most = Math.max(most, backBy(delay, glass, clock, hand, newest - wait));
                most = Math.max(most, backBy(delay, glass, clock, hand, newest - 3 * wait - 1));
            }
            return most;
        }

        private int backBy(int delay, int glass, int clock, int hand, int tick) {
            if (tick < 0 || tick >= clock || play.isLeft(hand, tick)) {
                return 0;
            }
            if (clockOf(delay, glass, hand, tick) != clock) {
                return 0;
            }
            int before = guessed(delay, glass, clock - 1, hand, tick);
            return before == play.pressOf(hand, tick) ? 0 : clock - tick;
        }

        private boolean isKnown(int delay, int glass, int clock, int hand, int tick) {
            return play.isLeft(hand, tick) || clockOf(delay, glass, hand, tick) <= clock;
        }

        private int guessed(int delay, int glass, int clock, int hand, int tick) {
            for (int t = tick - 1; t >= 0; t--) {
                if (isKnown(delay, glass, clock, hand, t)) {
                    return play.isLeft(hand, t) ? 0 : play.pressOf(hand, t);
                }
            }
            return 0;
        }
    }

    /** The cells where a hand could be: for each y a number whose bit x is set. */
    private static final class Fog {
        private final int[] masks = new int[MOST_SIDE];

        void setOnly(int spot) {
            Arrays.fill(masks, 0);
            masks[yOf(spot)] = 1 << xOf(spot);
        }

        boolean has(int spot) {
            return (masks[yOf(spot)] >> xOf(spot) & 1) == 1;
        }

        int size(int h) {
            int all = 0;
            for (int y = 0; y < h; y++) {
                all += Integer.bitCount(masks[y]);
            }
            return all;
        }

        void spread(int w, int h) {
            int whole = (1 << w) - 1;
            int above = 0;
            for (int y = 0; y < h; y++) {
                int here = masks[y];
                int below = y + 1 < h ? masks[y + 1] : 0;
                masks[y] = (here | here << 1 | here >> 1 | above | below) & whole;
                above = here;
            }
        }

        void removeSeen(int eye, int sight, int h) {
            for (int y = 0; y < h; y++) {
                int reach = sight - Math.abs(y - yOf(eye));
                if (reach >= 0) {
                    int first = Math.max(0, xOf(eye) - reach);
                    int behind = xOf(eye) + reach + 1;
                    masks[y] &= ~((1 << behind) - (1 << first));
                }
            }
        }
    }

    /** The players, and the pairs that cost least. */
    private static final class Crowd {
        int size = 0;
        final int[] mates = new int[MOST_PLAYERS];
        private final int[] skills = new int[MOST_PLAYERS];
        private final int[] shores = new int[MOST_PLAYERS];
        private final int[] fars = new int[SHORES * SHORES];
        /* for each set of players, as bits, what its pairs cost at least */
        private final int[] least = new int[1 << MOST_PLAYERS];
        private boolean paired = false;

        int join(int skill, int shore) {
            skills[size] = skill;
            shores[size] = shore;
            size++;
            paired = false;
            return size - 1;
        }

        int setFar(int a, int b, int v) {
            int was = fars[a * SHORES + b];
            fars[a * SHORES + b] = v;
            fars[b * SHORES + a] = v;
            paired = false;
            return was;
        }

        int leastCost() {
            return least[(1 << size) - 1];
        }

        void pairUp() {
            if (paired) {
                return;
            }
            for (int set = 1; set < 1 << size; set++) {
                least[set] = leastOf(set);
            }
            int set = (1 << size) - 1;
            for (int first = 0; first < size; first++) {
                if ((set >> first & 1) == 1) {
                    int mate = leastMate(set, first);
                    mates[first] = mate;
                    set ^= 1 << first;
                    if (mate != NONE) {
                        mates[mate] = first;
                        set ^= 1 << mate;
                    }
                }
            }
            paired = true;
        }

        private int costOfPair(int a, int b) {
            return Math.abs(skills[a] - skills[b]) + fars[shores[a] * SHORES + shores[b]];
        }

        private int firstOf(int set) {
            for (int i = 0; i < MOST_PLAYERS; i++) {
                if ((set >> i & 1) == 1) {
                    return i;
                }
            }
            return 0;
        }

        private int leastOf(int set) {
            int first = firstOf(set);
            int rest = set ^ 1 << first;
            boolean odd = (Integer.bitCount(set) & 1) == 1;
            int best = odd ? least[rest] : Integer.MAX_VALUE;
            for (int other = first + 1; other < size; other++) {
                if ((rest >> other & 1) == 1) {
                    best = Math.min(best, costOfPair(first, other) + least[rest ^ 1 << other]);
                }
            }
            return best;
        }

        /** The least one with which the set still costs as little as it can; none: the first one is left over. */
        private int leastMate(int set, int first) {
            int rest = set ^ 1 << first;
            for (int other = first + 1; other < size; other++) {
                if ((rest >> other & 1) == 1
                        && costOfPair(first, other) + least[rest ^ 1 << other] == least[set]) {
                    return other;
                }
            }
            return NONE;
        }
    }

    /** The share of ways to deal late ticks out by which so many hit. */
    private static final class Deal {
        long above = 0;
        long below = 1;
        private final long[] amongHits = new long[MOST_DEALT + 1];
        private final long[] amongOthers = new long[MOST_DEALT + 1];

        void reckon(int n, int late, int hits, int both) {
            fillChoices(amongHits, hits);
            fillChoices(amongOthers, n - hits);
            long some = 0;
            long all = 0;
            for (int k = Math.max(0, late + hits - n); k <= Math.min(late, hits); k++) {
                long ways = amongHits[k] * amongOthers[late - k];
                all += ways;
                if (k >= both) {
                    some += ways;
                }
            }
            long common = commonOf(all, some);
            if (common > 0) {
                above = some / common;
                below = all / common;
            }
        }

        /** In how many ways k of so many can be chosen, for each k. */
        private static void fillChoices(long[] row, int of) {
            Arrays.fill(row, 0L);
            row[0] = 1;
            for (int i = 1; i <= of; i++) {
                for (int k = i; k > 0; k--) {
                    row[k] += row[k - 1];
                }
            }
        }

        /** The greatest divisor of both; numbers of 60 bits need fewer than 100 rounds. */
        private static long commonOf(long a, long b) {
            long greater = a;
            long lesser = b;
            for (int i = 0; i < 100 && lesser != 0; i++) {
                long rest = greater % lesser;
                greater = lesser;
                lesser = rest;
            }
            return greater;
        }
    }
}
