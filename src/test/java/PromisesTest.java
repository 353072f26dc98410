/** Each promise by hand-worked examples: ordinary inputs, the edges that the document names, wrong inputs. */
public final class PromisesTest {
    private static final int UNKNOWN = -1, BAD = -2, STATE = -3, FULL = -4, NONE = -9;
    private static final int LOW = Integer.MIN_VALUE, HIGH = Integer.MAX_VALUE;
    private static int promise = 0;
    private static int checked = 0;
    private static int wrong = 0;

    private static void due(String what, long got, long want) {
        checked++;
        if (got != want) {
            wrong++;
            System.out.println("promise " + promise + ": " + what + " answered " + got + ", due is " + want);
        }
    }

    /** Row by row: what, want, got. */
    private static void all(String what, int[] got, int... want) {
        due(what + ": how many", got.length, want.length);
        for (int i = 0; i < Math.min(got.length, want.length); i++) {
            due(what + "[" + i + "]", got[i], want[i]);
        }
    }

    public static void main(String[] args) {
        newObject();
        fields();
        rules();
        presses();
        holds();
        left();
        trueStates();
        machines();
        waits();
        losses();
        clocksKnown();
        taken();
        shownStates();
        goneBack();
        agreedTicks();
        wrongClocks();
        prices();
        bestDelays();
        seen();
        couldCells();
        couldBeCells();
        players();
        fars();
        pairings();
        mates();
        shares();
        keeping();
        playingAgain();
        trying();
        differing();
        counting();
        System.out.println(wrong == 0 ? checked + " answers are as due" : wrong + " answers are not as due");
        if (wrong != 0) {
            System.exit(1);
        }
    }

    private static int[] counts(SeaGames x) {
        int[] row = new int[8];
        for (int i = 0; i < 8; i++) {
            row[i] = x.count(i);
        }
        return row;
    }

    private static void newObject() {
        promise = 1;
        SeaGames x = new SeaGames();
        all("counts", counts(x), 2, 5, 5, 0, 0, 0, 0, 0);
        due("hand 0", x.truly(0, 0), 0);
        due("hand 1", x.truly(0, 1), 1);
        due("the ball", x.truly(0, 6), 24);
        due("points of 0", x.truly(99, 10), 0);
        due("points of 1, which is nearer at each tick", x.truly(99, 11), 100);
        all("rules", new int[] {x.rule(0, 1), x.rule(1, 1), x.rule(2, 1), x.rule(3, 1), x.rule(4, 1), x.rule(5, 2),
            x.rule(6, 1)}, 2, 0, 0, 0, 5, 1, 9);
        due("pairs", x.pairs(), 0);
    }

    private static void fields() {
        promise = 2;
        SeaGames x = new SeaGames();
        due("least", x.field(3, 3, 2), 9);
        due("most", x.field(9, 9, 6), 81);
        due("ball in the last cell", x.truly(0, 6), 80);
        due("w by h", x.field(4, 7, 3), 28);
        due("w", x.count(1), 4);
        due("h", x.count(2), 7);
        x.field(3, 3, 6);
        due("hand 5 in cell 5", x.truly(0, 5), 5);
        x.field(4, 4, 3);
        x.rule(0, 5);
        x.rule(3, 4);
        x.rule(6, 2);
        x.player(7, 1);
        x.player(9, 2);
        x.far(1, 2, 30);
        x.hold(0, 0, 9, 2);
        x.leave(1, 3, 8);
        x.line(0, 2, 6);
        x.lose(2, 5, true);
        x.keep(2);
        int[] before = counts(x);
        due("w too small", x.field(2, 3, 2), BAD);
        due("w too great", x.field(10, 3, 2), BAD);
        due("h too small", x.field(3, 2, 2), BAD);
        due("h too great", x.field(3, 10, 2), BAD);
        due("one hand", x.field(3, 3, 1), BAD);
        due("seven hands", x.field(3, 3, 7), BAD);
        due("far off", x.field(LOW, HIGH, LOW), BAD);
        all("nothing has changed", counts(x), before);
        due("again the same", x.field(4, 4, 3), 16);
        all("all are gone, players and slots stay", counts(x), 3, 4, 4, 0, 0, 0, 2, 1);
        due("press gone", x.press(0, 0, 0), 0);
        due("left gone", x.truly(99, 1), 1);
        due("wait gone", x.line(0, 2, 0), 0);
        due("lost gone", x.lose(2, 5, false), 0);
        due("power stays", x.rule(0, 2), 5);
        due("delay stays", x.rule(3, 0), 4);
        due("sight stays", x.rule(6, 9), 2);
        due("players stay", x.pairs(), 32);
        due("slot stays", x.tried(2, 1, 9, 0), 12);
    }

    private static void rules() {
        promise = 3;
        SeaGames x = new SeaGames();
        int[] first = {2, 0, 0, 0, 5, 1, 9};
        int[] least = {1, 0, 0, 0, 0, 0, 0};
        int[] most = {5, 9, 999, 9, 99, 99, 9};
        for (int what = 0; what < 7; what++) {
            due("below, rule " + what, x.rule(what, least[what] - 1), BAD);
            due("above, rule " + what, x.rule(what, most[what] + 1), BAD);
            due("far below, rule " + what, x.rule(what, LOW), BAD);
            due("first, rule " + what, x.rule(what, least[what]), first[what]);
            due("least, rule " + what, x.rule(what, most[what]), least[what]);
            due("most, rule " + what, x.rule(what, most[what]), most[what]);
        }
        due("no rule", x.rule(-1, 1), BAD);
        due("no rule", x.rule(7, 1), BAD);
        due("no rule", x.rule(HIGH, 1), BAD);
    }

    private static void presses() {
        promise = 4;
        SeaGames x = new SeaGames();
        due("first", x.press(1, 99, 5), 0);
        due("then", x.press(1, 99, 1), 5);
        due("other tick", x.press(1, 98, 1), 0);
        due("other hand", x.press(0, 99, 1), 0);
        due("no hand", x.press(-1, 0, 9), UNKNOWN);
        due("no hand", x.press(2, 0, 0), UNKNOWN);
        due("no tick", x.press(0, -1, 0), UNKNOWN);
        due("no tick, told ahead of bad", x.press(0, 100, 9), UNKNOWN);
        due("bad", x.press(1, 99, 6), BAD);
        due("bad", x.press(1, 99, -1), BAD);
        due("nothing has changed", x.press(1, 99, 0), 1);
        due("a press is played", x.press(1, 0, 2), 0);
        due("a press is played", x.truly(0, 1), 6);
        due("another one", x.press(1, 0, 1), 2);
        due("another one", x.truly(5, 1), 2);
        x.press(1, 3, 2);
        due("what was played ahead of it stands", x.truly(2, 1), 2);
        due("what comes behind it does not", x.truly(5, 1), 7);
    }

    private static void holds() {
        promise = 5;
        SeaGames x = new SeaGames();
        due("four", x.hold(0, 2, 5, 2), 4);
        due("the same", x.hold(0, 2, 5, 2), 0);
        due("some", x.hold(0, 4, 8, 2), 3);
        due("one", x.hold(0, 99, 99, 1), 1);
        due("all, to 0", x.hold(0, 0, 99, 0), 8);
        due("all", x.hold(1, 0, 99, 5), 100);
        due("no hand", x.hold(2, 5, 4, 9), UNKNOWN);
        due("no hand", x.hold(-1, 0, 0, 0), UNKNOWN);
        due("no tick", x.hold(0, -1, 4, 1), UNKNOWN);
        due("no tick", x.hold(0, 4, 100, 1), UNKNOWN);
        due("no tick, told ahead of bad", x.hold(0, 100, 4, 9), UNKNOWN);
        due("to below from", x.hold(0, 5, 4, 1), BAD);
        due("press", x.hold(0, 4, 5, 6), BAD);
        due("press", x.hold(0, 4, 5, -1), BAD);
        due("nothing has changed", x.count(3), 100);
        x.truly(50, 0);
        x.hold(0, 0, 2, 2);
        due("what is held is played", x.truly(50, 0), 15);
        due("tick by tick", x.truly(1, 0), 10);
    }

    private static void left() {
        promise = 6;
        SeaGames x = new SeaGames();
        due("all", x.leave(1, 0, 100), 100);
        all("the machine goes by x if that is as far, else by y", new int[] {x.truly(0, 1), x.truly(1, 1),
            x.truly(2, 1), x.truly(3, 1), x.truly(4, 1), x.truly(5, 1), x.truly(6, 1)}, 6, 7, 12, 13, 18, 19, 19);
        due("at no others", x.leave(1, 0, 3), 3);
        due("at no others", x.truly(50, 1), 12);
        due("at no others", x.count(5), 3);
        due("behind", x.leave(1, 98, 100), 2);
        due("behind", x.truly(97, 1), 1);
        due("behind", x.truly(99, 1), 7);
        due("the same: never", x.leave(1, 2, 2), 0);
        due("never", x.truly(99, 1), 1);
        due("100 and 100", x.leave(1, 100, 100), 0);
        due("0 and 0", x.leave(1, 0, 0), 0);
        due("one", x.leave(1, 99, 100), 1);
        due("no hand, told first", x.leave(2, -1, 200), UNKNOWN);
        due("no hand", x.leave(-1, 0, 1), UNKNOWN);
        due("below 0", x.leave(1, -1, 5), BAD);
        due("to is less", x.leave(1, 5, 4), BAD);
        due("above 100", x.leave(1, 0, 101), BAD);
        due("above 100", x.leave(1, 101, 101), BAD);
        due("far off", x.leave(1, LOW, HIGH), BAD);
        due("nothing has changed", x.count(5), 1);
        x.leave(1, 0, 1);
        x.press(1, 0, 1);
        due("the machine plays, not the press", x.truly(0, 1), 6);
        due("a hand that is blocked stays", x.leave(0, 0, 1), 1);
        due("a hand that is blocked stays", x.truly(0, 0), 0);
        machineInItsTurn();
    }

    /** Hand 0 pushes the ball away ahead of the machine's turn, so it goes there and does not kick. */
    private static void machineInItsTurn() {
        SeaGames x = ballOffTheCorner();
        x.hold(1, 0, 1, 1);
        x.hold(1, 2, 4, 2);
        x.press(0, 9, 1);
        x.leave(1, 9, 10);
        due("hand 1 ahead of it", x.truly(8, 1), 18);
        due("by the state when its turn comes", x.truly(9, 1), 19);
    }

    /** By a spin at tick 8 the ball is in cell 23 (to tick 17); hand 0 is at its left from tick 5 on. */
    private static SeaGames ballOffTheCorner() {
        SeaGames x = new SeaGames();
        x.rule(1, 9);
        x.rule(2, 2);
        x.hold(0, 0, 3, 2);
        x.hold(0, 4, 5, 1);
        return x;
    }

    /** 9 by 3: hand 1 stands in the last cell from tick 9 on, the ball at its left; it kicks at tick 10. */
    private static SeaGames longKick() {
        SeaGames x = new SeaGames();
        x.field(9, 3, 2);
        x.rule(1, 9);
        x.rule(2, 2);
        x.hold(1, 0, 6, 1);
        x.hold(1, 7, 9, 2);
        x.press(1, 10, 5);
        return x;
    }

    private static void trueStates() {
        promise = 7;
        SeaGames x = new SeaGames();
        x.press(0, 0, 1);
        x.press(1, 0, 1);
        due("hand 1 is still there in hand 0's turn", x.truly(0, 0), 0);
        due("hand 1 goes", x.truly(0, 1), 2);
        x.press(0, 0, 2);
        x.press(1, 0, 3);
        due("hand 0 is gone in hand 1's turn", x.truly(0, 1), 0);
        due("y more", x.truly(0, 0), 5);
        x.press(0, 1, 3);
        x.press(1, 1, 4);
        due("x less is off the field", x.truly(1, 0), 5);
        due("y less is off the field", x.truly(1, 1), 0);
        x.press(0, 2, 4);
        due("a hand is there", x.truly(2, 0), 5);
        SeaGames tie = new SeaGames();
        tie.press(0, 0, 2);
        due("none is nearest", tie.truly(0, 10) + tie.truly(0, 11), 0);
        due("then still none", tie.truly(1, 11), 0);
        tie.press(0, 1, 2);
        due("hand 0 is nearest", tie.truly(1, 10), 1);
        due("hand 0 is nearest from then on", tie.truly(99, 10), 99);
        due("no tick, told first", x.truly(-1, 99), UNKNOWN);
        due("no tick", x.truly(100, 0), UNKNOWN);
        for (int what : new int[] {-1, 2, 5, 7, 9, 12, 15, LOW, HIGH}) {
            due("bad what " + what, x.truly(0, what), BAD);
        }
        x.field(5, 5, 6);
        due("hand 5", x.truly(0, 5), 5);
        due("points of 5", x.truly(99, 15), 0);
        due("points of 4, which is nearest", x.truly(99, 14), 100);
        x.field(3, 3, 6);
        x.press(3, 0, 3);
        due("hand 3 begins at the left edge", x.truly(0, 3), 3);
        x.press(3, 0, 2);
        due("hand 3 goes down", x.truly(0, 3), 6);
        due("none", x.truly(0, 16), BAD);
        spins();
        pushes();
        kicks();
    }

    private static void spins() {
        SeaGames x = new SeaGames();
        x.rule(1, 9);
        x.rule(2, 2);
        all("spin 9, seed 2", new int[] {x.truly(7, 6), x.truly(8, 6), x.truly(16, 6), x.truly(17, 6), x.truly(26, 6),
            x.truly(35, 6), x.truly(44, 6)}, 24, 23, 23, 18, 19, 24, 23);
        x.rule(2, 1);
        due("another seed", x.truly(8, 6), 19);
        x.rule(1, 1);
        x.rule(2, 1);
        all("spin 1, seed 1: ways 4, 1, 2, 3, 4", new int[] {x.truly(0, 6), x.truly(1, 6), x.truly(2, 6),
            x.truly(3, 6), x.truly(4, 6)}, 19, 19, 24, 23, 18);
        x.field(3, 9, 2);
        x.rule(1, 9);
        x.press(1, 0, 1);
        x.hold(1, 1, 7, 2);
        due("a hand stands where the ball would spin to", x.truly(8, 6), 26);
        due("there it is", x.truly(8, 1), 23);
    }

    private static void pushes() {
        SeaGames x = ballOffTheCorner();
        x.press(0, 9, 1);
        x.press(0, 10, 1);
        due("ahead of it", x.truly(8, 0), 22);
        due("the ball goes on first", x.truly(9, 6), 24);
        due("then the hand", x.truly(9, 0), 23);
        due("the ball cannot go on", x.truly(10, 6), 24);
        due("so the hand stays", x.truly(10, 0), 23);
        SeaGames held = ballOffTheCorner();
        held.hold(1, 0, 2, 1);
        held.hold(1, 3, 5, 2);
        held.press(1, 9, 2);
        held.press(0, 10, 1);
        due("hand 1 is in the corner", held.truly(9, 1), 24);
        due("a hand is where the ball would go", held.truly(10, 0), 22);
        due("the ball stays", held.truly(10, 6), 23);
    }

    private static void kicks() {
        SeaGames x = longKick();
        due("ball at its left", x.truly(9, 6), 25);
        due("hand in the corner", x.truly(9, 1), 26);
        due("power 2", x.truly(10, 6), 23);
        due("the hand stays", x.truly(10, 1), 26);
        x.rule(0, 1);
        due("power 1", x.truly(10, 6), 24);
        x.rule(0, 5);
        due("power 5", x.truly(10, 6), 20);
        x.hold(0, 0, 1, 2);
        x.hold(0, 2, 4, 1);
        due("as far as a hand", x.truly(10, 6), 22);
        SeaGames edge = ballOffTheCorner();
        edge.press(0, 9, 5);
        due("as far as the edge", edge.truly(9, 6), 24);
        edge.press(0, 10, 5);
        due("not beside it", edge.truly(10, 6), 24);
        SeaGames up = kickUp();
        due("up", up.truly(10, 6), 8);
    }

    /** 3 by 9: hand 1 stands below the ball from tick 9 on and kicks it up, by 5, at tick 10. */
    private static SeaGames kickUp() {
        SeaGames x = new SeaGames();
        x.field(3, 9, 2);
        x.rule(0, 5);
        x.rule(1, 9);
        x.rule(2, 1);
        x.hold(1, 0, 7, 2);
        x.press(1, 9, 1);
        x.press(1, 10, 5);
        return x;
    }

    private static void machines() {
        promise = 8;
        SeaGames x = new SeaGames();
        due("as far by x as by y", x.machine(0, 0), 1);
        due("by y", x.machine(1, 0), 2);
        x.leave(1, 0, 100);
        due("by y", x.machine(1, 3), 2);
        due("by x", x.machine(1, 4), 1);
        due("beside it", x.machine(1, 5), 5);
        x = longKick();
        x.rule(0, 5);
        due("x less", x.machine(1, 10), 3);
        x = kickUp();
        due("beside it", x.machine(1, 9), 5);
        due("y less", x.machine(1, 10), 4);
        due("no hand", x.machine(2, 0), UNKNOWN);
        due("no hand", x.machine(-1, 0), UNKNOWN);
        due("no tick", x.machine(0, -1), UNKNOWN);
        due("no tick", x.machine(0, 100), UNKNOWN);
    }

    private static void waits() {
        promise = 9;
        SeaGames x = new SeaGames();
        x.field(5, 5, 3);
        due("first", x.line(0, 1, 9), 0);
        due("the same both ways", x.line(1, 0, 4), 9);
        due("the same both ways", x.line(0, 1, 4), 4);
        due("another line", x.line(2, 1, 3), 0);
        due("another line", x.line(0, 2, 1), 0);
        due("no glass", x.line(3, 0, 10), UNKNOWN);
        due("no glass, told first", x.line(-1, -1, 10), UNKNOWN);
        due("no glass", x.line(0, 3, 1), UNKNOWN);
        due("bad", x.line(0, 1, 10), BAD);
        due("bad", x.line(0, 1, -1), BAD);
        due("bad is told ahead of state", x.line(1, 1, 10), BAD);
        due("they are one", x.line(1, 1, 0), STATE);
        due("nothing has changed", x.line(0, 1, 0), 4);
    }

    private static void losses() {
        promise = 10;
        SeaGames x = new SeaGames();
        due("first", x.lose(1, 99, true), 0);
        due("then", x.lose(1, 99, true), 1);
        due("once", x.count(4), 1);
        due("the first of all", x.lose(0, 0, true), 0);
        due("two", x.count(4), 2);
        x.field(5, 5, 2);
        due("gone", x.lose(0, 0, false), 0);
        x.lose(1, 99, true);
        due("no more", x.lose(1, 99, false), 1);
        due("no more", x.lose(1, 99, false), 0);
        due("none", x.count(4), 0);
        due("no hand", x.lose(2, 0, true), UNKNOWN);
        due("no hand", x.lose(-1, 0, true), UNKNOWN);
        due("no tick", x.lose(0, 100, true), UNKNOWN);
        due("no tick", x.lose(0, -1, true), UNKNOWN);
        due("none", x.count(4), 0);
        x.lose(0, 3, true);
        x.press(0, 3, 4);
        due("a press does not find it again", x.lose(0, 3, true), 1);
    }

    private static void clocksKnown() {
        promise = 11;
        SeaGames x = new SeaGames();
        x.line(0, 1, 9);
        due("own glass", x.known(1, 1, 0), 100);
        due("another one", x.known(0, 1, 0), 109);
        x.lose(1, 99, true);
        due("lost", x.known(0, 1, 99), 227);
        due("lost, own glass", x.known(1, 1, 99), 199);
        x.line(0, 1, 0);
        due("lost without wait", x.known(0, 1, 99), 200);
        x.rule(3, 9);
        due("delay", x.known(0, 1, 99), 191);
        due("below 0", x.known(0, 0, 0), 91);
        x.leave(1, 98, 100);
        due("always", x.known(0, 1, 99), 0);
        due("always on its own too", x.known(1, 1, 98), 0);
        due("not there", x.known(1, 1, 97), 188);
        due("no glass", x.known(2, 0, 0), UNKNOWN);
        due("no hand", x.known(0, 2, 0), UNKNOWN);
        due("no tick", x.known(0, 0, 100), UNKNOWN);
        due("none at all", x.known(-1, -1, -1), UNKNOWN);
    }

    /** Three hands, waits 2, 4 and 0; hand 1 goes down at ticks 2 .. 4, hand 2 to the right at tick 1. */
    private static SeaGames threeGlasses() {
        SeaGames x = new SeaGames();
        x.field(5, 5, 3);
        x.line(0, 1, 2);
        x.line(0, 2, 4);
        x.hold(1, 2, 4, 2);
        x.press(2, 1, 1);
        return x;
    }

    private static void taken() {
        promise = 12;
        SeaGames x = threeGlasses();
        due("known now", x.takes(0, 4, 1, 2), 2);
        due("not yet", x.takes(0, 3, 1, 2), 0);
        due("tick 0", x.takes(0, 9, 1, 0), 0);
        x.press(1, 0, 3);
        due("tick 0", x.takes(0, 2, 1, 0), 3);
        due("guess from tick 0", x.takes(0, 2, 1, 2), 3);
        x.press(1, 0, 0);
        due("guess", x.takes(0, 4, 1, 4), 2);
        due("guess from the newest", x.takes(0, 7, 1, 7), 0);
        due("guess from the newest", x.takes(0, 6, 1, 6), 2);
        due("nothing is known", x.takes(0, 3, 2, 1), 0);
        due("own glass", x.takes(2, 1, 2, 1), 1);
        due("no wait", x.takes(1, 1, 2, 1), 1);
        x.lose(1, 3, true);
        due("lost: tick 2 stands for it", x.takes(0, 5, 1, 3), 2);
        x.press(1, 3, 4);
        due("lost: not known yet", x.takes(0, 9, 1, 3), 2);
        due("lost: known", x.takes(0, 10, 1, 3), 4);
        due("behind a lost one the known one stands", x.takes(0, 9, 1, 4), 2);
        x.rule(3, 2);
        due("delay", x.takes(0, 2, 1, 2), 2);
        x.rule(3, 0);
        x.leave(1, 3, 5);
        due("left: the press is known always", x.takes(0, 4, 1, 3), 4);
        due("guess from one at which it is left", x.takes(0, 6, 1, 6), 0);
        due("guess ahead of those", x.takes(0, 4, 1, 2), 2);
        due("no glass", x.takes(3, 0, 0, 0), UNKNOWN);
        due("no hand", x.takes(0, 0, 3, 0), UNKNOWN);
        due("no clock", x.takes(0, 100, 0, 0), UNKNOWN);
        due("no clock", x.takes(0, -1, 0, -1), UNKNOWN);
        due("no tick", x.takes(0, 5, 0, 6), UNKNOWN);
        due("no tick", x.takes(0, 5, 0, -1), UNKNOWN);
        due("last", x.takes(0, 99, 0, 99), 0);
    }

    private static void shownStates() {
        promise = 13;
        SeaGames x = threeGlasses();
        due("guessed too far", x.shown(0, 5, 2), 4);
        due("truly", x.truly(5, 2), 3);
        due("guessed too far", x.shown(0, 6, 1), 21);
        due("truly", x.truly(6, 1), 16);
        due("own glass", x.shown(2, 5, 2), 3);
        due("gone back", x.shown(0, 7, 1), 16);
        due("the ball", x.shown(0, 99, 6), 24);
        due("points", x.shown(0, 1, 12), 2);
        x.leave(1, 0, 100);
        x.field(5, 5, 2);
        x.leave(1, 0, 100);
        x.line(0, 1, 9);
        due("the machine is shown at once", x.shown(0, 3, 1), 13);
        due("no glass", x.shown(2, 0, 99), UNKNOWN);
        due("no clock", x.shown(0, 100, 99), UNKNOWN);
        due("no clock", x.shown(0, -1, 0), UNKNOWN);
        due("bad", x.shown(0, 0, 2), BAD);
        due("bad", x.shown(0, 0, 12), BAD);
        due("bad", x.shown(0, 0, -1), BAD);
    }

    private static void goneBack() {
        promise = 14;
        SeaGames x = threeGlasses();
        int[] row = new int[10];
        for (int c = 0; c < 10; c++) {
            row[c] = x.back(0, c);
            due("no waits", x.back(1, c), 0);
        }
        all("glass 0", row, 0, 0, 0, 0, 2, 4, 4, 2, 0, 0);
        x.lose(2, 1, true);
        due("not known", x.back(0, 5), 0);
        due("lost: thirteen later", x.back(0, 14), 13);
        x.rule(3, 4);
        due("lost, delay 4", x.back(0, 10), 9);
        due("delay 4", x.back(0, 4), 0);
        x.leave(2, 0, 100);
        due("left: known always", x.back(0, 10), 0);
        x.rule(3, 0);
        x.press(0, 20, 5);
        due("hand 0's press comes to glass 1", x.back(1, 22), 2);
        due("hand 0's press comes to glass 2", x.back(2, 24), 4);
        due("not to its own", x.back(0, 22), 0);
        due("no glass", x.back(3, 0), UNKNOWN);
        due("no glass", x.back(-1, 0), UNKNOWN);
        due("no clock", x.back(0, 100), UNKNOWN);
        due("no clock", x.back(0, -1), UNKNOWN);
    }

    private static void agreedTicks() {
        promise = 15;
        SeaGames x = threeGlasses();
        due("none", x.agreed(0, 3), NONE);
        due("first", x.agreed(0, 4), 0);
        due("last", x.agreed(0, 99), 95);
        due("glass 1", x.agreed(1, 1), NONE);
        due("glass 1", x.agreed(1, 2), 0);
        x.lose(2, 1, true);
        due("lost", x.agreed(0, 13), 0);
        due("found", x.agreed(0, 14), 10);
        x.leave(2, 0, 100);
        due("left", x.agreed(0, 4), 2);
        x.leave(2, 0, 0);
        x.lose(2, 1, false);
        x.rule(3, 4);
        due("delay, the clock at most", x.agreed(0, 3), 3);
        due("at 0", x.agreed(0, 0), 0);
        due("no glass", x.agreed(3, 0), UNKNOWN);
        due("no glass", x.agreed(-1, 0), UNKNOWN);
        due("no clock", x.agreed(0, 100), UNKNOWN);
        due("no clock", x.agreed(0, -1), UNKNOWN);
    }

    private static void wrongClocks() {
        promise = 16;
        SeaGames x = threeGlasses();
        due("right at 0", x.wrong(0, 0, false), 0);
        due("1 to 3", x.wrong(0, 3, false), 3);
        due("1 to 6", x.wrong(0, 99, false), 6);
        due("1 to 6", x.wrong(0, 99, true), 6);
        due("glass 1", x.wrong(1, 99, false), 0);
        due("glass 1", x.wrong(1, 99, true), 0);
        x.press(1, 50, 1);
        due("50 to 52 too", x.wrong(0, 99, false), 9);
        due("the most together", x.wrong(0, 99, true), 6);
        due("cut off", x.wrong(0, 50, false), 7);
        SeaGames points = new SeaGames();
        points.line(0, 1, 5);
        points.press(0, 0, 2);
        points.press(0, 1, 4);
        due("all stand as they should at 1", points.shown(1, 1, 0), points.truly(1, 0));
        due("but for points", points.wrong(1, 20, false), 6);
        due("but for points", points.wrong(1, 4, true), 5);
        due("no glass", x.wrong(3, 0, false), UNKNOWN);
        due("no glass", x.wrong(-1, 0, true), UNKNOWN);
        due("no m", x.wrong(0, 100, false), UNKNOWN);
        due("no m", x.wrong(0, -1, true), UNKNOWN);
    }

    private static void prices() {
        promise = 17;
        SeaGames x = threeGlasses();
        due("first rules", x.price(0, 12), 12);
        due("feel", x.price(9, 12), 5 * 9 * 3 * 13);
        x.rule(3, 3);
        due("not by the delay that is set", x.price(0, 12), 12);
        due("up to clock 4", x.price(0, 4), 2);
        due("clock 0", x.price(1, 0), 15);
        x.rule(4, 7);
        x.rule(5, 3);
        due("0", x.price(0, 12), 36);
        due("1", x.price(1, 12), 7 * 3 * 13 + 24);
        due("2", x.price(2, 12), 558);
        due("4", x.price(4, 12), 1092);
        x.rule(4, 99);
        due("most", x.price(9, 99), 99 * 9 * 3 * 100);
        due("bad, told first", x.price(10, 100), BAD);
        due("bad", x.price(-1, 0), BAD);
        due("no m", x.price(0, 100), UNKNOWN);
        due("no m", x.price(0, -1), UNKNOWN);
    }

    private static void bestDelays() {
        promise = 18;
        SeaGames x = threeGlasses();
        due("first rules", x.best(12), 0);
        x.rule(4, 3);
        x.rule(5, 40);
        due("480, 437, 394, 431, 468", x.best(12), 2);
        x.rule(4, 1);
        x.rule(5, 99);
        due("none goes back", x.best(12), 4);
        x.rule(4, 0);
        due("like ones: the least", x.best(12), 4);
        due("nothing yet", x.best(3), 0);
        x.rule(5, 0);
        due("all are like", x.best(99), 0);
        x.rule(5, 1);
        x.line(0, 2, 9);
        due("nine", x.best(99), 9);
        x.line(0, 2, 1);
        x.line(0, 1, 1);
        due("one", x.best(99), 1);
        due("no m", x.best(100), UNKNOWN);
        due("no m", x.best(-1), UNKNOWN);
    }

    /** Sight 2: hand 1 is 2, 3, 2 away from hand 0 behind ticks 0, 1, 2. */
    private static SeaGames outAndBack() {
        SeaGames x = new SeaGames();
        x.rule(6, 2);
        x.hold(1, 0, 1, 1);
        x.press(1, 2, 3);
        return x;
    }

    private static void seen() {
        promise = 19;
        SeaGames x = outAndBack();
        all("out and back", new int[] {x.sees(0, 1, 0), x.sees(0, 1, 1), x.sees(0, 1, 2)}, 1, 0, 1);
        due("itself", x.sees(0, 0, 1), 1);
        x.rule(6, 3);
        due("farther", x.sees(1, 0, 1), 1);
        x.rule(6, 0);
        due("only itself", x.sees(0, 1, 0), 0);
        due("only itself", x.sees(1, 1, 0), 1);
        due("no hand", x.sees(2, 0, 0), UNKNOWN);
        due("no hand", x.sees(0, -1, 0), UNKNOWN);
        due("no tick", x.sees(0, 1, 100), UNKNOWN);
        due("no tick", x.sees(0, 1, -1), UNKNOWN);
    }

    private static void couldCells() {
        promise = 20;
        SeaGames x = outAndBack();
        all("out and back", new int[] {x.could(0, 1, 0), x.could(0, 1, 1), x.could(0, 1, 2)}, 1, 2, 1);
        due("itself", x.could(1, 1, 99), 1);
        x.field(3, 3, 2);
        x.rule(6, 0);
        all("unseen", new int[] {x.could(0, 1, 0), x.could(0, 1, 1), x.could(0, 1, 2), x.could(0, 1, 99)}, 3, 6, 8, 8);
        due("the other one", x.could(1, 0, 0), 2);
        x.field(9, 9, 2);
        x.rule(6, 3);
        x.hold(0, 0, 3, 2);
        x.hold(1, 0, 6, 1);
        all("7 + 5 + 3 + 1 behind tick 4", new int[] {x.could(0, 1, 0), x.could(0, 1, 1), x.could(0, 1, 2),
            x.could(0, 1, 3), x.could(0, 1, 4)}, 1, 2, 6, 12, 16);
        due("no hand", x.could(2, 0, 0), UNKNOWN);
        due("no hand", x.could(0, 2, 0), UNKNOWN);
        due("no hand", x.could(-1, 0, 0), UNKNOWN);
        due("no tick", x.could(0, 1, 100), UNKNOWN);
        due("no tick", x.could(0, 1, -1), UNKNOWN);
    }

    private static void couldBeCells() {
        promise = 21;
        SeaGames x = outAndBack();
        due("where it was, which is seen", x.couldBe(0, 1, 1, 2), 0);
        due("where it is", x.couldBe(0, 1, 1, 3), 1);
        due("beside", x.couldBe(0, 1, 1, 7), 1);
        due("seen again", x.couldBe(0, 1, 2, 2), 1);
        due("seen again", x.couldBe(0, 1, 2, 3), 0);
        x.field(3, 3, 2);
        x.rule(6, 0);
        int[] row = new int[9];
        for (int cell = 0; cell < 9; cell++) {
            row[cell] = x.couldBe(0, 1, 0, cell);
        }
        all("beside or there", row, 0, 1, 1, 0, 1, 0, 0, 0, 0);
        due("no cell", x.couldBe(0, 1, 0, 9), UNKNOWN);
        due("no cell", x.couldBe(0, 1, 0, -1), UNKNOWN);
        due("no hand", x.couldBe(2, 1, 0, 0), UNKNOWN);
        due("no hand", x.couldBe(0, 2, 0, 0), UNKNOWN);
        due("no tick", x.couldBe(0, 1, 100, 0), UNKNOWN);
        due("no tick", x.couldBe(0, 1, -1, 0), UNKNOWN);
    }

    private static void players() {
        promise = 22;
        SeaGames x = new SeaGames();
        due("bad", x.player(-1, 0), BAD);
        due("bad", x.player(1000, 0), BAD);
        due("bad", x.player(0, -1), BAD);
        due("bad", x.player(0, 4), BAD);
        due("none yet", x.count(6), 0);
        for (int i = 0; i < 10; i++) {
            due("its number", x.player(i % 2 == 0 ? 0 : 999, i % 4), i);
        }
        due("full", x.player(0, 0), FULL);
        due("bad is told ahead of full", x.player(0, 4), BAD);
        due("ten", x.count(6), 10);
    }

    private static void fars() {
        promise = 23;
        SeaGames x = new SeaGames();
        due("first", x.far(0, 3, 999), 0);
        due("the same both ways", x.far(3, 0, 5), 999);
        due("the same both ways", x.far(0, 3, 5), 5);
        due("on one shore", x.far(2, 2, 8), 0);
        due("on one shore", x.far(2, 2, 8), 8);
        due("no shore, told first", x.far(4, 0, 1000), UNKNOWN);
        due("no shore", x.far(0, 4, 0), UNKNOWN);
        due("no shore", x.far(-1, 0, 0), UNKNOWN);
        due("no shore", x.far(0, -1, 0), UNKNOWN);
        due("bad", x.far(0, 3, 1000), BAD);
        due("bad", x.far(0, 3, -1), BAD);
        due("nothing has changed", x.far(0, 3, 0), 5);
    }

    private static SeaGames withSkills(int... skills) {
        SeaGames x = new SeaGames();
        for (int skill : skills) {
            x.player(skill, 0);
        }
        return x;
    }

    private static void pairings() {
        promise = 24;
        due("nobody", withSkills().pairs(), 0);
        due("one", withSkills(7).pairs(), 0);
        due("two", withSkills(7, 999).pairs(), 992);
        due("three", withSkills(0, 10, 10).pairs(), 0);
        due("four", withSkills(0, 10, 0, 10).pairs(), 0);
        due("four", withSkills(0, 10, 20, 999).pairs(), 989);
        due("nine", withSkills(1, 2, 4, 8, 16, 32, 64, 128, 256).pairs(), 1 + 4 + 16 + 64);
        due("ten", withSkills(0, 999, 1, 998, 2, 997, 3, 996, 4, 995).pairs(), 1 + 1 + 991 + 1 + 1);
        SeaGames x = new SeaGames();
        x.player(5, 0);
        x.player(9, 1);
        due("skill alone", x.pairs(), 4);
        x.far(1, 0, 100);
        due("and far", x.pairs(), 104);
        x.player(50, 1);
        due("another one", x.pairs(), 41);
        x.far(1, 1, 70);
        due("on one shore too", x.pairs(), 104);
    }

    private static int[] matesOf(SeaGames x) {
        int[] row = new int[x.count(6)];
        for (int i = 0; i < row.length; i++) {
            row[i] = x.mate(i);
        }
        return row;
    }

    private static void mates() {
        promise = 25;
        all("one", matesOf(withSkills(3)), NONE);
        all("all alike", matesOf(withSkills(5, 5, 5, 5)), 1, 0, 3, 2);
        all("all alike, odd", matesOf(withSkills(5, 5, 5)), 1, 0, NONE);
        all("all alike, odd", matesOf(withSkills(5, 5, 5, 5, 5)), 1, 0, 3, 2, NONE);
        all("0 left over", matesOf(withSkills(0, 10, 10)), NONE, 2, 1);
        all("left over is behind all", matesOf(withSkills(0, 5, 10)), 1, 0, NONE);
        all("left over is behind all", matesOf(withSkills(10, 0, 5)), 2, NONE, 0);
        all("crosswise", matesOf(withSkills(0, 10, 0, 10)), 2, 3, 0, 1);
        all("then the least of the others", matesOf(withSkills(0, 0, 4, 5, 6)), 1, 0, 3, 2, NONE);
        SeaGames x = withSkills(1, 2, 3);
        due("no player", x.mate(3), UNKNOWN);
        due("no player", x.mate(-1), UNKNOWN);
        due("no player", new SeaGames().mate(0), UNKNOWN);
        due("first", x.mate(0), 1);
        x.player(1, 0);
        due("a better one has come", x.mate(0), 3);
        x.far(0, 0, 9);
        due("as far for all", x.mate(0), 3);
    }

    private static void share(int n, int late, int hits, int both, long above, long below) {
        SeaGames x = new SeaGames();
        String what = "odds of " + n + ", " + late + ", " + hits + ", " + both;
        due(what + " above", x.odds(n, late, hits, both, true), above);
        due(what + " below", x.odds(n, late, hits, both, false), below);
    }

    private static void shares() {
        promise = 26;
        share(4, 2, 2, 0, 1, 1);
        share(4, 2, 2, 1, 5, 6);
        share(4, 2, 2, 2, 1, 6);
        share(6, 3, 3, 2, 1, 2);
        share(1, 0, 0, 0, 1, 1);
        share(1, 1, 1, 1, 1, 1);
        share(60, 1, 1, 1, 1, 60);
        share(60, 30, 30, 0, 1, 1);
        share(60, 30, 30, 30, 1, 118264581564861424L);
        share(60, 60, 0, 0, 1, 1);
        share(60, 0, 60, 0, 1, 1);
        share(60, 60, 60, 60, 1, 1);
        share(60, 60, 59, 59, 1, 1);
        share(5, 4, 4, 3, 1, 1);
        share(5, 4, 4, 4, 1, 5);
        int[][] bad = {{0, 0, 0, 0}, {61, 0, 0, 0}, {5, -1, 0, 0}, {5, 6, 0, 0}, {5, 0, -1, 0}, {5, 0, 6, 0},
            {5, 2, 3, 3}, {5, 3, 2, 3}, {5, 2, 2, -1}, {HIGH, HIGH, HIGH, HIGH}, {LOW, LOW, LOW, LOW}};
        for (int[] row : bad) {
            share(row[0], row[1], row[2], row[3], BAD, BAD);
        }
    }

    private static void keeping() {
        promise = 27;
        SeaGames x = new SeaGames();
        due("nothing is pressed", x.keep(3), 0);
        x.hold(0, 0, 4, 1);
        x.press(1, 99, 5);
        due("six", x.keep(0), 6);
        x.leave(0, 0, 100);
        due("left ones too", x.keep(0), 6);
        due("no slot", x.keep(4), UNKNOWN);
        due("no slot", x.keep(-1), UNKNOWN);
        due("two", x.count(7), 2);
    }

    private static void playingAgain() {
        promise = 28;
        SeaGames x = new SeaGames();
        x.field(4, 6, 3);
        x.rule(0, 4);
        x.rule(1, 3);
        x.rule(2, 77);
        x.rule(3, 2);
        x.hold(2, 5, 9, 2);
        x.leave(1, 10, 30);
        x.line(0, 1, 7);
        x.lose(0, 8, true);
        int ball = x.truly(60, 6);
        int points = x.truly(60, 12);
        int cell = x.truly(9, 2);
        x.keep(1);
        x.press(2, 5, 1);
        due("what is kept stays", x.tried(1, 4, 60, 6), ball);
        due("three hands", x.again(1), 3);
        due("press", x.press(2, 5, 2), 2);
        x.field(9, 9, 2);
        x.rule(0, 1);
        x.rule(1, 0);
        x.rule(2, 0);
        x.rule(3, 5);
        x.line(0, 1, 1);
        x.lose(1, 4, true);
        due("three hands", x.again(1), 3);
        all("as it was kept, lost ones as they are", counts(x), 3, 4, 6, 5, 1, 20, 0, 1);
        due("ball", x.truly(60, 6), ball);
        due("points", x.truly(60, 12), points);
        due("wait as it is", x.line(0, 1, 1), 1);
        due("lost as it is", x.lose(1, 4, true), 1);
        due("not lost", x.lose(0, 8, true), 0);
        all("power, spin, seed as kept, delay not", new int[] {x.rule(0, 1), x.rule(1, 0), x.rule(2, 0), x.rule(3, 0)},
                4, 3, 77, 5);
        x.press(2, 5, 0);
        x.again(1);
        x.again(1);
        x.hold(2, 5, 9, 0);
        due("it stands", x.truly(60, 2), 2);
        x.again(1);
        due("and so it is played", x.truly(9, 2), cell);
        due("and so it is played", x.truly(60, 6), ball);
        due("as often as one likes", x.press(2, 5, 2), 2);
        due("no slot", x.again(4), UNKNOWN);
        due("no slot", x.again(-1), UNKNOWN);
        due("nothing is kept there", x.again(0), STATE);
        due("nothing has changed", x.count(0), 3);
    }

    private static void trying() {
        promise = 29;
        SeaGames x = longKick();
        x.keep(2);
        x.field(5, 5, 6);
        x.rule(1, 0);
        due("ahead of the kick", x.tried(2, 5, 9, 6), 25);
        all("by each power", new int[] {x.tried(2, 1, 10, 6), x.tried(2, 2, 10, 6), x.tried(2, 3, 10, 6),
            x.tried(2, 4, 10, 6), x.tried(2, 5, 10, 6)}, 24, 23, 22, 21, 20);
        due("a hand", x.tried(2, 5, 10, 1), 26);
        due("points", x.tried(2, 5, 9, 11), 10);
        due("the play itself is as it was", x.truly(10, 6), 24);
        due("no slot, told first", x.tried(4, 0, 100, 99), UNKNOWN);
        due("no slot", x.tried(-1, 1, 0, 0), UNKNOWN);
        due("no tick, told ahead of state", x.tried(0, 0, 100, 99), UNKNOWN);
        due("no tick", x.tried(2, 1, -1, 0), UNKNOWN);
        due("nothing is kept, told ahead of bad", x.tried(0, 0, 0, 99), STATE);
        due("power", x.tried(2, 0, 0, 0), BAD);
        due("power", x.tried(2, 6, 0, 0), BAD);
        due("what: there are two hands in it", x.tried(2, 1, 0, 2), BAD);
        due("what", x.tried(2, 1, 0, 12), BAD);
        due("what", x.tried(2, 1, 0, -1), BAD);
    }

    private static void differing() {
        promise = 30;
        SeaGames x = longKick();
        x.keep(0);
        x.rule(0, 5);
        x.keep(1);
        due("its own power", x.differs(0, 2), NONE);
        due("at the kick", x.differs(0, 5), 10);
        due("at the kick", x.differs(0, 1), 10);
        due("its own power", x.differs(1, 5), NONE);
        due("at the kick", x.differs(1, 2), 10);
        x.press(1, 10, 0);
        x.keep(0);
        due("no kick", x.differs(0, 1), NONE);
        due("no slot, told first", x.differs(4, 0), UNKNOWN);
        due("no slot", x.differs(-1, 1), UNKNOWN);
        due("nothing is kept there, told ahead of bad", x.differs(3, 6), STATE);
        due("bad", x.differs(0, 0), BAD);
        due("bad", x.differs(0, 6), BAD);
    }

    private static void counting() {
        promise = 31;
        SeaGames x = new SeaGames();
        x.field(7, 4, 5);
        x.hold(4, 90, 99, 3);
        x.press(0, 0, 5);
        x.press(0, 1, 0);
        x.lose(3, 3, true);
        x.lose(4, 99, true);
        x.leave(0, 10, 20);
        x.leave(4, 15, 100);
        x.player(1, 1);
        x.player(2, 2);
        x.player(3, 3);
        x.keep(3);
        x.keep(3);
        x.keep(0);
        all("counts", counts(x), 5, 7, 4, 11, 2, 95, 3, 2);
        due("bad", x.count(-1), BAD);
        due("bad", x.count(8), BAD);
        due("bad", x.count(HIGH), BAD);
    }
}
