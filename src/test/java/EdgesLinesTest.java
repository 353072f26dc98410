/** The edges of lines and glasses, sentence by sentence: promises 9 to 18, section 3 of the terms. */
public final class EdgesLinesTest {
    private static final int UNKNOWN = Due.UNKNOWN, BAD = Due.BAD, STATE = Due.STATE, NONE = Due.NONE;
    private static final int LOW = Due.LOW, HIGH = Due.HIGH;
    private static final int[] NO_TICKS = {-1, 100, LOW, HIGH};
    private static final int[] NO_HANDS = {-1, 2, 6, LOW, HIGH};

    public static void main(String[] args) {
        waitsFromLeastToMost();
        waitsThatAreNone();
        lossesFromLeastToMost();
        lossesThatAreNone();
        knownFromLeastToMost();
        knownOfLostOnes();
        knownAlways();
        knownOfNone();
        takesWhenItIsKnown();
        takesTheGuess();
        takesFromLeastToMost();
        takesOfNone();
        shownFromLeastToMost();
        shownByGuesses();
        shownWhatIsNone();
        backAtTheFirstClock();
        backByTheLeastTick();
        backFromLeastToMost();
        backOfNone();
        agreedFromNoneToTheClock();
        agreedOfNone();
        wrongFromNoneToAll();
        wrongOneBehindAnother();
        wrongOfNone();
        pricesFromLeastToMost();
        pricesOfNone();
        bestOfLikeOnes();
        bestFromLeastToMost();
        bestOfNone();
        Due.end();
    }

    private static SeaGames withWait(int wait) {
        SeaGames x = new SeaGames();
        x.line(0, 1, wait);
        return x;
    }

    /** Hand 1 presses 2 at odd ticks and 1 at even ones, so that no guess of the next press is right. */
    private static SeaGames restless(int wait) {
        SeaGames x = withWait(wait);
        x.hold(1, 0, 99, 1);
        for (int tick = 1; tick < 100; tick += 2) {
            x.press(1, tick, 2);
        }
        return x;
    }

    // ---- promise 9

    private static void waitsFromLeastToMost() {
        Due.said(9, "WAIT of two GLASSES: what it was");
        SeaGames x = new SeaGames();
        x.field(9, 9, 6);
        for (int a = 0; a < 6; a++) {
            for (int b = 0; b < a; b++) {
                Due.is("at first", x.line(a, b, 9), 0);
                Due.is("the greatest", x.line(a, b, 0), 9);
                Due.is("the least", x.line(a, b, (a * 3 + b) % 10), 0);
            }
        }
        Due.said(0, "a WAIT 0 .. 9 between two GLASSES (the same both ways; 0 at first)");
        for (int a = 0; a < 6; a++) {
            for (int b = 0; b < a; b++) {
                int wait = (a * 3 + b) % 10;
                Due.is("each line has its own", x.line(b, a, wait), wait);
                Due.is("one way", x.known(a, b, 0), 100 + wait);
                Due.is("the other way", x.known(b, a, 0), 100 + wait);
            }
        }
    }

    private static void waitsThatAreNone() {
        Due.said(9, "UNKNOWN; BAD: v; STATE: they are one");
        SeaGames x = withWait(4);
        for (int glass : NO_HANDS) {
            Due.is("glass " + glass, x.line(glass, 1, 0), UNKNOWN);
            Due.is("glass " + glass, x.line(1, glass, 0), UNKNOWN);
            Due.is("no glass, told ahead of bad", x.line(0, glass, 10), UNKNOWN);
            Due.is("no glass, told ahead of state and bad", x.line(glass, glass, -1), UNKNOWN);
            Due.is("no glass, told ahead of state", x.line(glass, glass, 1), UNKNOWN);
        }
        for (int v : new int[] {-1, 10, LOW, HIGH}) {
            Due.is("v " + v, x.line(0, 1, v), BAD);
            Due.is("v " + v + ", told ahead of state", x.line(1, 1, v), BAD);
        }
        Due.is("they are one", x.line(0, 0, 0), STATE);
        Due.is("they are one", x.line(1, 1, 9), STATE);
        Due.is("nothing has changed", x.line(0, 1, 4), 4);
        Due.is("nothing has changed", x.known(0, 0, 0), 100);
        Due.is("nothing has changed", x.known(1, 1, 0), 100);
    }

    // ---- promise 10

    private static void lossesFromLeastToMost() {
        Due.said(10, "A PRESS is LOST, or not: how it was: 1, 0");
        SeaGames x = new SeaGames();
        x.field(3, 3, 4);
        for (int hand = 0; hand < 4; hand++) {
            for (int tick = 0; tick < 100; tick++) {
                Due.is("it was not", x.lose(hand, tick, true), 0);
            }
        }
        Due.is("all that there can be of four", x.count(4), 400);
        Due.is("it was", x.lose(3, 99, false), 1);
        Due.is("it is no more", x.lose(3, 99, false), 0);
        Due.is("one less", x.count(4), 399);
        Due.said(0, "A PRESS may be LOST (once)");
        SeaGames once = withWait(2);
        once.lose(1, 5, true);
        Due.is("again", once.lose(1, 5, true), 1);
        Due.is("once", once.count(4), 1);
        Due.is("once", once.known(0, 1, 5), 112);
        Due.is("found", once.lose(1, 5, false), 1);
        Due.is("found", once.known(0, 1, 5), 107);
        once.field(9, 9, 6);
        Due.is("the last press of six hands", once.lose(5, 99, true), 0);
        Due.is("the last press of six hands", once.lose(5, 99, true), 1);
        Due.is("that of no other hand", once.lose(4, 99, true), 0);
        Due.is("the first press", once.lose(0, 0, true), 0);
    }

    private static void lossesThatAreNone() {
        Due.said(10, "UNKNOWN");
        SeaGames x = new SeaGames();
        x.lose(1, 0, true);
        for (int hand : NO_HANDS) {
            Due.is("hand " + hand, x.lose(hand, 0, true), UNKNOWN);
            Due.is("hand " + hand, x.lose(hand, 0, false), UNKNOWN);
        }
        for (int tick : NO_TICKS) {
            Due.is("tick " + tick, x.lose(0, tick, true), UNKNOWN);
            Due.is("tick " + tick, x.lose(1, tick, false), UNKNOWN);
        }
        Due.is("nothing has changed", x.count(4), 1);
        Due.is("nothing has changed", x.lose(0, 99, true), 0);
        Due.is("nothing has changed", x.lose(1, 0, true), 1);
    }

    // ---- promise 11

    private static void knownFromLeastToMost() {
        Due.said(11, "The CLOCK at which a PRESS is KNOWN on a GLASS, and 100 more");
        for (int delay = 0; delay <= 9; delay++) {
            for (int wait = 0; wait <= 9; wait++) {
                SeaGames x = withWait(wait);
                x.rule(3, delay);
                Due.is("own, tick 0", x.known(0, 0, 0), 100 - delay);
                Due.is("own, tick 99", x.known(1, 1, 99), 199 - delay);
                Due.is("other, tick 0", x.known(0, 1, 0), 100 - delay + wait);
                Due.is("other, tick 99", x.known(1, 0, 99), 199 - delay + wait);
            }
        }
        Due.said(0, "(CLOCKS below 0 are ahead of all.");
        SeaGames x = withWait(8);
        x.rule(3, 9);
        x.press(1, 0, 2);
        Due.is("a clock below 0", x.known(0, 1, 0), 99);
        Due.is("it is known at clock 0", x.takes(0, 0, 1, 0), 2);
        x.line(0, 1, 9);
        Due.is("clock 0", x.known(0, 1, 0), 100);
        Due.is("it is known at clock 0", x.takes(0, 0, 1, 0), 2);
        x.rule(3, 8);
        Due.is("clock 1", x.known(0, 1, 0), 101);
        Due.is("it is not known at clock 0", x.takes(0, 0, 1, 0), 0);
    }

    private static void knownOfLostOnes() {
        Due.said(0, "or, if it is LOST, three times WAIT and 1 later");
        for (int wait = 0; wait <= 9; wait++) {
            SeaGames x = withWait(wait);
            x.lose(1, 0, true);
            x.lose(1, 99, true);
            Due.is("lost, wait " + wait, x.known(0, 1, 0), 100 + 3 * wait + 1);
            Due.is("lost, wait " + wait, x.known(0, 1, 99), 199 + 3 * wait + 1);
            Due.is("not lost", x.known(0, 1, 1), 101 + wait);
            Due.is("not lost, of the other hand", x.known(1, 0, 0), 100 + wait);
            Due.said(0, "KNOWN on its own GLASS then");
            Due.is("lost, on its own glass", x.known(1, 1, 0), 100);
        }
        SeaGames most = withWait(9);
        most.lose(1, 99, true);
        Due.is("the greatest of all", most.known(0, 1, 99), 227);
    }

    private static void knownAlways() {
        Due.said(11, "0: always");
        SeaGames x = withWait(9);
        x.lose(1, 10, true);
        x.leave(1, 10, 12);
        for (int glass = 0; glass < 2; glass++) {
            Due.is("left, and lost", x.known(glass, 1, 10), 0);
            Due.is("left", x.known(glass, 1, 11), 0);
            Due.is("the other hand is not", x.known(glass, 0, 10), glass == 0 ? 110 : 119);
        }
        Due.is("ahead of those", x.known(1, 1, 9), 109);
        Due.is("behind them", x.known(1, 1, 12), 112);
        x.rule(3, 9);
        Due.is("always, whatever the delay is", x.known(0, 1, 11), 0);
        x.leave(1, 0, 100);
        Due.is("the first tick", x.known(0, 1, 0), 0);
        Due.is("the last tick", x.known(0, 1, 99), 0);
        x.leave(1, 10, 10);
        Due.is("never left: lost", x.known(0, 1, 10), 129);
    }

    private static void knownOfNone() {
        Due.said(11, "UNKNOWN: glass, hand, tick");
        SeaGames x = new SeaGames();
        x.leave(0, 0, 100);
        x.leave(1, 0, 100);
        for (int hand : NO_HANDS) {
            Due.is("glass " + hand, x.known(hand, 0, 0), UNKNOWN);
            Due.is("hand " + hand, x.known(0, hand, 0), UNKNOWN);
        }
        for (int tick : NO_TICKS) {
            Due.is("tick " + tick, x.known(0, 1, tick), UNKNOWN);
        }
        Due.is("none at all", x.known(2, 2, 100), UNKNOWN);
    }

    // ---- promise 12

    private static void takesWhenItIsKnown() {
        Due.said(0, "the PRESS, if it is KNOWN then");
        for (int wait = 0; wait <= 9; wait++) {
            SeaGames x = withWait(wait);
            x.press(1, 30, 4);
            x.press(1, 40, 3);
            x.lose(1, 40, true);
            Due.is("known now", x.takes(0, 30 + wait, 1, 30), 4);
            Due.is("known, at the last clock", x.takes(0, 99, 1, 30), 4);
            if (wait > 0) {
                Due.is("a clock too early", x.takes(0, 30 + wait - 1, 1, 30), 0);
            }
            Due.is("lost: known now", x.takes(0, 41 + 3 * wait, 1, 40), 3);
            Due.is("lost: a clock too early", x.takes(0, 40 + 3 * wait, 1, 40), 0);
            Due.is("on its own glass at once", x.takes(1, 40, 1, 40), 3);
        }
    }

    private static void takesTheGuess() {
        Due.said(0, "that of the greatest TICK below t that is KNOWN of it then (0, if it is LEFT at that), or 0");
        SeaGames x = withWait(3);
        x.press(1, 0, 4);
        x.press(1, 1, 3);
        x.press(1, 2, 1);
        Due.is("nothing is known: 0", x.takes(0, 2, 1, 0), 0);
        Due.is("nothing is known: 0", x.takes(0, 2, 1, 2), 0);
        Due.is("tick 0 is known", x.takes(0, 3, 1, 0), 4);
        Due.is("the guess from tick 0 for tick 1", x.takes(0, 3, 1, 1), 4);
        Due.is("the guess from tick 0 for tick 3", x.takes(0, 3, 1, 3), 4);
        Due.is("the guess from tick 1, the greatest", x.takes(0, 4, 1, 4), 3);
        x.lose(1, 1, true);
        Due.is("tick 1 is lost: the guess from tick 0", x.takes(0, 4, 1, 4), 4);
        Due.is("tick 2 is known ahead of tick 1", x.takes(0, 5, 1, 5), 1);
        Due.is("that is above tick 1, for which tick 0 stands", x.takes(0, 10, 1, 1), 4);
        Due.is("now it is known", x.takes(0, 11, 1, 1), 3);
        x.lose(1, 0, true);
        Due.is("the first is lost: nothing below it", x.takes(0, 9, 1, 0), 0);
        Due.is("so tick 1 is not known either", x.takes(0, 9, 1, 1), 0);
        x.leave(1, 2, 3);
        Due.is("left at tick 2: its press there", x.takes(0, 4, 1, 2), 1);
        Due.is("the guess from it is 0", x.takes(0, 4, 1, 3), 0);
        Due.is("the guess from it is 0", x.takes(0, 4, 1, 4), 0);
        Due.is("at clock 3 too", x.takes(0, 3, 1, 3), 0);
        Due.is("below it all is as it was", x.takes(0, 4, 1, 1), 0);
    }

    private static void takesFromLeastToMost() {
        Due.said(12, "What a GLASS takes at a CLOCK (0 .. 99) as a PRESS");
        SeaGames x = new SeaGames();
        x.field(4, 4, 6);
        x.press(5, 0, 5);
        x.press(5, 99, 4);
        Due.is("the first clock and tick", x.takes(5, 0, 5, 0), 5);
        Due.is("the last clock, the first tick", x.takes(0, 99, 5, 0), 5);
        Due.is("the last clock and tick", x.takes(0, 99, 5, 99), 4);
        Due.is("the tick is the clock", x.takes(0, 50, 5, 50), 0);
        x.line(0, 5, 1);
        Due.is("a clock too early", x.takes(0, 99, 5, 99), 0);
        Due.is("not for another glass", x.takes(4, 99, 5, 99), 4);
    }

    private static void takesOfNone() {
        Due.said(12, "UNKNOWN: glass, hand, clock, tick (0 .. clock)");
        SeaGames x = new SeaGames();
        for (int hand : NO_HANDS) {
            Due.is("glass " + hand, x.takes(hand, 5, 0, 0), UNKNOWN);
            Due.is("hand " + hand, x.takes(0, 5, hand, 0), UNKNOWN);
        }
        for (int clock : NO_TICKS) {
            Due.is("clock " + clock, x.takes(0, clock, 0, 0), UNKNOWN);
            Due.is("clock and tick " + clock, x.takes(0, clock, 0, clock), UNKNOWN);
            Due.is("tick " + clock, x.takes(0, 99, 0, clock), UNKNOWN);
        }
        for (int clock : new int[] {0, 1, 50, 98}) {
            Due.is("the tick is the clock", x.takes(0, clock, 1, clock), 0);
            Due.is("the tick is one above the clock", x.takes(0, clock, 1, clock + 1), UNKNOWN);
        }
    }

    // ---- promise 13

    private static void shownFromLeastToMost() {
        Due.said(13, "SHOWN on a GLASS at a CLOCK, as truly()");
        for (int glass = 0; glass < 6; glass++) {
            SeaGames x = new SeaGames();
            x.field(4, 4, 6);
            x.hold(5, 0, 3, 2);
            x.leave(4, 0, 100);
            for (int clock : new int[] {0, 1, 50, 99}) {
                for (int hand = 0; hand < 6; hand++) {
                    Due.is("a hand", x.shown(glass, clock, hand), x.truly(clock, hand));
                    Due.is("points", x.shown(glass, clock, 10 + hand), x.truly(clock, 10 + hand));
                }
                Due.is("the ball", x.shown(glass, clock, 6), x.truly(clock, 6));
            }
        }
    }

    private static void shownByGuesses() {
        Due.said(0, "THE STATE behind TICK c by what it takes (the MACHINE for those that are LEFT)");
        SeaGames x = withWait(9);
        x.press(1, 0, 2);
        Due.is("own glass, the first clock", x.shown(1, 0, 1), 6);
        Due.is("not known", x.shown(0, 0, 1), 1);
        Due.is("not known, points too", x.shown(0, 8, 11), 9);
        Due.is("known, and the guess goes on", x.shown(0, 9, 1), 21);
        Due.is("the next one is known: nothing", x.shown(0, 10, 1), 6);
        x.press(1, 99, 2);
        Due.is("the last clock", x.shown(0, 99, 1), 6);
        Due.is("the last clock, own glass", x.shown(1, 99, 1), 11);
        SeaGames left = withWait(9);
        left.leave(1, 0, 100);
        for (int clock : new int[] {0, 1, 2, 3, 99}) {
            Due.is("the machine is shown at once", left.shown(0, clock, 1), left.truly(clock, 1));
        }
        left.leave(1, 0, 1);
        left.hold(1, 0, 20, 3);
        Due.is("behind the machine nothing is guessed", left.shown(0, 5, 1), 6);
        Due.is("but truly it goes by x less", left.truly(5, 1), 5);
    }

    private static void shownWhatIsNone() {
        Due.said(13, "UNKNOWN: glass, clock; BAD");
        for (int n = 2; n <= 6; n++) {
            SeaGames x = new SeaGames();
            x.field(4, 4, n);
            for (int what = -3; what < 20; what++) {
                boolean told = what >= 0 && what < n || what == 6 || what >= 10 && what < 10 + n;
                Due.is(n + " hands, what " + what, x.shown(n - 1, 0, what) == BAD ? 0 : 1, told ? 1 : 0);
            }
            Due.is("far below", x.shown(0, 0, LOW), BAD);
            Due.is("far above", x.shown(0, 0, HIGH), BAD);
            Due.is("no glass", x.shown(n, 0, 0), UNKNOWN);
            Due.is("no glass", x.shown(-1, 0, 0), UNKNOWN);
            Due.is("no glass, told ahead of bad", x.shown(n, 0, 7), UNKNOWN);
            for (int clock : NO_TICKS) {
                Due.is("clock " + clock, x.shown(0, clock, 6), UNKNOWN);
                Due.is("clock " + clock + ", told ahead of bad", x.shown(0, clock, -1), UNKNOWN);
            }
        }
    }

    // ---- promise 14

    private static void backAtTheFirstClock() {
        Due.said(0, "It GOES BACK at CLOCK c (above 0) by c - t");
        SeaGames x = restless(0);
        for (int clock = 0; clock < 100; clock += 9) {
            Due.is("no wait, clock " + clock, x.back(0, clock), 0);
        }
        x.rule(3, 9);
        Due.is("clock 0, delay 9", x.back(0, 0), 0);
        x.line(0, 1, 9);
        Due.is("clock 0, delay 9, wait 9", x.back(0, 0), 0);
        x.rule(3, 0);
        Due.is("clock 0", x.back(0, 0), 0);
        x.line(0, 1, 1);
        Due.is("clock 0, wait 1", x.back(0, 0), 0);
        Due.is("clock 1, wait 1", x.back(0, 1), 1);
        Due.is("not the glass of the hand itself", x.back(1, 1), 0);
    }

    private static void backByTheLeastTick() {
        Due.said(0, "if t is the least TICK below c of which it takes some PRESS otherwise than at CLOCK c - 1; else by 0");
        SeaGames x = new SeaGames();
        x.field(5, 5, 3);
        x.line(0, 1, 2);
        x.line(0, 2, 5);
        x.press(1, 13, 1);
        x.press(2, 10, 1);
        Due.is("tick 10 of hand 2 and tick 13 of hand 1 come at once: the least", x.back(0, 15), 5);
        x.press(2, 10, 0);
        Due.is("tick 13 alone", x.back(0, 15), 2);
        Due.is("then it is nothing again", x.back(0, 16), 2);
        Due.is("as guessed", x.back(0, 17), 0);
        x.press(1, 14, 1);
        Due.is("the next one is as guessed", x.back(0, 16), 0);
        Due.is("the one behind it is not", x.back(0, 17), 2);
        x.leave(1, 13, 15);
        Due.is("left: known always", x.back(0, 15), 0);
        SeaGames lost = withWait(2);
        lost.hold(1, 10, 12, 4);
        lost.lose(1, 10, true);
        Due.is("tick 10 does not come", lost.back(0, 12), 0);
        Due.is("tick 11 does", lost.back(0, 13), 2);
        Due.is("tick 10 comes, otherwise than tick 9 was", lost.back(0, 17), 7);
        SeaGames later = withWait(1);
        later.press(1, 10, 1);
        later.lose(1, 10, true);
        later.lose(1, 11, true);
        Due.is("tick 12 comes as guessed, for tick 10 is not known yet", later.back(0, 13), 0);
        Due.is("tick 10 comes", later.back(0, 14), 4);
        lost.press(1, 9, 4);
        Due.is("tick 10 comes as guessed", lost.back(0, 17), 0);
    }

    private static void backFromLeastToMost() {
        Due.said(14, "By how much it GOES BACK");
        for (int wait = 1; wait <= 9; wait++) {
            SeaGames x = restless(wait);
            Due.is("a clock too early, wait " + wait, x.back(0, wait - 1), 0);
            Due.is("the first press, wait " + wait, x.back(0, wait), wait);
            Due.is("the last clock, wait " + wait, x.back(0, 99), wait);
            for (int delay = 1; delay <= 9; delay++) {
                x.rule(3, delay);
                Due.is("wait " + wait + ", delay " + delay, x.back(0, 50), Math.max(0, wait - delay));
            }
        }
        SeaGames x = withWait(9);
        x.press(1, 71, 5);
        x.lose(1, 71, true);
        Due.is("a clock too early", x.back(0, 98), 0);
        Due.is("as far as can be, at the last clock", x.back(0, 99), 28);
        x.rule(3, 9);
        Due.is("by 19 with delay 9", x.back(0, 90), 19);
        SeaGames none = withWait(9);
        for (int clock = 0; clock < 100; clock++) {
            Due.is("nothing is pressed, clock " + clock, none.back(0, clock), 0);
        }
    }

    private static void backOfNone() {
        Due.said(14, "UNKNOWN");
        SeaGames x = restless(3);
        for (int glass : NO_HANDS) {
            Due.is("glass " + glass, x.back(glass, 5), UNKNOWN);
        }
        for (int clock : NO_TICKS) {
            Due.is("clock " + clock, x.back(0, clock), UNKNOWN);
        }
    }

    // ---- promise 15

    private static void agreedFromNoneToTheClock() {
        Due.said(0, "the greatest TICK (c at most) up to which all PRESSES are KNOWN there; NONE");
        for (int wait = 0; wait <= 9; wait++) {
            SeaGames x = withWait(wait);
            if (wait > 0) {
                Due.is("none, wait " + wait, x.agreed(0, wait - 1), NONE);
                Due.is("none, wait " + wait, x.agreed(0, 0), NONE);
            }
            Due.is("the first, wait " + wait, x.agreed(0, wait), 0);
            Due.is("the last, wait " + wait, x.agreed(1, 99), 99 - wait);
            x.rule(3, 9);
            Due.is("no more than the clock", x.agreed(0, 0), 0);
            Due.is("no more than the clock", x.agreed(0, 99), 99);
        }
        SeaGames x = withWait(1);
        x.lose(1, 0, true);
        Due.is("tick 0 is lost: none", x.agreed(0, 3), NONE);
        Due.is("it is there, and all up to tick 3", x.agreed(0, 4), 3);
        Due.is("the other glass", x.agreed(1, 3), 2);
        x.lose(1, 0, false);
        x.leave(1, 50, 60);
        Due.is("left ticks are known", x.agreed(0, 50), 50);
        Due.is("behind those", x.agreed(0, 60), 59);
        x.leave(1, 0, 100);
        Due.is("all are left", x.agreed(0, 0), 0);
        Due.is("but not those of hand 0 on the other glass", x.agreed(1, 0), NONE);
    }

    private static void agreedOfNone() {
        Due.said(15, "UNKNOWN");
        SeaGames x = new SeaGames();
        for (int glass : NO_HANDS) {
            Due.is("glass " + glass, x.agreed(glass, 5), UNKNOWN);
        }
        for (int clock : NO_TICKS) {
            Due.is("clock " + clock, x.agreed(0, clock), UNKNOWN);
        }
    }

    // ---- promise 16

    /** Truly hand 1 is in cells 2, 3, 2, 3, ..; glass 0 shows it in cell 1 or 4 at every clock. */
    private static SeaGames wrongAlways() {
        SeaGames x = withWait(9);
        x.hold(1, 0, 99, 1);
        for (int tick = 2; tick < 100; tick += 2) {
            x.press(1, tick, 3);
        }
        return x;
    }

    private static void wrongFromNoneToAll() {
        Due.said(16, "At how many CLOCKS 0 .. m it is WRONG (run = false), the most of them one behind another");
        SeaGames x = wrongAlways();
        for (int m : new int[] {0, 1, 8, 9, 10, 50, 98, 99}) {
            Due.is("all, m " + m, x.wrong(0, m, false), m + 1);
            Due.is("all, m " + m, x.wrong(0, m, true), m + 1);
            Due.is("the other glass: none", x.wrong(1, m, false), 0);
            Due.is("the other glass: none", x.wrong(1, m, true), 0);
        }
        x.hold(1, 0, 99, 0);
        Due.is("nothing is pressed: none", x.wrong(0, 99, false), 0);
        Due.is("nothing is pressed: none", x.wrong(0, 99, true), 0);
        x.press(1, 99, 1);
        Due.is("not up to clock 98", x.wrong(0, 98, false), 0);
        Due.is("at the last clock alone", x.wrong(0, 99, false), 1);
        Due.is("at the last clock alone", x.wrong(0, 99, true), 1);
        x.hold(1, 0, 99, 1);
        x.leave(1, 0, 100);
        Due.is("left: none", x.wrong(0, 99, false), 0);
    }

    private static void wrongOneBehindAnother() {
        Due.said(16, "the most of them one behind another");
        SeaGames x = withWait(4);
        x.press(1, 10, 1);
        x.press(1, 30, 2);
        Due.is("10 to 14, 30 to 34", x.wrong(0, 99, false), 10);
        Due.is("five together", x.wrong(0, 99, true), 5);
        Due.is("cut off at 11", x.wrong(0, 11, true), 2);
        Due.is("the first ones stay the most", x.wrong(0, 31, true), 5);
        Due.is("and all are counted", x.wrong(0, 31, false), 7);
        x.press(1, 10, 0);
        Due.is("the second ones alone", x.wrong(0, 99, true), 5);
        x.press(1, 10, 4);
        Due.is("a press by which it stays is no wrong", x.wrong(0, 29, false), 0);
        Due.said(0, "It is WRONG at CLOCK c, if SHOWN is not THE TRUE STATE behind TICK c");
        SeaGames points = withWait(3);
        points.press(0, 0, 2);
        points.press(0, 1, 4);
        Due.is("hand 0 is where it is shown", points.truly(1, 0), points.shown(1, 1, 0));
        Due.is("but there is a point less", points.truly(1, 11), points.shown(1, 1, 11) - 1);
        Due.is("so it is wrong", points.wrong(1, 2, false), 3);
    }

    private static void wrongOfNone() {
        Due.said(16, "UNKNOWN: glass, m (0 .. 99)");
        SeaGames x = wrongAlways();
        for (boolean run : new boolean[] {false, true}) {
            for (int glass : NO_HANDS) {
                Due.is("glass " + glass, x.wrong(glass, 5, run), UNKNOWN);
            }
            for (int m : NO_TICKS) {
                Due.is("m " + m, x.wrong(0, m, run), UNKNOWN);
            }
        }
    }

    // ---- promise 17

    private static void pricesFromLeastToMost() {
        Due.said(0, "FEEL (0 .. 99; 5 at first) times DELAY times HANDS times m + 1, and TURN (0 .. 99; 1 at first)");
        SeaGames x = restless(9);
        Due.is("delay 0, m 0", x.price(0, 0), 0);
        Due.is("delay 0, m 8: nothing has come", x.price(0, 8), 0);
        Due.is("delay 0, m 9", x.price(0, 9), 9);
        Due.is("delay 0, m 99: 91 times 9", x.price(0, 99), 819);
        Due.is("delay 8, m 99: 99 times 1", x.price(8, 99), 5 * 8 * 2 * 100 + 99);
        Due.is("delay 9, m 0", x.price(9, 0), 90);
        Due.is("delay 9, m 99", x.price(9, 99), 9000);
        x.rule(3, 9);
        Due.is("not by the delay that is set", x.price(0, 99), 819);
        x.rule(4, 0);
        Due.is("feel 0", x.price(9, 99), 0);
        Due.is("feel 0", x.price(0, 99), 819);
        x.rule(5, 99);
        Due.is("turn 99", x.price(0, 99), 81081);
        x.rule(5, 0);
        Due.is("turn 0", x.price(0, 99), 0);
        x.rule(4, 99);
        Due.is("feel 99", x.price(9, 99), 178200);
        x.field(9, 9, 6);
        Due.is("six hands", x.price(9, 99), 534600);
        Due.said(0, "all by which GLASSES GO BACK");
        SeaGames all = new SeaGames();
        all.field(5, 5, 3);
        all.line(0, 1, 1);
        all.line(0, 2, 2);
        all.press(0, 50, 1);
        Due.is("glass 1 twice by 1, glass 2 twice by 2", all.price(0, 99), 1 + 1 + 2 + 2);
        Due.is("delay 1", all.price(1, 99), 5 * 3 * 100 + 1 + 1);
        Due.is("cut off at 51", all.price(0, 51), 1);
    }

    private static void pricesOfNone() {
        Due.said(17, "BAD: delay; UNKNOWN: m");
        SeaGames x = new SeaGames();
        for (int delay : new int[] {-1, 10, LOW, HIGH}) {
            Due.is("delay " + delay, x.price(delay, 0), BAD);
            for (int m : NO_TICKS) {
                Due.is("m " + m, x.price(9, m), UNKNOWN);
                Due.is("bad is told ahead of unknown", x.price(delay, m), BAD);
            }
        }
    }

    // ---- promise 18

    private static void bestOfLikeOnes() {
        Due.said(0, "of 0 .. 9 that of least PRICE, of like ones the least");
        SeaGames x = restless(4);
        x.rule(4, 0);
        x.rule(5, 0);
        Due.is("all cost 0", x.best(99), 0);
        x.rule(5, 1);
        Due.is("4 to 9 cost 0", x.best(99), 4);
        x.rule(4, 1);
        x.rule(5, 2);
        Due.is("m 3: nothing has come, the least", x.best(3), 0);
        SeaGames like = withWait(2);
        like.press(1, 0, 2);
        like.rule(4, 1);
        like.rule(5, 4);
        // delay 0: back by 2 at clocks 2 and 3, 16; delay 1: 2 (m + 1) and back by 1 twice, 8 + 8; delay 2: 16
        Due.is("delay 0", like.price(0, 3), 16);
        Due.is("delay 1", like.price(1, 3), 16);
        Due.is("delay 2", like.price(2, 3), 16);
        Due.is("of like ones the least", like.best(3), 0);
        like.rule(5, 5);
        Due.is("then the greatest of the three", like.best(3), 2);
        like.rule(5, 3);
        Due.is("then the least of the three", like.best(3), 0);
    }

    private static void bestFromLeastToMost() {
        Due.said(18, "THE BEST DELAY");
        for (int wait = 0; wait <= 9; wait++) {
            SeaGames x = restless(wait);
            x.rule(4, 0);
            Due.is("wait " + wait, x.best(99), wait);
            Due.is("m 0, wait " + wait, x.best(0), 0);
            x.rule(3, 9);
            Due.is("not by the delay that is set", x.best(99), wait);
            x.rule(4, 99);
            Due.is("feel 99", x.best(99), 0);
        }
        SeaGames x = withWait(9);
        x.rule(4, 0);
        Due.is("nothing is pressed", x.best(99), 0);
        x.press(1, 5, 1);
        x.lose(1, 5, true);
        x.lose(1, 6, true);
        Due.is("nine is the greatest", x.best(99), 9);
    }

    private static void bestOfNone() {
        Due.said(18, "UNKNOWN: m");
        SeaGames x = restless(1);
        for (int m : NO_TICKS) {
            Due.is("m " + m, x.best(m), UNKNOWN);
        }
    }
}
