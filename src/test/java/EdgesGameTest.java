/** The edges of the game, sentence by sentence: promises 1 to 8, sections 1 and 2 of the terms. */
public final class EdgesGameTest {
    private static final int UNKNOWN = Due.UNKNOWN, BAD = Due.BAD, STATE = Due.STATE, LOW = Due.LOW, HIGH = Due.HIGH;
    private static final int[] LEAST = {1, 0, 0, 0, 0, 0, 0};
    private static final int[] MOST = {5, 9, 999, 9, 99, 99, 9};
    private static final int[] AT_FIRST = {2, 0, 0, 0, 5, 1, 9};
    private static final int[] NO_TICKS = {-1, 100, LOW, HIGH};
    private static final int[] NO_PRESSES = {-1, 6, LOW, HIGH};

    public static void main(String[] args) {
        theConstants();
        newObject();
        nothingIsPressed();
        nothingElseIsThere();
        objectsShareNothing();
        allFields();
        fieldsThatAreNone();
        fieldTakesAway();
        fieldLeaves();
        rulesFromLeastToMost();
        rulesThatAreNone();
        rulesHoldFromTheFirstTickOn();
        pressesFromLeastToMost();
        pressesThatAreNone();
        holdsFromLeastToMost();
        holdsThatAreNone();
        leavesFromLeastToMost();
        leavesThatAreNone();
        leftToOneAhead();
        leftAtNoOthers();
        trulyFromLeastToMost();
        trulyWhatIsNone();
        waysEndAtEdges();
        cellsDoNotWrap();
        handsStandInTheWay();
        pushesOnFourWays();
        pushesThatCannotBe();
        kicksOnFourWays();
        kicksThatCannotBe();
        spinsByTicks();
        spinsByWays();
        spinsThatCannotBe();
        pointsForOneAlone();
        machineBesideTheBall();
        machineByTheFartherWay();
        machineIsHeldUpLikeAHand();
        machineOfNone();
        Due.end();
    }

    /** The ball goes one by x less behind ticks 7, 15, 23, 31: cells 23, 22, 21, 20. */
    private static SeaGames ballGoesLeft() {
        SeaGames x = new SeaGames();
        x.rule(1, 8);
        x.rule(2, 1);
        return x;
    }

    /** The ball goes one by y less behind ticks 7, 15, 23, 31: cells 19, 14, 9, 4. */
    private static SeaGames ballGoesUp() {
        SeaGames x = new SeaGames();
        x.rule(1, 8);
        return x;
    }

    // ---- promise 1

    private static void theConstants() {
        Due.said(0, "UNKNOWN = -1, BAD = -2, STATE = -3, FULL = -4, NONE = -9");
        Due.is("UNKNOWN", SeaGames.UNKNOWN, -1);
        Due.is("BAD", SeaGames.BAD, -2);
        Due.is("STATE", SeaGames.STATE, -3);
        Due.is("FULL", SeaGames.FULL, -4);
        Due.is("NONE", SeaGames.NONE, -9);
    }

    private static void newObject() {
        Due.said(1, "Two HANDS on 5 by 5 CELLS");
        SeaGames x = new SeaGames();
        Due.row("counts", Due.counts(x), 2, 5, 5, 0, 0, 0, 0, 0);
        Due.is("hand 0", x.truly(0, 0), 0);
        Due.is("hand 1", x.truly(0, 1), 1);
        Due.is("no hand 2", x.press(2, 0, 0), UNKNOWN);
        Due.is("the ball in the last cell", x.truly(0, 6), 24);
        Due.is("cell 24", x.couldBe(0, 1, 0, 24), 0);
        Due.is("no cell 25", x.couldBe(0, 1, 0, 25), UNKNOWN);
    }

    private static void nothingIsPressed() {
        Due.said(1, "nothing is pressed");
        SeaGames x = new SeaGames();
        Due.is("presses", x.count(3), 0);
        for (int tick = 0; tick < 100; tick++) {
            Due.is("hand 0, tick " + tick, x.press(0, tick, 5), 0);
            Due.is("hand 1, tick " + tick, x.press(1, tick, 5), 0);
        }
        Due.is("all of them", x.count(3), 200);
    }

    private static void nothingElseIsThere() {
        Due.said(0, "POWER 1 .. 5 (2 at first), SPIN 0 .. 9 (0 at first), SEED 0 .. 999 (0)");
        SeaGames x = new SeaGames();
        for (int what = 0; what < 7; what++) {
            Due.is("rule " + what, x.rule(what, LEAST[what]), AT_FIRST[what]);
        }
        Due.said(0, "a HAND is LEFT (none at first)");
        Due.is("left", x.count(5), 0);
        Due.is("left", x.known(0, 1, 0), 100);
        Due.said(0, "a WAIT 0 .. 9 between two GLASSES (the same both ways; 0 at first)");
        Due.is("wait", x.line(0, 1, 0), 0);
        Due.is("wait", x.line(1, 0, 0), 0);
        for (int slot = 0; slot < 4; slot++) {
            Due.said(28, "STATE: nothing is kept there");
            Due.is("slot " + slot, x.again(slot), STATE);
        }
        Due.said(0, "(0 .. 999; 0 at first; the same both ways; on one SHORE too)");
        for (int a = 0; a < 4; a++) {
            for (int b = 0; b < 4; b++) {
                Due.is("far " + a + ", " + b, x.far(a, b, 0), 0);
            }
        }
        Due.is("no player", x.mate(0), UNKNOWN);
    }

    private static void objectsShareNothing() {
        Due.said(1, "A new object");
        SeaGames one = new SeaGames();
        one.field(9, 9, 6);
        one.rule(0, 5);
        one.hold(0, 0, 99, 5);
        one.leave(1, 0, 100);
        one.line(0, 1, 9);
        one.lose(0, 0, true);
        one.player(1, 1);
        one.far(0, 0, 9);
        one.keep(0);
        newObject();
        nothingElseIsThere();
    }

    // ---- promise 2

    private static void allFields() {
        Due.said(2, "how many CELLS");
        for (int w = 3; w <= 9; w++) {
            for (int h = 3; h <= 9; h++) {
                for (int n = 2; n <= 6; n++) {
                    oneField(w, h, n);
                }
            }
        }
    }

    private static void oneField(int w, int h, int n) {
        String name = w + " by " + h + ", " + n + " hands: ";
        SeaGames x = new SeaGames();
        Due.is(name + "cells", x.field(w, h, n), w * h);
        Due.is(name + "hands", x.count(0), n);
        Due.is(name + "w", x.count(1), w);
        Due.is(name + "h", x.count(2), h);
        for (int hand = 0; hand < n; hand++) {
            Due.is(name + "hand " + hand + " begins in its cell", x.truly(0, hand), hand);
        }
        Due.is(name + "the ball in the last cell", x.truly(0, 6), w * h - 1);
        Due.is(name + "the last hand", x.press(n - 1, 0, 0), 0);
        Due.is(name + "no hand behind it", x.press(n, 0, 0), UNKNOWN);
        Due.is(name + "the last cell", x.couldBe(0, 0, 0, w * h - 1), 0);
        Due.is(name + "no cell behind it", x.couldBe(0, 0, 0, w * h), UNKNOWN);
    }

    private static void fieldsThatAreNone() {
        Due.said(2, "BAD");
        SeaGames x = new SeaGames();
        x.field(4, 7, 3);
        x.press(2, 9, 4);
        for (int side : new int[] {2, 10, 0, -1, -5, LOW, HIGH, 65536}) {
            Due.is("w " + side, x.field(side, 3, 2), BAD);
            Due.is("h " + side, x.field(9, side, 6), BAD);
            Due.is("both " + side, x.field(side, side, 2), BAD);
        }
        for (int n : new int[] {1, 7, 0, -1, LOW, HIGH}) {
            Due.is(n + " hands", x.field(3, 9, n), BAD);
        }
        Due.is("all three", x.field(2, 10, 7), BAD);
        Due.row("nothing has changed", Due.counts(x), 3, 4, 7, 1, 0, 0, 0, 0);
        Due.is("nothing has changed", x.press(2, 9, 4), 4);
    }

    private static void fieldTakesAway() {
        Due.said(2, "PRESSES, LEFT ones, WAITS, LOST ones are gone");
        SeaGames x = new SeaGames();
        x.field(5, 5, 6);
        for (int hand = 0; hand < 6; hand++) {
            x.hold(hand, 0, 99, 1 + hand % 5);
            x.leave(hand, 0, 100);
            x.lose(hand, 0, true);
            x.lose(hand, 99, true);
            for (int other = 0; other < hand; other++) {
                x.line(hand, other, 9);
            }
        }
        Due.row("all that there can be", Due.counts(x), 6, 5, 5, 600, 12, 600, 0, 0);
        x.field(5, 5, 2);
        Due.row("gone, with fewer hands", Due.counts(x), 2, 5, 5, 0, 0, 0, 0, 0);
        x.field(5, 5, 6);
        Due.row("gone, with as many hands again", Due.counts(x), 6, 5, 5, 0, 0, 0, 0, 0);
        for (int hand = 0; hand < 6; hand++) {
            Due.is("press", x.press(hand, 0, 0), 0);
            Due.is("press", x.press(hand, 99, 0), 0);
            Due.is("lost", x.lose(hand, 0, false), 0);
            Due.is("lost", x.lose(hand, 99, false), 0);
            Due.is("left", x.known(hand, hand, 0), 100);
            Due.is("left", x.known(hand, hand, 99), 199);
            for (int other = 0; other < hand; other++) {
                Due.is("wait", x.line(other, hand, 0), 0);
            }
        }
        x.press(0, 0, 2);
        x.leave(0, 99, 100);
        Due.is("the same field again", x.field(5, 5, 6), 25);
        Due.is("the same field again", x.count(3), 0);
        Due.is("the same field again", x.count(5), 0);
    }

    private static void fieldLeaves() {
        Due.said(2, "(RULES, PLAYERS, SLOTS stay)");
        SeaGames x = new SeaGames();
        for (int what = 0; what < 7; what++) {
            x.rule(what, MOST[what]);
        }
        for (int i = 0; i < 10; i++) {
            x.player(i * 100, i % 4);
        }
        x.far(0, 1, 7);
        for (int slot = 0; slot < 4; slot++) {
            x.press(0, slot, 2);
            x.keep(slot);
        }
        x.field(3, 3, 2);
        Due.row("counts", Due.counts(x), 2, 3, 3, 0, 0, 0, 10, 4);
        for (int what = 0; what < 7; what++) {
            Due.is("rule " + what, x.rule(what, LEAST[what]), MOST[what]);
        }
        Due.is("far", x.far(1, 0, 7), 7);
        Due.is("players", x.player(0, 0), Due.FULL);
        Due.is("a slot", x.tried(3, 5, 3, 0), 20);
        Due.is("a slot", x.again(0), 2);
        Due.is("a slot", x.count(3), 1);
    }

    // ---- promise 3

    private static void rulesFromLeastToMost() {
        Due.said(3, "A RULE: 0 POWER, 1 SPIN, 2 SEED, 3 DELAY, 4 FEEL, 5 TURN, 6 SIGHT: what it was");
        for (int what = 0; what < 7; what++) {
            SeaGames x = new SeaGames();
            int was = AT_FIRST[what];
            for (int v = LEAST[what]; v <= Math.min(MOST[what], 400); v++) {
                Due.is("rule " + what + ", " + v, x.rule(what, v), was);
                was = v;
            }
            Due.is("the greatest of rule " + what, x.rule(what, MOST[what]), was);
            Due.is("the same of rule " + what, x.rule(what, MOST[what]), MOST[what]);
            for (int other = 0; other < 7; other++) {
                if (other != what) {
                    Due.is("rule " + other + " is as it was", x.rule(other, AT_FIRST[other]), AT_FIRST[other]);
                }
            }
        }
    }

    private static void rulesThatAreNone() {
        Due.said(3, "BAD");
        SeaGames x = new SeaGames();
        for (int what = 0; what < 7; what++) {
            for (int v : new int[] {LEAST[what] - 1, MOST[what] + 1, LOW, HIGH}) {
                Due.is("rule " + what + ", " + v, x.rule(what, v), BAD);
            }
            Due.is("rule " + what + " is as it was", x.rule(what, AT_FIRST[what]), AT_FIRST[what]);
        }
        for (int what : new int[] {-1, 7, LOW, HIGH}) {
            Due.is("no rule " + what, x.rule(what, 1), BAD);
        }
    }

    private static void rulesHoldFromTheFirstTickOn() {
        Due.said(0, "THE TRUE STATE behind a TICK: by all PRESSES from START on");
        SeaGames x = new SeaGames();
        Due.is("spin 0", x.truly(0, 6), 24);
        Due.is("spin 0", x.truly(99, 6), 24);
        x.rule(2, 1);
        x.rule(1, 1);
        Due.is("spin 1, seed 1: by y less at tick 0", x.truly(0, 6), 19);
        x.rule(2, 2);
        Due.is("seed 2: by x less at tick 0", x.truly(0, 6), 23);
        x.rule(1, 0);
        Due.is("spin 0 again", x.truly(0, 6), 24);
        SeaGames kick = ballGoesLeft();
        kick.hold(0, 0, 3, 2);
        kick.press(0, 24, 5);
        Due.is("power 2", kick.truly(24, 6), 23);
        kick.rule(0, 1);
        Due.is("power 1", kick.truly(24, 6), 22);
    }

    // ---- promise 4

    private static void pressesFromLeastToMost() {
        Due.said(4, "A PRESS: what it was");
        SeaGames x = new SeaGames();
        x.field(3, 3, 6);
        for (int hand : new int[] {0, 5}) {
            for (int tick : new int[] {0, 99}) {
                int was = 0;
                for (int v = 0; v <= 5; v++) {
                    Due.is("press " + v, x.press(hand, tick, v), was);
                    was = v;
                }
                Due.is("the same press", x.press(hand, tick, 5), 5);
            }
        }
        Due.is("only these", x.count(3), 4);
        Due.is("back to nothing", x.press(5, 99, 0), 5);
        Due.is("back to nothing", x.count(3), 3);
    }

    private static void pressesThatAreNone() {
        Due.said(4, "UNKNOWN: hand, tick; BAD");
        SeaGames x = new SeaGames();
        x.press(1, 0, 3);
        x.press(1, 99, 4);
        for (int hand : new int[] {-1, 2, 6, LOW, HIGH}) {
            Due.is("hand " + hand, x.press(hand, 0, 1), UNKNOWN);
            Due.is("hand " + hand + ", told ahead of bad", x.press(hand, 0, 6), UNKNOWN);
        }
        for (int tick : NO_TICKS) {
            Due.is("tick " + tick, x.press(1, tick, 1), UNKNOWN);
            Due.is("tick " + tick + ", told ahead of bad", x.press(1, tick, -1), UNKNOWN);
        }
        for (int v : NO_PRESSES) {
            Due.is("press " + v, x.press(1, 99, v), BAD);
            Due.is("press " + v, x.press(1, 0, v), BAD);
        }
        Due.is("nothing has changed", x.count(3), 2);
        Due.is("nothing has changed", x.press(1, 0, 3), 3);
        Due.is("nothing has changed", x.press(1, 99, 4), 4);
    }

    // ---- promise 5

    private static void holdsFromLeastToMost() {
        Due.said(5, "One PRESS for many TICKS, from one to another one: how many were otherwise");
        SeaGames x = new SeaGames();
        Due.is("the first tick alone", x.hold(0, 0, 0, 1), 1);
        Due.is("the last tick alone", x.hold(0, 99, 99, 5), 1);
        Due.is("nothing between them", x.count(3), 2);
        Due.is("all", x.hold(0, 0, 99, 1), 99);
        Due.is("all again: none was otherwise", x.hold(0, 0, 99, 1), 0);
        Due.is("to nothing", x.hold(0, 0, 99, 0), 100);
        Due.is("nothing again", x.hold(0, 0, 99, 0), 0);
        Due.is("10 to 20", x.hold(0, 10, 20, 4), 11);
        Due.is("not 9", x.press(0, 9, 0), 0);
        Due.is("10", x.press(0, 10, 4), 4);
        Due.is("20", x.press(0, 20, 4), 4);
        Due.is("not 21", x.press(0, 21, 0), 0);
        Due.is("not the other hand", x.hold(1, 0, 99, 0), 0);
        x.field(9, 9, 6);
        for (int hand = 0; hand < 6; hand++) {
            Due.is("hand " + hand, x.hold(hand, 0, 99, 5), 100);
        }
        Due.is("all that there can be", x.count(3), 600);
    }

    private static void holdsThatAreNone() {
        Due.said(5, "UNKNOWN: hand, ticks; BAD: to is below from, press");
        SeaGames x = new SeaGames();
        x.hold(0, 3, 8, 2);
        for (int hand : new int[] {-1, 2, 6, LOW, HIGH}) {
            Due.is("hand " + hand, x.hold(hand, 0, 99, 1), UNKNOWN);
            Due.is("hand " + hand + ", told ahead of bad", x.hold(hand, 9, 8, 6), UNKNOWN);
        }
        for (int tick : NO_TICKS) {
            Due.is("from " + tick, x.hold(0, tick, 99, 1), UNKNOWN);
            Due.is("to " + tick, x.hold(0, 0, tick, 1), UNKNOWN);
            Due.is("from and to " + tick, x.hold(0, tick, tick, 6), UNKNOWN);
        }
        Due.is("from 100 to 0 is unknown ahead of bad", x.hold(0, 100, 0, 1), UNKNOWN);
        Due.is("from 0 to -1 is unknown ahead of bad", x.hold(0, 0, -1, 1), UNKNOWN);
        Due.is("one below", x.hold(0, 5, 4, 1), BAD);
        Due.is("far below", x.hold(0, 99, 0, 1), BAD);
        Due.is("below, and no press", x.hold(0, 5, 4, 6), BAD);
        for (int v : NO_PRESSES) {
            Due.is("press " + v, x.hold(0, 0, 99, v), BAD);
        }
        Due.is("nothing has changed", x.count(3), 6);
        Due.is("nothing has changed", x.hold(0, 3, 8, 2), 0);
    }

    // ---- promise 6

    private static void leavesFromLeastToMost() {
        Due.said(6, "from a TICK (0 .. 100) to one ahead of another one (no less; 100 at most; the same: never)");
        SeaGames x = new SeaGames();
        x.field(9, 9, 6);
        for (int hand = 0; hand < 6; hand++) {
            Due.is("all", x.leave(hand, 0, 100), 100);
        }
        Due.is("all that there can be", x.count(5), 600);
        Due.is("the first alone", x.leave(0, 0, 1), 1);
        Due.is("the first alone", x.count(5), 501);
        Due.is("the last alone", x.leave(1, 99, 100), 1);
        Due.is("the last alone", x.count(5), 402);
        Due.is("the same, 0", x.leave(2, 0, 0), 0);
        Due.is("the same, 0", x.count(5), 302);
        Due.is("the same, 50", x.leave(3, 50, 50), 0);
        Due.is("the same, 50", x.count(5), 202);
        Due.is("the same, 100", x.leave(4, 100, 100), 0);
        Due.is("the same, 100", x.count(5), 102);
        for (int tick = 0; tick < 100; tick++) {
            Due.is("never", x.known(3, 3, tick), 100 + tick);
            Due.is("never", x.known(4, 4, tick), 100 + tick);
        }
    }

    private static void leavesThatAreNone() {
        Due.said(6, "UNKNOWN: hand; BAD");
        SeaGames x = new SeaGames();
        x.leave(1, 10, 15);
        for (int hand : new int[] {-1, 2, 6, LOW, HIGH}) {
            Due.is("hand " + hand, x.leave(hand, 0, 1), UNKNOWN);
            Due.is("hand " + hand + ", told ahead of bad", x.leave(hand, 7, 6), UNKNOWN);
        }
        int[][] bad = {{-1, 100}, {-1, -1}, {0, 101}, {100, 101}, {101, 101}, {101, 100}, {1, 0}, {100, 99}, {100, 0},
            {0, -1}, {LOW, 0}, {LOW, LOW}, {LOW, HIGH}, {0, HIGH}, {HIGH, HIGH}, {HIGH, LOW}, {0, LOW}};
        for (int[] row : bad) {
            Due.is("from " + row[0] + " to " + row[1], x.leave(1, row[0], row[1]), BAD);
        }
        Due.is("nothing has changed", x.count(5), 5);
        Due.is("nothing has changed", x.known(0, 1, 10) + x.known(0, 1, 14), 0);
        Due.is("nothing has changed", x.known(0, 1, 9), 109);
        Due.is("nothing has changed", x.known(0, 1, 15), 115);
    }

    private static void leftToOneAhead() {
        Due.said(0, "From a TICK to one ahead of another one a HAND is LEFT");
        SeaGames x = new SeaGames();
        x.leave(1, 2, 4);
        Due.is("behind tick 1 it has not gone", x.truly(1, 1), 1);
        Due.is("behind tick 2 the machine has gone by y", x.truly(2, 1), 6);
        Due.is("behind tick 3 by x", x.truly(3, 1), 7);
        Due.is("behind tick 4 no more", x.truly(4, 1), 7);
        x.leave(1, 99, 100);
        Due.is("not ahead of the last tick", x.truly(98, 1), 1);
        Due.is("in the last tick", x.truly(99, 1), 6);
        x.leave(1, 0, 1);
        Due.is("in the first tick", x.truly(0, 1), 6);
        Due.is("not behind it", x.truly(99, 1), 6);
    }

    private static void leftAtNoOthers() {
        Due.said(6, "and at no others: how many TICKS");
        SeaGames x = new SeaGames();
        x.leave(1, 0, 50);
        Due.is("behind those", x.leave(1, 60, 63), 3);
        Due.is("only these", x.count(5), 3);
        Due.is("not 0", x.known(1, 1, 0), 100);
        Due.is("not 59", x.known(1, 1, 59), 159);
        Due.is("60", x.known(1, 1, 60), 0);
        Due.is("62", x.known(1, 1, 62), 0);
        Due.is("not 63", x.known(1, 1, 63), 163);
        Due.is("the other hand at none", x.known(1, 0, 60), 160);
        Due.is("the press comes back", x.press(1, 60, 2), 0);
        x.leave(1, 7, 7);
        Due.is("never", x.count(5), 0);
        Due.is("now the press is played", x.truly(60, 1), 6);
    }

    // ---- promise 7

    private static void trulyFromLeastToMost() {
        Due.said(7, "THE TRUE STATE behind a TICK");
        SeaGames x = new SeaGames();
        x.field(9, 9, 6);
        for (int hand = 0; hand < 6; hand++) {
            for (int tick = 0; tick < 99; tick += 14) {
                Due.is("a hand that presses nothing", x.truly(tick, hand), hand);
            }
        }
        Due.is("the ball behind tick 0", x.truly(0, 6), 80);
        Due.is("the ball behind tick 99", x.truly(99, 6), 80);
        Due.is("points behind tick 0", x.truly(0, 15), 1);
        Due.is("points behind tick 99: as many as can be", x.truly(99, 15), 100);
        x.press(5, 99, 2);
        Due.is("the last press, ahead of it", x.truly(98, 5), 5);
        Due.is("the last press", x.truly(99, 5), 14);
        x.press(5, 0, 2);
        Due.is("the first press", x.truly(0, 5), 14);
        Due.is("both", x.truly(99, 5), 23);
    }

    private static void trulyWhatIsNone() {
        Due.said(7, "UNKNOWN: tick; BAD: what");
        for (int n = 2; n <= 6; n++) {
            SeaGames x = new SeaGames();
            x.field(4, 4, n);
            for (int what = -3; what < 20; what++) {
                boolean told = what >= 0 && what < n || what == 6 || what >= 10 && what < 10 + n;
                Due.is(n + " hands, what " + what, x.truly(0, what) == BAD ? 0 : 1, told ? 1 : 0);
            }
            Due.is("far below", x.truly(0, LOW), BAD);
            Due.is("far above", x.truly(0, HIGH), BAD);
            for (int tick : NO_TICKS) {
                Due.is("tick " + tick, x.truly(tick, 6), UNKNOWN);
                Due.is("tick " + tick + ", told ahead of bad", x.truly(tick, 7), UNKNOWN);
            }
        }
    }

    private static void waysEndAtEdges() {
        Due.said(0, "it goes to the CELL there, if that is on THE FIELD and no HAND is in it");
        int[][] sides = {{3, 3}, {3, 9}, {9, 3}, {9, 9}, {5, 7}};
        for (int[] side : sides) {
            int w = side[0];
            int h = side[1];
            String name = w + " by " + h + ": ";
            SeaGames x = new SeaGames();
            x.field(w, h, 2);
            x.hold(1, 0, 19, 1);
            x.hold(1, 20, 39, 2);
            x.hold(1, 40, 59, 3);
            x.hold(1, 60, 79, 4);
            Due.is(name + "one ahead of the edge", x.truly(w - 4 >= 0 ? w - 4 : 0, 1), w >= 4 ? w - 2 : 2);
            Due.is(name + "at the edge by x more", x.truly(w - 3, 1), w - 1);
            Due.is(name + "no farther", x.truly(19, 1), w - 1);
            Due.is(name + "ahead of the ball, which cannot go on", x.truly(39, 1), (h - 2) * w + w - 1);
            Due.is(name + "the ball", x.truly(39, 6), h * w - 1);
            Due.is(name + "at the edge by x less", x.truly(59, 1), (h - 2) * w);
            Due.is(name + "below the other hand", x.truly(79, 1), w);
            x.hold(0, 0, 99, 4);
            Due.is(name + "at the edge by y less", x.truly(99, 0), 0);
            x.hold(1, 0, 99, 0);
            x.hold(0, 0, 99, 2);
            Due.is(name + "at the edge by y more", x.truly(99, 0), (h - 1) * w);
        }
    }

    private static void cellsDoNotWrap() {
        Due.said(0, "if that is on THE FIELD");
        SeaGames x = ballGoesLeft();
        x.hold(1, 0, 2, 1);
        x.hold(1, 3, 5, 2);
        Due.is("hand 1 in cell 19, at the right edge", x.truly(31, 1), 19);
        Due.is("the ball in cell 20, at the left edge", x.truly(31, 6), 20);
        x.press(1, 32, 1);
        Due.is("it does not go to cell 20", x.truly(32, 1), 19);
        Due.is("nor push the ball", x.truly(32, 6), 20);
        x.press(1, 32, 5);
        Due.is("nor kick it", x.truly(32, 6), 20);
        Due.is("nor is it beside the machine", x.machine(1, 31), 3);
        Due.is("nor does the ball spin on to cell 19", x.truly(39, 6), 20);
        SeaGames up = ballGoesUp();
        up.hold(0, 0, 3, 2);
        up.press(0, 8, 3);
        up.press(0, 9, 5);
        Due.is("hand 0 in cell 20", up.truly(7, 0), 20);
        Due.is("the ball in cell 19", up.truly(7, 6), 19);
        Due.is("it does not go to cell 19", up.truly(8, 0), 20);
        Due.is("nor kick the ball", up.truly(9, 6), 19);
        Due.is("nor is it beside the machine", up.machine(0, 7), 1);
        SeaGames rows = new SeaGames();
        rows.field(3, 3, 6);
        rows.press(3, 0, 3);
        rows.press(2, 0, 1);
        Due.is("hand 3 begins at the left edge", rows.truly(0, 3), 3);
        Due.is("hand 2 begins at the right edge", rows.truly(0, 2), 2);
    }

    private static void handsStandInTheWay() {
        Due.said(0, "A TICK t: HAND by HAND, 0 first");
        SeaGames x = new SeaGames();
        x.press(0, 0, 1);
        x.press(1, 0, 1);
        Due.is("hand 1 is not gone when hand 0's turn comes", x.truly(0, 0), 0);
        Due.is("hand 1 goes", x.truly(0, 1), 2);
        x.press(0, 1, 1);
        x.press(1, 1, 3);
        Due.is("hand 0 has the cell", x.truly(1, 0), 1);
        Due.is("so hand 1 stays", x.truly(1, 1), 2);
        SeaGames row = new SeaGames();
        row.field(9, 3, 6);
        for (int hand = 0; hand < 6; hand++) {
            row.press(hand, 0, 1);
            row.press(hand, 1, 3);
        }
        for (int hand = 0; hand < 6; hand++) {
            Due.is("only the last of six goes", row.truly(0, hand), hand == 5 ? 6 : hand);
            Due.is("and comes back", row.truly(1, hand), hand);
        }
    }

    private static void pushesOnFourWays() {
        Due.said(0, "if THE BALL is in it, THE BALL goes one on that WAY first");
        SeaGames right = ballGoesLeft();
        right.hold(0, 0, 3, 2);
        right.hold(0, 24, 27, 1);
        Due.is("ahead of it", right.truly(23, 6), 21);
        Due.is("x more: the ball", right.truly(24, 6), 22);
        Due.is("x more: the hand", right.truly(24, 0), 21);
        Due.is("to the edge: the ball", right.truly(26, 6), 24);
        Due.is("to the edge: the hand", right.truly(26, 0), 23);
        Due.is("no farther: the ball", right.truly(27, 6), 24);
        Due.is("no farther: the hand", right.truly(27, 0), 23);
        SeaGames down = ballGoesUp();
        down.hold(1, 0, 2, 1);
        down.press(1, 24, 2);
        Due.is("y more: the ball", down.truly(24, 6), 14);
        Due.is("y more: the hand", down.truly(24, 1), 9);
        SeaGames left = ballGoesLeft();
        left.hold(1, 0, 2, 1);
        left.hold(1, 3, 5, 2);
        left.press(1, 8, 2);
        left.hold(1, 9, 14, 3);
        Due.is("x less: the ball", left.truly(9, 6), 22);
        Due.is("x less: the hand", left.truly(9, 1), 23);
        Due.is("to the edge: the ball", left.truly(14, 6), 20);
        Due.is("to the edge: the hand", left.truly(14, 1), 21);
        SeaGames up = ballGoesUp();
        up.hold(0, 0, 3, 2);
        up.hold(0, 4, 6, 1);
        up.press(0, 8, 1);
        up.hold(0, 9, 14, 4);
        Due.is("y less: the ball", up.truly(9, 6), 14);
        Due.is("y less: the hand", up.truly(9, 0), 19);
        Due.is("to the edge: the ball", up.truly(14, 6), 4);
        Due.is("to the edge: the hand", up.truly(14, 0), 9);
    }

    /** The ball in cell 21 from tick 23 to tick 30, hand 0 at its left, hand 1 at its right from tick 24 on. */
    private static SeaGames ballBetweenHands() {
        SeaGames x = ballGoesLeft();
        x.hold(0, 0, 3, 2);
        x.press(1, 0, 1);
        x.hold(1, 1, 3, 2);
        x.press(1, 24, 2);
        return x;
    }

    private static void pushesThatCannotBe() {
        Due.said(0, "if that is on THE FIELD and no HAND is there; else the HAND stays");
        SeaGames x = ballBetweenHands();
        x.press(0, 25, 1);
        x.press(1, 26, 3);
        x.press(1, 27, 3);
        Due.is("hand 1 in cell 22", x.truly(24, 1), 22);
        Due.is("hand 1 is behind the ball: hand 0 stays", x.truly(25, 0), 20);
        Due.is("the ball stays", x.truly(25, 6), 21);
        Due.is("hand 0 is behind the ball: hand 1 stays", x.truly(26, 1), 22);
        SeaGames corner = new SeaGames();
        corner.hold(0, 0, 3, 2);
        corner.hold(0, 4, 99, 1);
        Due.is("beside the corner", corner.truly(6, 0), 23);
        Due.is("the ball cannot leave the field", corner.truly(99, 6), 24);
        Due.is("so the hand stays", corner.truly(99, 0), 23);
    }

    private static int kickedRight(int power) {
        SeaGames x = ballGoesLeft();
        x.rule(0, power);
        x.hold(0, 0, 3, 2);
        x.press(0, 24, 5);
        Due.is("the hand stays", x.truly(24, 0), 20);
        return x.truly(24, 6);
    }

    private static int kickedDown(int power) {
        SeaGames x = ballGoesUp();
        x.rule(0, power);
        x.hold(1, 0, 2, 1);
        x.press(1, 24, 5);
        Due.is("the hand stays", x.truly(24, 1), 4);
        return x.truly(24, 6);
    }

    private static int kickedLeft(int power) {
        SeaGames x = ballGoesLeft();
        x.rule(0, power);
        x.hold(1, 0, 2, 1);
        x.hold(1, 3, 5, 2);
        x.press(1, 8, 2);
        x.press(1, 9, 5);
        Due.is("the hand stays", x.truly(9, 1), 24);
        return x.truly(9, 6);
    }

    private static int kickedUp(int power) {
        SeaGames x = ballGoesUp();
        x.rule(0, power);
        x.hold(0, 0, 3, 2);
        x.hold(0, 4, 6, 1);
        x.press(0, 8, 1);
        x.press(0, 9, 5);
        Due.is("the hand stays", x.truly(9, 0), 24);
        return x.truly(9, 6);
    }

    private static void kicksOnFourWays() {
        Due.said(0, "it goes on by that WAY, CELL by CELL, POWER times at most, as long as the next one is on THE FIELD");
        int[] right = {22, 23, 24, 24, 24};
        int[] down = {14, 19, 24, 24, 24};
        int[] left = {22, 21, 20, 20, 20};
        int[] up = {14, 9, 4, 4, 4};
        for (int power = 1; power <= 5; power++) {
            Due.is("x more, power " + power, kickedRight(power), right[power - 1]);
            Due.is("y more, power " + power, kickedDown(power), down[power - 1]);
            Due.is("x less, power " + power, kickedLeft(power), left[power - 1]);
            Due.is("y less, power " + power, kickedUp(power), up[power - 1]);
        }
    }

    private static void kicksThatCannotBe() {
        Due.said(0, "By a KICK: if THE BALL is in the CELL by one of the WAYS");
        SeaGames x = ballBetweenHands();
        x.press(0, 25, 5);
        x.press(1, 26, 5);
        Due.is("hand 1 is there", x.truly(25, 6), 21);
        Due.is("hand 0 is there", x.truly(26, 6), 21);
        SeaGames slant = ballGoesUp();
        slant.hold(0, 0, 3, 2);
        slant.hold(0, 4, 6, 1);
        slant.press(0, 8, 5);
        Due.is("hand 0 in cell 23, the ball in 19", slant.truly(7, 6), 19);
        Due.is("on the slant it is not beside", slant.truly(8, 6), 19);
        SeaGames two = ballGoesUp();
        two.hold(0, 0, 2, 2);
        two.hold(0, 3, 4, 1);
        two.press(0, 8, 5);
        Due.is("hand 0 in cell 17", two.truly(7, 0), 17);
        Due.is("two cells off it is not beside", two.truly(8, 6), 19);
        SeaGames far = new SeaGames();
        far.field(9, 3, 2);
        far.rule(0, 5);
        far.rule(1, 8);
        far.rule(2, 1);
        far.hold(0, 0, 1, 2);
        far.hold(1, 0, 6, 1);
        far.press(1, 7, 2);
        far.press(1, 8, 2);
        far.press(1, 9, 5);
        Due.is("power 5, as far as it goes", far.truly(9, 6), 20);
        far.hold(0, 2, 3, 1);
        Due.is("one ahead of hand 0", far.truly(9, 6), 21);
    }

    private static void spinsByTicks() {
        Due.said(0, "if SPIN is above 0 and divides t + 1");
        for (int spin = 1; spin <= 9; spin++) {
            SeaGames x = new SeaGames();
            x.rule(1, spin);
            // the seed by which the first spin goes by x less: 31 seed + 17 (spin - 1) is 2 modulo 4
            int seed = (spin + 1) % 4;
            x.rule(2, seed);
            if (spin > 1) {
                Due.is("spin " + spin + ", ahead of it", x.truly(spin - 2, 6), 24);
            }
            Due.is("spin " + spin, x.truly(spin - 1, 6), 23);
        }
        SeaGames never = new SeaGames();
        for (int seed = 0; seed < 4; seed++) {
            never.rule(2, seed);
            Due.is("spin 0: never", never.truly(99, 6), 24);
        }
        SeaGames last = new SeaGames();
        last.field(3, 3, 2);
        last.rule(1, 5);
        last.rule(2, 3);
        // ticks 4, 9, 14, 19 go by ways 2 (off the field), 3, 4, 1; so it is each twenty ticks
        Due.is("spin 5 at tick 99, ahead of it", last.truly(98, 6), 4);
        Due.is("spin 5 at tick 99", last.truly(99, 6), 5);
    }

    private static void spinsByWays() {
        Due.said(0, "with k (31 SEED and 17 t) modulo 4, THE BALL goes one by WAY k + 1");
        int[] behindThree = {19, 23, 24, 24};
        for (int seed = 0; seed < 4; seed++) {
            SeaGames x = new SeaGames();
            x.rule(1, 4);
            x.rule(2, seed);
            Due.is("seed " + seed, x.truly(3, 6), behindThree[seed]);
            x.rule(2, seed + 996);
            Due.is("seed " + (seed + 996), x.truly(3, 6), behindThree[seed]);
        }
        SeaGames x = new SeaGames();
        x.rule(1, 1);
        x.rule(2, 999);
        int[] row = new int[9];
        for (int t = 0; t < 9; t++) {
            row[t] = x.truly(t, 6);
        }
        Due.row("spin 1, seed 999: ways 2, 3, 4, 1, 2, ..", row, 24, 23, 18, 19, 24, 23, 18, 19, 24);
    }

    private static void spinsThatCannotBe() {
        Due.said(0, "if that is on THE FIELD and no HAND is there. Then");
        SeaGames left = ballGoesLeft();
        Due.is("the last step", left.truly(31, 6), 20);
        Due.is("at the edge by x less", left.truly(99, 6), 20);
        SeaGames up = ballGoesUp();
        Due.is("the last step", up.truly(31, 6), 4);
        Due.is("at the edge by y less", up.truly(99, 6), 4);
        up.hold(1, 0, 2, 1);
        Due.is("below hand 1", up.truly(23, 6), 9);
        Due.is("no farther", up.truly(99, 6), 9);
        SeaGames x = new SeaGames();
        x.rule(1, 8);
        x.rule(2, 3);
        Due.is("at the edge by x more", x.truly(99, 6), 24);
        x.rule(2, 2);
        Due.is("at the edge by y more", x.truly(99, 6), 24);
    }

    private static void pointsForOneAlone() {
        Due.said(0, "has a POINT more, if it is nearer than all others");
        SeaGames x = new SeaGames();
        x.field(3, 3, 6);
        Due.is("hand 5 is beside the ball, alone", x.truly(99, 15), 100);
        x.press(4, 0, 2);
        Due.is("hand 4 is beside it too: none", x.truly(99, 15), 0);
        Due.is("hand 4 is beside it too: none", x.truly(99, 14), 0);
        x.press(5, 99, 4);
        Due.is("hand 2 is in the way", x.truly(99, 5), 5);
        SeaGames first = new SeaGames();
        first.press(0, 0, 2);
        first.press(1, 0, 3);
        Due.is("hand 0 is nearer from the first tick on", first.truly(0, 10), 1);
        Due.is("as many points as can be", first.truly(99, 10), 100);
        Due.said(0, "START: as it begins, no POINTS");
        SeaGames y = new SeaGames();
        y.press(0, 0, 2);
        Due.is("both are 7 away: none", y.truly(0, 10) + y.truly(0, 11), 0);
        Due.said(0, "Then the HAND that is nearest to THE BALL");
        SeaGames spun = ballGoesLeft();
        spun.hold(0, 0, 3, 2);
        spun.hold(0, 4, 5, 1);
        spun.hold(1, 0, 2, 1);
        spun.hold(1, 3, 5, 2);
        Due.is("hand 0 in cell 22", spun.truly(6, 0), 22);
        Due.is("hand 1 in cell 19, nearest to 24", spun.truly(6, 11) - spun.truly(5, 11), 1);
        Due.is("the ball spins first, then hand 0 is nearest", spun.truly(7, 10) - spun.truly(6, 10), 1);
        Due.is("and hand 1 no more", spun.truly(7, 11) - spun.truly(6, 11), 0);
    }

    // ---- promise 8

    private static void machineBesideTheBall() {
        Due.said(0, "a KICK if THE BALL is in a CELL by a WAY");
        SeaGames right = ballGoesLeft();
        right.hold(0, 0, 3, 2);
        Due.is("two cells off, by x", right.machine(0, 22), 1);
        Due.is("at its right", right.machine(0, 23), 5);
        SeaGames down = ballGoesUp();
        down.hold(1, 0, 2, 1);
        Due.is("two cells off, by y", down.machine(1, 22), 2);
        Due.is("below it", down.machine(1, 23), 5);
        SeaGames left = ballGoesLeft();
        left.hold(1, 0, 2, 1);
        left.hold(1, 3, 5, 2);
        left.press(1, 8, 2);
        Due.is("on the slant, by x", left.machine(1, 7), 3);
        Due.is("at its left", left.machine(1, 8), 5);
        Due.is("two cells off, by x", left.machine(1, 15), 3);
        SeaGames up = ballGoesUp();
        up.hold(0, 0, 3, 2);
        up.hold(0, 4, 6, 1);
        up.press(0, 8, 1);
        Due.is("on the slant, by x", up.machine(0, 7), 1);
        Due.is("above it", up.machine(0, 8), 5);
        Due.is("two cells off, by y", up.machine(0, 15), 4);
    }

    private static void machineByTheFartherWay() {
        Due.said(0, "else by x if THE BALL is at least as far by x as by y, else by y, towards it");
        SeaGames x = new SeaGames();
        Due.is("4 by x, 4 by y", x.machine(0, 0), 1);
        Due.is("3 by x, 4 by y", x.machine(1, 0), 2);
        x.press(0, 0, 2);
        Due.is("4 by x, 3 by y", x.machine(0, 0), 1);
        SeaGames left = ballGoesLeft();
        left.press(1, 0, 1);
        left.press(1, 1, 1);
        left.press(1, 40, 1);
        Due.is("-3 by x, 4 by y", left.machine(1, 31), 2);
        Due.is("-4 by x, 4 by y", left.machine(1, 40), 3);
        Due.is("0 by x, 4 by y", left.machine(0, 31), 2);
        SeaGames up = ballGoesUp();
        up.hold(0, 0, 3, 2);
        up.press(0, 40, 1);
        up.hold(0, 50, 52, 1);
        Due.is("4 by x, -4 by y", up.machine(0, 31), 1);
        Due.is("3 by x, -4 by y", up.machine(0, 40), 4);
        Due.is("0 by x, -4 by y", up.machine(0, 52), 4);
        Due.is("3 by x, 0 by y", up.machine(1, 31), 1);
        Due.said(8, "What the MACHINE would press for a HAND behind a TICK of THE TRUE play");
        Due.is("behind the first tick", x.machine(1, 0), 2);
        Due.is("behind the last tick", x.machine(1, 99), 2);
    }

    private static void machineIsHeldUpLikeAHand() {
        Due.said(0, "a MACHINE plays for it");
        SeaGames x = new SeaGames();
        x.leave(0, 0, 100);
        Due.is("hand 1 is in its way", x.truly(99, 0), 0);
        x.press(1, 99, 2);
        Due.is("its turn comes ahead of hand 1's", x.truly(99, 0), 0);
        SeaGames both = new SeaGames();
        both.leave(0, 0, 1);
        both.leave(1, 0, 1);
        both.hold(0, 0, 99, 3);
        Due.is("its press is not played while it is left", both.truly(0, 0), 0);
        Due.is("both are left: hand 1 goes by y", both.truly(0, 1), 6);
        Due.said(0, "(it acts by THE STATE when its turn comes)");
        SeaGames turn = ballGoesLeft();
        turn.hold(0, 0, 3, 2);
        turn.hold(0, 4, 5, 1);
        turn.hold(1, 0, 2, 1);
        turn.hold(1, 3, 5, 2);
        turn.press(0, 8, 1);
        turn.leave(1, 8, 9);
        Due.is("behind tick 7 it would go by x", turn.machine(1, 7), 3);
        Due.is("hand 0 pushes the ball below it: it kicks, and stays", turn.truly(8, 1), 19);
        Due.is("the ball is in the corner", turn.truly(8, 6), 24);
    }

    private static void machineOfNone() {
        Due.said(8, "UNKNOWN");
        SeaGames x = new SeaGames();
        for (int hand : new int[] {-1, 2, 6, LOW, HIGH}) {
            Due.is("hand " + hand, x.machine(hand, 0), UNKNOWN);
        }
        for (int tick : NO_TICKS) {
            Due.is("tick " + tick, x.machine(0, tick), UNKNOWN);
        }
        x.field(3, 3, 6);
        Due.is("the last of six", x.machine(5, 99), 5);
        Due.is("none behind it", x.machine(6, 99), UNKNOWN);
    }
}
