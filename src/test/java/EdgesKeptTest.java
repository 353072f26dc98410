/** The edges of plays that are kept, and of counts, sentence by sentence: promises 27 to 31, section 6 of the terms. */
public final class EdgesKeptTest {
    private static final int UNKNOWN = Due.UNKNOWN, BAD = Due.BAD, STATE = Due.STATE, NONE = Due.NONE;
    private static final int LOW = Due.LOW, HIGH = Due.HIGH;
    private static final int[] NO_SLOTS = {-1, 4, LOW, HIGH};
    private static final int[] NO_TICKS = {-1, 100, LOW, HIGH};
    private static final int[] NO_POWERS = {0, 6, -1, LOW, HIGH};

    public static void main(String[] args) {
        keepsFromNothingToAll();
        keepsInFourSlots();
        keepsInNoSlot();
        keepsAPlayAndNoLines();
        againAsItWasKept();
        againWithOtherHands();
        againWaitsAndLossesAsTheyAre();
        againOfNothing();
        triedByEachPower();
        triedFromLeastToMost();
        triedWhatIsNone();
        differsFromFirstToLast();
        differsNever();
        differsOfNone();
        countsFromNothingToAll();
        countsOfNone();
        Due.end();
    }

    /**
     * The ball spins up to cell 9, below hand 1 in cell 4, behind tick 23, and stays; hand 1 kicks it down at a tick:
     * by power 1 to cell 14, by 2 to 19, by 3 and more to 24.
     */
    private static SeaGames kickAt(int tick) {
        SeaGames x = new SeaGames();
        x.rule(1, 8);
        x.hold(1, 0, 2, 1);
        x.press(1, tick, 5);
        return x;
    }

    // ---- promise 27

    private static void keepsFromNothingToAll() {
        Due.said(27, "THE PLAY is kept in a SLOT: how many PRESSES of it are not 0");
        SeaGames x = new SeaGames();
        Due.is("nothing is pressed", x.keep(0), 0);
        x.press(1, 99, 1);
        Due.is("one", x.keep(0), 1);
        x.press(1, 99, 0);
        Due.is("none again", x.keep(0), 0);
        x.field(9, 9, 6);
        for (int hand = 0; hand < 6; hand++) {
            x.hold(hand, 0, 99, 5);
        }
        Due.is("all that there can be", x.keep(3), 600);
        x.leave(0, 0, 100);
        Due.is("those of left hands too", x.keep(3), 600);
        x.field(9, 9, 6);
        Due.is("gone", x.keep(3), 0);
    }

    private static void keepsInFourSlots() {
        Due.said(0, "SLOTS 0 .. 3 keep a PLAY");
        SeaGames x = new SeaGames();
        for (int slot = 0; slot < 4; slot++) {
            x.field(3 + slot, 9 - slot, 2 + slot);
            x.press(1, slot, 2);
            Due.is("kept so far", x.count(7), slot);
            Due.is("slot " + slot, x.keep(slot), 1);
        }
        Due.is("all four", x.count(7), 4);
        for (int slot = 3; slot >= 0; slot--) {
            Due.is("each has its own", x.again(slot), 2 + slot);
            Due.is("each has its own", x.count(1), 3 + slot);
            Due.is("each has its own", x.count(2), 9 - slot);
            Due.is("each has its own", x.press(1, slot, 2), 2);
            Due.is("each has its own", x.count(3), 1);
        }
        x.press(0, 50, 1);
        Due.is("kept over what was there", x.keep(3), 2);
        Due.is("still four", x.count(7), 4);
        Due.is("it is this one", x.again(3), 2);
        Due.is("the others stand", x.again(2), 4);
    }

    private static void keepsInNoSlot() {
        Due.said(27, "UNKNOWN");
        SeaGames x = new SeaGames();
        x.press(0, 0, 2);
        for (int slot : NO_SLOTS) {
            Due.is("slot " + slot, x.keep(slot), UNKNOWN);
        }
        Due.is("nothing is kept", x.count(7), 0);
        for (int slot = 0; slot < 4; slot++) {
            Due.is("nothing is kept", x.again(slot), STATE);
        }
    }

    private static void keepsAPlayAndNoLines() {
        Due.said(0, "(PRESSES, LEFT ones, HANDS, THE FIELD, POWER, SPIN, SEED; not LINES)");
        SeaGames x = kickAt(30);
        x.rule(0, 5);
        x.rule(2, 4);
        x.leave(0, 98, 100);
        x.keep(1);
        x.press(1, 30, 0);
        x.leave(0, 0, 100);
        x.rule(0, 1);
        x.rule(1, 0);
        x.rule(2, 0);
        x.field(9, 9, 6);
        Due.is("the kick is kept", x.tried(1, 5, 30, 6), 24);
        Due.is("hand 0 is left at the end alone", x.tried(1, 5, 97, 0), 0);
        Due.is("there its way is free", x.tried(1, 5, 98, 0), 1);
        Due.is("its own power", x.differs(1, 5), NONE);
        Due.is("not the one that is set now", x.differs(1, 1), 30);
        Due.is("two hands", x.tried(1, 5, 0, 2), BAD);
        Due.is("nothing of it is in the play", x.count(3), 0);
    }

    // ---- promise 28

    private static void againAsItWasKept() {
        Due.said(28, "THE PLAY is as it was kept (WAITS, LOST ones as they are): how many HANDS");
        SeaGames x = kickAt(30);
        x.rule(0, 5);
        x.rule(2, 4);
        x.leave(0, 98, 100);
        x.keep(0);
        x.field(9, 3, 6);
        x.rule(0, 1);
        x.rule(1, 0);
        x.rule(2, 999);
        x.rule(3, 7);
        x.rule(4, 8);
        x.rule(5, 9);
        x.rule(6, 3);
        Due.is("the play ahead of it", x.truly(99, 6), 26);
        Due.is("two hands", x.again(0), 2);
        Due.is("the first tick", x.truly(0, 1), 2);
        Due.row("counts", Due.counts(x), 2, 5, 5, 4, 0, 2, 0, 1);
        Due.is("the kick", x.truly(30, 6), 24);
        Due.is("power", x.rule(0, 5), 5);
        Due.is("spin", x.rule(1, 8), 8);
        Due.is("seed", x.rule(2, 4), 4);
        Due.is("delay is none of it", x.rule(3, 0), 7);
        Due.is("feel is none of it", x.rule(4, 5), 8);
        Due.is("turn is none of it", x.rule(5, 1), 9);
        Due.is("sight is none of it", x.rule(6, 9), 3);
        x.hold(1, 0, 99, 0);
        Due.is("it can be had again", x.again(0), 2);
        Due.is("it can be had again", x.truly(30, 6), 24);
        Due.is("it is still kept", x.count(7), 1);
    }

    private static void againWithOtherHands() {
        Due.said(28, "how many HANDS");
        SeaGames x = new SeaGames();
        x.field(3, 3, 6);
        x.hold(5, 0, 99, 2);
        x.leave(4, 0, 100);
        x.keep(0);
        x.field(9, 9, 2);
        x.keep(1);
        Due.is("six", x.again(0), 6);
        Due.is("the sixth is there", x.press(5, 99, 2), 2);
        Due.is("what is left", x.count(5), 100);
        Due.is("two", x.again(1), 2);
        Due.is("the third is gone", x.press(2, 0, 0), UNKNOWN);
        Due.row("nothing of the others", Due.counts(x), 2, 9, 9, 0, 0, 0, 0, 2);
        Due.is("cell 80 is there", x.couldBe(0, 1, 0, 80), 0);
        x.again(0);
        Due.is("cell 9 is gone", x.couldBe(0, 1, 0, 9), UNKNOWN);
        Due.is("what is pressed", x.count(3), 100);
    }

    private static void againWaitsAndLossesAsTheyAre() {
        Due.said(28, "(WAITS, LOST ones as they are)");
        SeaGames x = new SeaGames();
        x.line(0, 1, 3);
        x.lose(1, 0, true);
        x.keep(2);
        x.line(0, 1, 8);
        x.lose(1, 0, false);
        x.lose(1, 99, true);
        x.again(2);
        Due.is("the wait is not that of then", x.line(0, 1, 8), 8);
        Due.is("lost then, not now", x.lose(1, 0, false), 0);
        Due.is("lost now, not then", x.lose(1, 99, true), 1);
        Due.is("one", x.count(4), 1);
        x.field(5, 5, 2);
        x.again(2);
        Due.is("gone by another field, and not kept", x.line(0, 1, 0), 0);
        Due.is("gone by another field, and not kept", x.count(4), 0);
    }

    private static void againOfNothing() {
        Due.said(28, "UNKNOWN; STATE: nothing is kept there");
        SeaGames x = new SeaGames();
        x.press(0, 0, 2);
        x.keep(1);
        x.press(0, 1, 2);
        for (int slot : NO_SLOTS) {
            Due.is("slot " + slot, x.again(slot), UNKNOWN);
        }
        for (int slot : new int[] {0, 2, 3}) {
            Due.is("slot " + slot, x.again(slot), STATE);
        }
        Due.is("nothing has changed", x.count(3), 2);
        Due.is("nothing has changed", x.count(7), 1);
    }

    // ---- promise 29

    private static void triedByEachPower() {
        Due.said(29, "TO TRY a SLOT by a POWER: THE TRUE STATE behind a TICK, as truly()");
        SeaGames x = kickAt(99);
        x.keep(3);
        x.field(9, 9, 6);
        int[] cells = {14, 19, 24, 24, 24};
        for (int power = 1; power <= 5; power++) {
            Due.is("ahead of the kick, power " + power, x.tried(3, power, 98, 6), 9);
            Due.is("the last tick, power " + power, x.tried(3, power, 99, 6), cells[power - 1]);
            Due.is("the hand", x.tried(3, power, 99, 1), 4);
            Due.is("points of hand 0", x.tried(3, power, 99, 10), 0);
            Due.is("points of hand 1, which is nearer always", x.tried(3, power, 99, 11), 100);
        }
        Due.is("the play is as it was: spun up to the edge", x.truly(99, 6), 8);
        Due.is("power is as it was", x.rule(0, 2), 2);
    }

    private static void triedFromLeastToMost() {
        Due.said(0, "TO TRY a SLOT by another POWER: THE TRUE STATE behind a TICK");
        SeaGames x = new SeaGames();
        x.field(4, 4, 6);
        x.hold(5, 0, 9, 2);
        x.leave(4, 3, 60);
        x.keep(0);
        for (int tick : new int[] {0, 1, 50, 99}) {
            for (int hand = 0; hand < 6; hand++) {
                Due.is("a hand", x.tried(0, 2, tick, hand), x.truly(tick, hand));
                Due.is("points", x.tried(0, 2, tick, 10 + hand), x.truly(tick, 10 + hand));
            }
            Due.is("the ball", x.tried(0, 2, tick, 6), x.truly(tick, 6));
        }
    }

    private static void triedWhatIsNone() {
        Due.said(29, "UNKNOWN: slot, tick; STATE: nothing is kept there; BAD: power, what");
        SeaGames x = new SeaGames();
        x.field(5, 5, 3);
        x.keep(0);
        x.field(5, 5, 6);
        for (int slot : NO_SLOTS) {
            Due.is("slot " + slot, x.tried(slot, 1, 0, 0), UNKNOWN);
            Due.is("slot " + slot + ", told ahead of bad", x.tried(slot, 0, 0, 7), UNKNOWN);
        }
        for (int tick : NO_TICKS) {
            Due.is("tick " + tick, x.tried(0, 1, tick, 0), UNKNOWN);
            Due.is("tick " + tick + ", told ahead of bad", x.tried(0, 6, tick, 7), UNKNOWN);
            Due.is("tick " + tick + ", told ahead of state", x.tried(1, 1, tick, 0), UNKNOWN);
        }
        for (int power : NO_POWERS) {
            Due.is("power " + power, x.tried(0, power, 0, 0), BAD);
            Due.is("power " + power + ", state is told ahead of it", x.tried(3, power, 0, 0), STATE);
        }
        for (int what = -3; what < 20; what++) {
            boolean told = what >= 0 && what < 3 || what == 6 || what >= 10 && what < 13;
            Due.is("what " + what, x.tried(0, 5, 99, what) == BAD ? 0 : 1, told ? 1 : 0);
            Due.is("what " + what + ", state is told ahead of it", x.tried(2, 5, 99, what), STATE);
        }
        Due.is("far below", x.tried(0, 1, 0, LOW), BAD);
        Due.is("far above", x.tried(0, 1, 0, HIGH), BAD);
    }

    // ---- promise 30

    private static void differsFromFirstToLast() {
        Due.said(30, "The first TICK behind which it is not as by its own POWER; NONE");
        for (int tick : new int[] {24, 30, 98, 99}) {
            SeaGames x = kickAt(tick);
            x.keep(0);
            Due.is("power 1 and 2, at tick " + tick, x.differs(0, 1), tick);
            Due.is("its own power", x.differs(0, 2), NONE);
            for (int power = 3; power <= 5; power++) {
                Due.is("power " + power + " and 2, at tick " + tick, x.differs(0, power), tick);
            }
        }
    }

    private static void differsNever() {
        Due.said(0, "the first TICK behind which it is not as by its own POWER");
        SeaGames x = kickAt(99);
        x.rule(0, 3);
        x.keep(0);
        Due.is("power 3, 4 and 5 come to the same", x.differs(0, 4), NONE);
        Due.is("power 3, 4 and 5 come to the same", x.differs(0, 5), NONE);
        Due.is("2 does not", x.differs(0, 2), 99);
        SeaGames none = new SeaGames();
        none.keep(3);
        for (int power = 1; power <= 5; power++) {
            Due.is("nothing is pressed", none.differs(3, power), NONE);
        }
        SeaGames corner = new SeaGames();
        corner.hold(0, 0, 3, 2);
        corner.hold(0, 4, 6, 1);
        corner.hold(0, 7, 99, 5);
        corner.keep(0);
        for (int power = 1; power <= 5; power++) {
            Due.is("kicks into the corner", corner.differs(0, power), NONE);
        }
    }

    private static void differsOfNone() {
        Due.said(30, "UNKNOWN; STATE; BAD");
        SeaGames x = kickAt(50);
        x.keep(0);
        for (int slot : NO_SLOTS) {
            Due.is("slot " + slot, x.differs(slot, 1), UNKNOWN);
            Due.is("slot " + slot + ", told ahead of bad", x.differs(slot, 6), UNKNOWN);
        }
        for (int power : NO_POWERS) {
            Due.is("power " + power, x.differs(0, power), BAD);
            Due.is("state is told ahead of bad", x.differs(1, power), STATE);
        }
        Due.is("nothing is kept there", x.differs(3, 1), STATE);
    }

    // ---- promise 31

    private static void countsFromNothingToAll() {
        Due.said(31, "0 HANDS, 1 W, 2 H, 3 PRESSES that are not 0, 4 those that are LOST, 5 TICKS at which HANDS are LEFT");
        Due.row("nothing", Due.counts(new SeaGames()), 2, 5, 5, 0, 0, 0, 0, 0);
        SeaGames x = new SeaGames();
        x.field(9, 3, 6);
        for (int hand = 0; hand < 6; hand++) {
            x.hold(hand, 0, 99, 1 + hand % 5);
            x.leave(hand, 0, 100);
        }
        for (int tick = 0; tick < 60; tick++) {
            for (int hand = 0; hand < 6; hand++) {
                x.lose(hand, tick, true);
            }
        }
        for (int i = 0; i < 10; i++) {
            x.player(0, 0);
        }
        for (int slot = 0; slot < 4; slot++) {
            x.keep(slot);
        }
        Due.row("all that there can be", Due.counts(x), 6, 9, 3, 600, 360, 600, 10, 4);
        SeaGames some = new SeaGames();
        some.press(0, 0, 0);
        some.lose(1, 99, true);
        some.leave(0, 99, 100);
        some.leave(1, 0, 1);
        some.keep(2);
        some.keep(2);
        Due.row("a press of 0 is none; a lost one; two ticks; one slot", Due.counts(some), 2, 5, 5, 0, 1, 2, 0, 1);
    }

    private static void countsOfNone() {
        Due.said(31, "BAD");
        SeaGames x = new SeaGames();
        for (int what : new int[] {-1, 8, LOW, HIGH}) {
            Due.is("what " + what, x.count(what), BAD);
        }
    }
}
