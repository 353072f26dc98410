/** The edges of sight, sentence by sentence: promises 19 to 21, section 4 of the terms. */
public final class EdgesSightTest {
    private static final int UNKNOWN = Due.UNKNOWN, LOW = Due.LOW, HIGH = Due.HIGH;
    private static final int[] NO_TICKS = {-1, 100, LOW, HIGH};
    private static final int[] NO_HANDS = {-1, 2, 6, LOW, HIGH};

    public static void main(String[] args) {
        seesAsFarAsSight();
        seesBehindATick();
        seesItself();
        seesNone();
        couldFromOneToAll();
        couldGoBesideOrStay();
        couldNotWrap();
        couldBeWhereOthersAre();
        couldBeThereAlone();
        couldNotBeInCellsThatAreSeen();
        couldOfNone();
        couldBeInEveryCell();
        couldBeOfNone();
        Due.end();
    }

    /** 9 by 9, hand 0 in cell 0; hand 1 is 2, 3, .. 8 away behind ticks 0 .. 6, then goes down: 9, 10, .. 16. */
    private static SeaGames awayAndAway() {
        SeaGames x = new SeaGames();
        x.field(9, 9, 2);
        x.hold(1, 0, 6, 1);
        x.hold(1, 7, 13, 2);
        return x;
    }

    // ---- promise 19

    private static void seesAsFarAsSight() {
        Due.said(0, "SIGHT 0 .. 9 (9 at first): a HAND sees CELLS that are SIGHT away at most, by x and y together");
        SeaGames x = awayAndAway();
        Due.is("9 at first: 9 away", x.sees(0, 1, 7), 1);
        Due.is("9 at first: 10 away", x.sees(0, 1, 8), 0);
        Due.is("9 at first: 15 away", x.sees(0, 1, 13), 0);
        for (int sight = 2; sight <= 9; sight++) {
            x.rule(6, sight);
            Due.is("sight " + sight + ": as far", x.sees(0, 1, sight - 2), 1);
            Due.is("sight " + sight + ": as far, the other way", x.sees(1, 0, sight - 2), 1);
            Due.is("sight " + sight + ": one farther", x.sees(0, 1, sight - 1), 0);
            Due.is("sight " + sight + ": one farther, the other way", x.sees(1, 0, sight - 1), 0);
        }
        SeaGames near = new SeaGames();
        near.rule(6, 1);
        Due.is("sight 1: beside", near.sees(0, 1, 0), 1);
        near.press(1, 1, 2);
        Due.is("sight 1: on the slant", near.sees(0, 1, 1), 0);
        near.rule(6, 0);
        Due.is("sight 0: beside", near.sees(0, 1, 0), 0);
    }

    private static void seesBehindATick() {
        Due.said(19, "Whether a HAND sees another one behind a TICK of THE TRUE play: 1, 0");
        SeaGames x = new SeaGames();
        x.rule(6, 1);
        x.press(1, 0, 1);
        x.press(1, 99, 3);
        Due.is("behind the first tick it is away", x.sees(0, 1, 0), 0);
        Due.is("behind tick 98", x.sees(0, 1, 98), 0);
        Due.is("behind the last tick it is back", x.sees(0, 1, 99), 1);
        x.line(0, 1, 9);
        Due.is("truly, whatever the glass shows", x.sees(0, 1, 0), 0);
        x.leave(1, 0, 100);
        Due.is("the machine has gone down", x.sees(0, 1, 0), 0);
    }

    private static void seesItself() {
        Due.said(0, "from its own");
        SeaGames x = new SeaGames();
        x.field(3, 3, 6);
        x.rule(6, 0);
        for (int hand = 0; hand < 6; hand++) {
            for (int other = 0; other < 6; other++) {
                Due.is("sight 0: its own cell alone", x.sees(hand, other, 99), hand == other ? 1 : 0);
            }
        }
    }

    private static void seesNone() {
        Due.said(19, "UNKNOWN");
        SeaGames x = new SeaGames();
        for (int hand : NO_HANDS) {
            Due.is("hand " + hand, x.sees(hand, 0, 0), UNKNOWN);
            Due.is("other " + hand, x.sees(0, hand, 0), UNKNOWN);
            Due.is("both " + hand, x.sees(hand, hand, 0), UNKNOWN);
        }
        for (int tick : NO_TICKS) {
            Due.is("tick " + tick, x.sees(0, 1, tick), UNKNOWN);
        }
    }

    // ---- promise 20

    private static void couldFromOneToAll() {
        Due.said(20, "In how many CELLS another HAND COULD be, as far as a HAND knows");
        SeaGames x = new SeaGames();
        x.field(9, 9, 2);
        Due.is("it is seen: one", x.could(0, 1, 0), 1);
        Due.is("it is seen: one", x.could(0, 1, 99), 1);
        x.rule(6, 0);
        Due.is("all but its own cell", x.could(0, 1, 99), 80);
        Due.is("all but its own cell", x.could(1, 0, 99), 80);
        Due.is("itself: one", x.could(0, 0, 99), 1);
        for (int w = 3; w <= 9; w++) {
            x.field(w, 12 - w, 3);
            Due.is(w + " wide: all but its own cell", x.could(2, 0, 99), w * (12 - w) - 1);
        }
    }

    private static void couldGoBesideOrStay() {
        Due.said(0, "at START it is known; in each TICK it COULD go to a CELL beside or stay");
        SeaGames x = new SeaGames();
        x.field(9, 9, 2);
        x.rule(6, 0);
        Due.is("one tick: cells 1, 2, 10, not 0", x.could(0, 1, 0), 3);
        Due.is("two ticks: 3 of row 0, 3 of row 1, 1 of row 2", x.could(0, 1, 1), 7);
        Due.is("one tick: cells 0, 9, not 1", x.could(1, 0, 0), 2);
        Due.is("two ticks: 0, 9, 10, 18", x.could(1, 0, 1), 4);
        x.hold(1, 0, 20, 1);
        Due.is("wherever it goes then", x.truly(99, 1), 8);
        Due.is("at START it is known", x.could(0, 1, 0), 3);
        Due.is("it is beside its first cell", x.couldBe(0, 1, 0, 10), 1);
        Due.is("not where it goes later", x.couldBe(0, 1, 0, 8), 0);
        x.field(9, 9, 6);
        int[] row0 = new int[9];
        for (int cell = 0; cell < 9; cell++) {
            row0[cell] = x.couldBe(1, 4, 0, cell);
        }
        Due.row("hand 4 could be in 3, 4, 5 and 13", row0, 0, 0, 0, 1, 1, 1, 0, 0, 0);
        Due.is("hand 4 could be in 3, 4, 5 and 13", x.could(1, 4, 0), 4);
        Due.is("hand 4 could be in 3, 4, 5 and 13", x.couldBe(1, 4, 0, 13), 1);
        SeaGames corner = new SeaGames();
        corner.field(3, 3, 2);
        corner.rule(6, 0);
        int[] row = new int[6];
        for (int tick = 0; tick < 6; tick++) {
            row[tick] = corner.could(0, 1, tick);
        }
        Due.row("3 by 3: full behind the third tick", row, 3, 6, 8, 8, 8, 8);
    }

    private static void couldNotWrap() {
        Due.said(0, "a CELL beside");
        SeaGames x = new SeaGames();
        x.field(3, 3, 4);
        x.rule(6, 0);
        int[] row = new int[9];
        for (int cell = 0; cell < 9; cell++) {
            row[cell] = x.couldBe(1, 3, 0, cell);
        }
        Due.row("hand 3 begins at the left edge: 2 is not beside", row, 1, 0, 0, 1, 1, 0, 1, 0, 0);
        for (int cell = 0; cell < 9; cell++) {
            row[cell] = x.couldBe(0, 2, 0, cell);
        }
        Due.row("hand 2 begins at the right edge: 3 is not beside", row, 0, 1, 1, 0, 0, 1, 0, 0, 0);
    }

    private static void couldBeWhereOthersAre() {
        Due.said(0, "(whoever is there)");
        SeaGames x = new SeaGames();
        x.field(3, 3, 6);
        x.rule(6, 0);
        Due.is("hand 2 is there", x.couldBe(0, 1, 0, 2), 1);
        Due.is("hand 4 is there", x.couldBe(0, 1, 0, 4), 1);
        Due.is("the ball is there", x.couldBe(0, 5, 0, 8), 1);
        Due.is("hand 5 could be in 2, 4, 5, 8", x.could(0, 5, 0), 4);
        Due.is("all six are about: all but one", x.could(0, 5, 99), 8);
    }

    private static void couldBeThereAlone() {
        Due.said(0, "then, if b sees it, it COULD be there alone");
        SeaGames x = awayAndAway();
        Due.is("9 away: there alone", x.could(0, 1, 7), 1);
        Due.is("there", x.couldBe(0, 1, 7, 17), 1);
        Due.is("not where it was", x.couldBe(0, 1, 7, 8), 0);
        SeaGames back = new SeaGames();
        back.rule(6, 2);
        back.hold(1, 0, 9, 1);
        back.hold(1, 20, 29, 3);
        Due.is("unseen for long", back.couldBe(0, 1, 20, 24), 1);
        Due.is("seen again: alone", back.could(0, 1, 21), 1);
        Due.is("seen again: there", back.couldBe(0, 1, 21, 2), 1);
        Due.is("seen again: no more there", back.couldBe(0, 1, 21, 24), 0);
    }

    private static void couldNotBeInCellsThatAreSeen() {
        Due.said(0, "else not in CELLS that b sees");
        SeaGames x = awayAndAway();
        Due.is("10 away: cell 26 alone is not seen", x.could(0, 1, 8), 1);
        Due.is("cell 26", x.couldBe(0, 1, 8, 26), 1);
        Due.is("cell 17 is 9 away", x.couldBe(0, 1, 8, 17), 0);
        Due.is("11 away: 26 and 35 of 17, 25, 26, 35", x.could(0, 1, 9), 2);
        Due.is("cell 17 is 9 away", x.couldBe(0, 1, 9, 17), 0);
        Due.is("cell 25 is 9 away", x.couldBe(0, 1, 9, 25), 0);
        Due.is("cell 26 is 10 away", x.couldBe(0, 1, 9, 26), 1);
        Due.is("cell 35 is 11 away", x.couldBe(0, 1, 9, 35), 1);
        seenFromBelow();
        seenInTheLastRow();
        x.rule(6, 8);
        Due.is("sight 8, behind tick 99: all from 9 away on", x.could(0, 1, 99), 36);
        x.rule(6, 0);
        Due.is("sight 0: not in its own cell", x.couldBe(0, 1, 99, 0), 0);
    }

    /** Hand 0 goes down by the left edge and sees hand 1, which stays in cell 1, no more from tick 1 on. */
    private static void seenFromBelow() {
        SeaGames x = new SeaGames();
        x.rule(6, 2);
        x.hold(0, 0, 3, 2);
        Due.row("1 and 2; then 0 to 3, 6, 7; then 0 to 8, 11, 12", new int[] {x.could(0, 1, 0), x.could(0, 1, 1),
            x.could(0, 1, 2), x.could(0, 1, 3)}, 1, 2, 6, 11);
        Due.is("0 is 2 away", x.couldBe(0, 1, 1, 0), 0);
        Due.is("6 is 2 away", x.couldBe(0, 1, 1, 6), 0);
        Due.is("2 is 4 away", x.couldBe(0, 1, 1, 2), 1);
    }

    /** Sight 4: hand 1 is seen in cell 20 behind tick 4 alone, goes to cell 21, 5 away, and stays. */
    private static void seenInTheLastRow() {
        SeaGames x = new SeaGames();
        x.rule(6, 4);
        x.hold(1, 0, 3, 2);
        x.press(1, 4, 3);
        x.press(1, 5, 1);
        Due.row("20; 21; 21, 22; 17, 21, 22, 23", new int[] {x.could(0, 1, 4), x.could(0, 1, 5), x.could(0, 1, 6),
            x.could(0, 1, 7)}, 1, 1, 2, 4);
        Due.is("from the last row up", x.couldBe(0, 1, 7, 17), 1);
        Due.is("16 is 4 away", x.couldBe(0, 1, 7, 16), 0);
    }

    private static void couldOfNone() {
        Due.said(20, "UNKNOWN");
        SeaGames x = new SeaGames();
        for (int hand : NO_HANDS) {
            Due.is("hand " + hand, x.could(hand, 0, 0), UNKNOWN);
            Due.is("other " + hand, x.could(0, hand, 0), UNKNOWN);
            Due.is("both " + hand, x.could(hand, hand, 0), UNKNOWN);
        }
        for (int tick : NO_TICKS) {
            Due.is("tick " + tick, x.could(0, 1, tick), UNKNOWN);
        }
    }

    // ---- promise 21

    private static void couldBeInEveryCell() {
        Due.said(21, "Whether it COULD be in a CELL: 1, 0");
        for (int w = 3; w <= 9; w++) {
            for (int h = 3; h <= 9; h++) {
                SeaGames x = new SeaGames();
                x.field(w, h, 2);
                x.rule(6, 0);
                for (int cell = 0; cell < w * h; cell++) {
                    Due.is(w + " by " + h + ", cell " + cell, x.couldBe(0, 1, 99, cell), cell == 0 ? 0 : 1);
                }
                Due.is(w + " by " + h + ": none behind the last", x.couldBe(0, 1, 99, w * h), UNKNOWN);
            }
        }
    }

    private static void couldBeOfNone() {
        Due.said(21, "UNKNOWN");
        SeaGames x = new SeaGames();
        for (int hand : NO_HANDS) {
            Due.is("hand " + hand, x.couldBe(hand, 0, 0, 0), UNKNOWN);
            Due.is("other " + hand, x.couldBe(0, hand, 0, 0), UNKNOWN);
        }
        for (int tick : NO_TICKS) {
            Due.is("tick " + tick, x.couldBe(0, 1, tick, 0), UNKNOWN);
        }
        for (int cell : new int[] {-1, 25, 81, LOW, HIGH}) {
            Due.is("cell " + cell, x.couldBe(0, 1, 0, cell), UNKNOWN);
        }
        x.field(3, 3, 2);
        Due.is("no cell 9 of 3 by 3", x.couldBe(0, 1, 0, 9), UNKNOWN);
        x.field(9, 9, 2);
        Due.is("cell 80 of 9 by 9", x.couldBe(0, 1, 0, 80), 0);
        Due.is("no cell 81 of 9 by 9", x.couldBe(0, 1, 0, 81), UNKNOWN);
    }
}
