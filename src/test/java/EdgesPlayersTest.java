/** The edges of players, pairs and odds, sentence by sentence: promises 22 to 26, section 5 of the terms. */
public final class EdgesPlayersTest {
    private static final int UNKNOWN = Due.UNKNOWN, BAD = Due.BAD, FULL = Due.FULL, NONE = Due.NONE;
    private static final int LOW = Due.LOW, HIGH = Due.HIGH;
    private static final int[] NO_SHORES = {-1, 4, LOW, HIGH};
    private static final int[] NO_SKILLS = {-1, 1000, LOW, HIGH};

    public static void main(String[] args) {
        playersFromNoneToTen();
        skillsAndShoresFromLeastToMost();
        playersThatAreNone();
        tenPlayersAreAll();
        farsFromLeastToMost();
        farsThatAreNone();
        pairsOfNone();
        pairsCost();
        pairsOfAllNumbers();
        leftOverIfOdd();
        likeOnes();
        likeOnesLeftOver();
        matesOfNone();
        oddsFromLeastToMost();
        oddsOfBoth();
        oddsInLeastTerms();
        oddsThatAreNone();
        Due.end();
    }

    private static SeaGames withSkills(int... skills) {
        SeaGames x = new SeaGames();
        for (int skill : skills) {
            x.player(skill, 0);
        }
        return x;
    }

    private static SeaGames alike(int players) {
        return withSkills(new int[players]);
    }

    private static int[] mates(SeaGames x) {
        int[] row = new int[x.count(6)];
        for (int i = 0; i < row.length; i++) {
            row[i] = x.mate(i);
        }
        return row;
    }

    // ---- promise 22

    private static void playersFromNoneToTen() {
        Due.said(22, "A PLAYER: its number");
        SeaGames x = new SeaGames();
        Due.is("none at first", x.count(6), 0);
        for (int i = 0; i < 10; i++) {
            Due.is("its number", x.player(i, i % 4), i);
            Due.is("so many", x.count(6), i + 1);
        }
        x.field(3, 3, 2);
        Due.is("they stay", x.count(6), 10);
    }

    private static void skillsAndShoresFromLeastToMost() {
        Due.said(0, "a SKILL 0 .. 999, a SHORE 0 .. 3");
        SeaGames x = new SeaGames();
        Due.is("the least skill and shore", x.player(0, 0), 0);
        Due.is("the greatest skill and shore", x.player(999, 3), 1);
        Due.is("skills count from 0 to 999", x.pairs(), 999);
        x.far(0, 3, 5);
        Due.is("they are on these shores", x.pairs(), 1004);
    }

    private static void playersThatAreNone() {
        Due.said(22, "BAD; FULL");
        SeaGames x = new SeaGames();
        for (int skill : NO_SKILLS) {
            Due.is("skill " + skill, x.player(skill, 0), BAD);
        }
        for (int shore : NO_SHORES) {
            Due.is("shore " + shore, x.player(0, shore), BAD);
            Due.is("both", x.player(1000, shore), BAD);
        }
        Due.is("nobody has come", x.count(6), 0);
        Due.is("the next one is the first", x.player(5, 1), 0);
    }

    private static void tenPlayersAreAll() {
        Due.said(0, "PLAYERS 0, 1, .. (10 at most)");
        SeaGames x = withSkills(0, 10, 20, 30, 40, 50, 60, 70, 80, 90);
        Due.is("the eleventh", x.player(0, 0), FULL);
        Due.is("once more", x.player(999, 3), FULL);
        for (int bad : NO_SKILLS) {
            Due.is("bad is told ahead of full", x.player(bad, 0), BAD);
        }
        for (int bad : NO_SHORES) {
            Due.is("bad is told ahead of full", x.player(0, bad), BAD);
        }
        Due.is("nothing has changed", x.count(6), 10);
        Due.is("nothing has changed", x.pairs(), 50);
        Due.row("nothing has changed", mates(x), 1, 0, 3, 2, 5, 4, 7, 6, 9, 8);
        Due.is("no player 10", x.mate(10), UNKNOWN);
    }

    // ---- promise 23

    private static void farsFromLeastToMost() {
        Due.said(23, "FAR of two SHORES: what it was");
        SeaGames x = new SeaGames();
        for (int a = 0; a < 4; a++) {
            for (int b = 0; b <= a; b++) {
                Due.is("at first", x.far(a, b, 999), 0);
                Due.is("the greatest", x.far(a, b, 0), 999);
                Due.is("the least", x.far(a, b, 10 * a + b), 0);
            }
        }
        Due.said(0, "the same both ways; on one SHORE too");
        for (int a = 0; a < 4; a++) {
            for (int b = 0; b <= a; b++) {
                Due.is("the other way", x.far(b, a, 10 * a + b), 10 * a + b);
            }
        }
    }

    private static void farsThatAreNone() {
        Due.said(23, "UNKNOWN; BAD");
        SeaGames x = new SeaGames();
        x.far(1, 2, 77);
        for (int shore : NO_SHORES) {
            Due.is("shore " + shore, x.far(shore, 1, 0), UNKNOWN);
            Due.is("shore " + shore, x.far(2, shore, 0), UNKNOWN);
            Due.is("both", x.far(shore, shore, 0), UNKNOWN);
            Due.is("unknown is told ahead of bad", x.far(shore, 1, 1000), UNKNOWN);
            Due.is("unknown is told ahead of bad", x.far(1, shore, -1), UNKNOWN);
        }
        for (int v : new int[] {-1, 1000, LOW, HIGH}) {
            Due.is("v " + v, x.far(1, 2, v), BAD);
            Due.is("v " + v, x.far(3, 3, v), BAD);
        }
        Due.is("nothing has changed", x.far(1, 2, 0), 77);
        Due.is("nothing has changed", x.far(3, 3, 0), 0);
    }

    // ---- promise 24

    private static void pairsOfNone() {
        Due.said(24, "What THE PAIRS cost (0: none)");
        SeaGames x = new SeaGames();
        Due.is("nobody", x.pairs(), 0);
        x.far(0, 0, 999);
        Due.is("nobody, whatever is far", x.pairs(), 0);
        x.player(999, 0);
        Due.is("one", x.pairs(), 0);
        Due.is("one has no mate", x.mate(0), NONE);
    }

    private static void pairsCost() {
        Due.said(0, "A PAIR costs the difference of SKILLS, and FAR");
        SeaGames x = new SeaGames();
        x.player(999, 2);
        x.player(0, 1);
        Due.is("skills alone", x.pairs(), 999);
        x.far(1, 2, 999);
        Due.is("as dear as a pair can be", x.pairs(), 1998);
        x.far(1, 2, 0);
        Due.is("no more far", x.pairs(), 999);
        SeaGames same = alike(2);
        Due.is("nothing", same.pairs(), 0);
        same.far(0, 0, 1);
        Due.is("far on one shore", same.pairs(), 1);
        SeaGames most = new SeaGames();
        for (int i = 0; i < 10; i++) {
            most.player(i < 5 ? 0 : 999, 3);
        }
        most.far(3, 3, 999);
        Due.is("as dear as ten can be", most.pairs(), 5 * 999 + 999);
        Due.row("five are odd: the last of them has the first of the others", mates(most),
                1, 0, 3, 2, 5, 4, 7, 6, 9, 8);
    }

    private static void pairsOfAllNumbers() {
        Due.said(0, "as many as can be (one is left over if they are odd), of least cost together");
        SeaGames x = new SeaGames();
        x.far(0, 0, 100);
        for (int players = 1; players <= 10; players++) {
            x.player(7, 0);
            Due.is(players + " players: each pair costs 100", x.pairs(), players / 2 * 100);
        }
        Due.is("least together, not pair by pair", withSkills(10, 11, 0, 20).pairs(), 19);
        Due.row("so 0 has 2 and 1 has 3", mates(withSkills(10, 11, 0, 20)), 2, 3, 0, 1);
        SeaGames dear = new SeaGames();
        dear.player(0, 0);
        dear.player(0, 1);
        dear.player(0, 2);
        dear.far(0, 1, 999);
        dear.far(0, 2, 999);
        dear.far(1, 2, 999);
        Due.is("a pair is made though it is dear", dear.pairs(), 999);
        Due.row("a pair is made though it is dear", mates(dear), 1, 0, NONE);
    }

    // ---- promise 25

    private static void leftOverIfOdd() {
        Due.said(25, "The mate of a PLAYER; NONE: it is left over");
        for (int players = 1; players <= 10; players++) {
            int[] row = mates(alike(players));
            for (int i = 0; i < players; i++) {
                int due = i == players - 1 && players % 2 == 1 ? NONE : i ^ 1;
                Due.is("all alike, " + i + " of " + players, row[i], due);
            }
        }
        for (int over = 0; over < 9; over++) {
            int[] skills = new int[9];
            for (int i = 0; i < 9; i++) {
                skills[i] = i == over ? 999 : 100 * ((i < over ? i : i - 1) / 2);
            }
            int[] row = mates(withSkills(skills));
            for (int i = 0; i < 9; i++) {
                Due.is("999 is left over", row[i] == NONE ? 1 : 0, i == over ? 1 : 0);
            }
        }
    }

    private static void likeOnes() {
        Due.said(0, "of like ones: PLAYER 0 has the least mate");
        Due.row("0 has 1, 2 or 3 at the same cost", mates(withSkills(5, 5, 5, 5)), 1, 0, 3, 2);
        Due.row("each way costs 20", mates(withSkills(0, 10, 10, 20)), 1, 0, 3, 2);
        SeaGames x = new SeaGames();
        x.player(0, 0);
        x.player(0, 0);
        x.player(0, 1);
        x.player(0, 1);
        x.far(0, 0, 1);
        x.far(1, 1, 1);
        Due.row("over the sea: 2 is less than 3", mates(x), 2, 3, 0, 1);
        x.far(0, 1, 1);
        Due.row("all cost 1: 1 is the least", mates(x), 1, 0, 3, 2);
        Due.said(0, "then the least of the others");
        Due.row("six", mates(withSkills(1, 0, 1, 0, 0, 0)), 2, 3, 0, 1, 5, 4);
        Due.row("one way alone costs 0", mates(withSkills(0, 0, 10, 20, 20, 10)), 1, 0, 5, 4, 3, 2);
        Due.row("2 has 3, 4 or 5 at the same cost", mates(withSkills(0, 0, 1, 2, 2, 3)), 1, 0, 3, 2, 5, 4);
    }

    private static void likeOnesLeftOver() {
        Due.said(0, "or is left over behind all");
        Due.row("each could be left over: the last is", mates(withSkills(7, 7, 7)), 1, 0, NONE);
        Due.row("0 or 2 could be left over", mates(withSkills(0, 1, 2)), 1, 0, NONE);
        Due.row("0 must be left over", mates(withSkills(0, 5, 5)), NONE, 2, 1);
        Due.row("1 must be", mates(withSkills(5, 0, 5)), 2, NONE, 0);
        Due.row("0 or 1 could be left over: 0 has 2, a mate", mates(withSkills(4, 0, 2)), 2, NONE, 0);
        Due.row("the least of the others is not left over if it can have one",
                mates(withSkills(0, 0, 4, 5, 6)), 1, 0, 3, 2, NONE);
        Due.row("of the others the last", mates(alike(9)), 1, 0, 3, 2, 5, 4, 7, 6, NONE);
    }

    private static void matesOfNone() {
        Due.said(25, "UNKNOWN");
        SeaGames x = new SeaGames();
        for (int players = 0; players <= 10; players++) {
            for (int player : new int[] {-1, players, 10, LOW, HIGH}) {
                Due.is("player " + player + " of " + players, x.mate(player), UNKNOWN);
            }
            if (players < 10) {
                x.player(0, 0);
                Due.is("the last one", x.mate(players), players % 2 == 0 ? NONE : players - 1);
            }
        }
    }

    // ---- promise 26

    private static void share(int n, int late, int hits, int both, long above, long below) {
        SeaGames x = new SeaGames();
        String what = "odds of " + n + ", " + late + ", " + hits + ", " + both;
        Due.is(what + " above", x.odds(n, late, hits, both, true), above);
        Due.is(what + " below", x.odds(n, late, hits, both, false), below);
    }

    private static void oddsFromLeastToMost() {
        Due.said(0, "ODDS of n TICKS (1 .. 60), of which some (0 .. n) were LATE, some (0 .. n) HITS");
        for (int n = 1; n <= 60; n++) {
            share(n, 0, 0, 0, 1, 1);
            share(n, n, n, n, 1, 1);
            share(n, 0, n, 0, 1, 1);
            share(n, n, 0, 0, 1, 1);
            share(n, 1, 1, 1, 1, n);
            share(n, n, 1, 1, 1, 1);
            share(n, 1, n, 1, 1, 1);
        }
        share(60, 30, 30, 30, 1, 118264581564861424L);
        share(60, 30, 30, 1, 118264581564861423L, 118264581564861424L);
    }

    private static void oddsOfBoth() {
        Due.said(0, "the share of all ways to deal LATE ones out by which b at least are both");
        share(4, 2, 2, 0, 1, 1);
        share(4, 2, 2, 1, 5, 6);
        share(4, 2, 2, 2, 1, 6);
        Due.said(26, "both (0 .. the lesser of late and hits)");
        share(10, 3, 2, 2, 1, 15);
        share(10, 2, 3, 2, 1, 15);
        share(10, 3, 2, 3, BAD, BAD);
        share(10, 2, 3, 3, BAD, BAD);
        // 8 late ones of 10 hit 6 of 8 at least, so that less is sure
        share(10, 8, 8, 5, 1, 1);
        share(10, 8, 8, 6, 1, 1);
        share(10, 8, 8, 7, 17, 45);
        share(10, 8, 8, 8, 1, 45);
    }

    private static void oddsInLeastTerms() {
        Due.said(0, "(a FRACTION, in least terms)");
        share(6, 3, 3, 2, 1, 2);
        share(6, 3, 3, 1, 19, 20);
        share(6, 3, 3, 3, 1, 20);
        share(8, 2, 4, 1, 11, 14);
        share(60, 2, 30, 2, 29, 118);
        share(60, 2, 30, 1, 89, 118);
    }

    private static void oddsThatAreNone() {
        Due.said(26, "BAD: n, late, hits, both");
        for (int n : new int[] {0, 61, -1, LOW, HIGH}) {
            share(n, 0, 0, 0, BAD, BAD);
            share(n, n, n, n, BAD, BAD);
        }
        for (int n : new int[] {1, 5, 60}) {
            for (int some : new int[] {-1, n + 1, LOW, HIGH}) {
                share(n, some, 0, 0, BAD, BAD);
                share(n, 0, some, 0, BAD, BAD);
                share(n, some, n, 0, BAD, BAD);
                share(n, n, some, n, BAD, BAD);
                share(n, n, n, some, BAD, BAD);
            }
            share(n, 0, n, 1, BAD, BAD);
            share(n, n, 0, 1, BAD, BAD);
            share(n, n, n, -1, BAD, BAD);
        }
    }
}
