import java.util.Random;

/** Runs of random calls on the class and on PlainSea: every answer must be the same. More runs: give their number. */
public final class PlainSeaTest {
    private static final int CALLS = 512;
    private static int wrong = 0;

    private final Random dice;
    private final int run;
    private final SeaGames sea = new SeaGames();
    private final PlainSea plain = new PlainSea();
    private int mostM;

    private PlainSeaTest(int run) {
        this.run = run;
        dice = new Random(7919L * run + 1);
        mostM = run % 4 == 0 ? 99 : 30;
    }

    public static void main(String[] args) {
        int runs = args.length > 0 ? Integer.parseInt(args[0]) : 300;
        for (int run = 0; run < runs; run++) {
            new PlainSeaTest(run).play();
        }
        System.out.println(wrong == 0 ? runs + " runs are like PlainSea's" : wrong + " answers are not like PlainSea's");
        if (wrong != 0) {
            System.exit(1);
        }
    }

    private void due(String call, long got, long want) {
        if (got != want) {
            wrong++;
            System.out.println("run " + run + ": " + call + " answered " + got + ", PlainSea says " + want);
        }
    }

    private int any(int least, int most) {
        return least + dice.nextInt(most - least + 1);
    }

    /** Within the bounds as a rule, now and then just outside or far off. */
    private int some(int least, int most) {
        switch (dice.nextInt(60)) {
            case 0:
                return least - 1;
            case 1:
                return most + 1;
            case 2:
                return dice.nextBoolean() ? Integer.MIN_VALUE : Integer.MAX_VALUE;
            case 3:
                return least;
            case 4:
                return most;
            default:
                return any(least, most);
        }
    }

    private int hand() {
        return some(0, plain.k.n - 1);
    }

    private int tick() {
        return some(0, dice.nextInt(3) == 0 ? 99 : 25);
    }

    private int clock() {
        return some(0, dice.nextInt(3) == 0 ? 99 : 35);
    }

    private int what() {
        switch (dice.nextInt(3)) {
            case 0:
                return some(0, 6);
            case 1:
                return 6;
            default:
                return some(10, 9 + plain.k.n);
        }
    }

    private void play() {
        int done = 0;
        if (run % 5 != 0) {
            newField(any(3, run % 2 == 0 ? 4 : 9), any(3, 6), any(2, 6));
            done++;
        }
        for (; done < 120; done++) {
            prepare();
        }
        for (; done < CALLS; done++) {
            if (dice.nextInt(4) == 0) {
                prepare();
            } else {
                ask();
            }
        }
    }

    private void newField(int w, int h, int n) {
        due("field(" + w + ", " + h + ", " + n + ")", sea.field(w, h, n), plain.field(w, h, n));
    }

    private void prepare() {
        int hand = hand();
        int tick = tick();
        int a = any(0, 99);
        if (a < 45) {
            int to = Math.min(99, tick + any(0, 4));
            int v = some(0, 5);
            due("hold(" + hand + ", " + tick + ", " + to + ", " + v + ")",
                    sea.hold(hand, tick, to, v), plain.hold(hand, tick, to, v));
        } else if (a < 65) {
            int v = some(0, 5);
            due("press(" + hand + ", " + tick + ", " + v + ")", sea.press(hand, tick, v), plain.press(hand, tick, v));
        } else if (a < 75) {
            int b = hand();
            int v = some(0, 9);
            due("line(" + hand + ", " + b + ", " + v + ")", sea.line(hand, b, v), plain.line(hand, b, v));
        } else if (a < 87) {
            boolean lost = dice.nextInt(5) != 0;
            due("lose(" + hand + ", " + tick + ", " + lost + ")",
                    sea.lose(hand, tick, lost), plain.lose(hand, tick, lost));
        } else if (a < 90) {
            int from = some(0, 40);
            int to = dice.nextInt(8) == 0 ? some(0, 100) : Math.min(100, from + any(0, 12));
            due("leave(" + hand + ", " + from + ", " + to + ")", sea.leave(hand, from, to), plain.leave(hand, from, to));
        } else if (a < 95) {
            int[] most = {5, 9, 999, 9, 99, 99, 9};
            int what = some(0, 6);
            int v = some(0, what >= 0 && what <= 6 ? most[what] : 9);
            due("rule(" + what + ", " + v + ")", sea.rule(what, v), plain.rule(what, v));
        } else if (a < 97) {
            int slot = some(0, 3);
            due("keep(" + slot + ")", sea.keep(slot), plain.keep(slot));
        } else if (a < 98) {
            int slot = some(0, 3);
            due("again(" + slot + ")", sea.again(slot), plain.again(slot));
        } else if (dice.nextInt(8) == 0) {
            newField(some(3, 9), some(3, 9), some(2, 6));
        } else {
            int skill = some(0, dice.nextBoolean() ? 999 : 6);
            int shore = some(0, 3);
            due("player(" + skill + ", " + shore + ")", sea.player(skill, shore), plain.player(skill, shore));
        }
    }

    private void ask() {
        int kind = any(0, 20);
        if (kind < 7) {
            askGlass(kind);
        } else if (kind < 14) {
            askField(kind);
        } else {
            askRest(kind);
        }
    }

    private void askGlass(int kind) {
        int glass = hand();
        int hand = hand();
        int clock = clock();
        int tick = dice.nextInt(3) == 0 ? tick() : Math.max(0, Math.min(clock, 99) - any(-1, 12));
        int what = what();
        int m = some(0, mostM);
        int delay = some(0, 9);
        boolean flag = dice.nextBoolean();
        switch (kind) {
            case 0:
                due("known(" + glass + ", " + hand + ", " + tick + ")",
                        sea.known(glass, hand, tick), plain.known(glass, hand, tick));
                break;
            case 1:
                due("takes(" + glass + ", " + clock + ", " + hand + ", " + tick + ")",
                        sea.takes(glass, clock, hand, tick), plain.takes(glass, clock, hand, tick));
                break;
            case 2:
                due("shown(" + glass + ", " + clock + ", " + what + ")",
                        sea.shown(glass, clock, what), plain.shown(glass, clock, what));
                break;
            case 3:
                due("back(" + glass + ", " + clock + ")", sea.back(glass, clock), plain.back(glass, clock));
                break;
            case 4:
                due("agreed(" + glass + ", " + clock + ")", sea.agreed(glass, clock), plain.agreed(glass, clock));
                break;
            case 5:
                due("wrong(" + glass + ", " + m + ", " + flag + ")", sea.wrong(glass, m, flag), plain.wrong(glass, m, flag));
                break;
            default:
                if (dice.nextInt(8) == 0) {
                    due("best(" + m + ")", sea.best(m), plain.best(m));
                } else {
                    due("price(" + delay + ", " + m + ")", sea.price(delay, m), plain.price(delay, m));
                }
                break;
        }
    }

    private void askField(int kind) {
        int hand = hand();
        int other = hand();
        int tick = tick();
        int what = what();
        int cell = some(0, plain.k.w * plain.k.h - 1);
        int slot = some(0, 3);
        int power = some(1, 5);
        switch (kind) {
            case 7:
                due("truly(" + tick + ", " + what + ")", sea.truly(tick, what), plain.truly(tick, what));
                break;
            case 8:
                due("machine(" + hand + ", " + tick + ")", sea.machine(hand, tick), plain.machine(hand, tick));
                break;
            case 9:
                due("sees(" + hand + ", " + other + ", " + tick + ")",
                        sea.sees(hand, other, tick), plain.sees(hand, other, tick));
                break;
            case 10:
                due("could(" + hand + ", " + other + ", " + tick + ")",
                        sea.could(hand, other, tick), plain.could(hand, other, tick));
                break;
            case 11:
                due("couldBe(" + hand + ", " + other + ", " + tick + ", " + cell + ")",
                        sea.couldBe(hand, other, tick, cell), plain.couldBe(hand, other, tick, cell));
                break;
            case 12:
                due("tried(" + slot + ", " + power + ", " + tick + ", " + what + ")",
                        sea.tried(slot, power, tick, what), plain.tried(slot, power, tick, what));
                break;
            default:
                due("differs(" + slot + ", " + power + ")", sea.differs(slot, power), plain.differs(slot, power));
                break;
        }
    }

    private void askRest(int kind) {
        int player = some(0, Math.max(0, plain.players.size() - 1));
        int a = some(0, 3);
        int b = some(0, 3);
        int v = some(0, dice.nextBoolean() ? 999 : 5);
        int what = some(0, 7);
        switch (kind) {
            case 14:
                due("far(" + a + ", " + b + ", " + v + ")", sea.far(a, b, v), plain.far(a, b, v));
                break;
            case 15:
                due("pairs()", sea.pairs(), plain.pairs());
                break;
            case 16:
                due("mate(" + player + ")", sea.mate(player), plain.mate(player));
                break;
            case 17:
                askOdds();
                break;
            default:
                due("count(" + what + ")", sea.count(what), plain.count(what));
                break;
        }
    }

    private void askOdds() {
        int n = some(1, 60);
        int most = Math.max(0, Math.min(n, 60));
        int late = some(0, most);
        int hits = some(0, most);
        int both = some(0, Math.max(0, Math.min(late, hits)) % 61);
        boolean upper = dice.nextBoolean();
        due("odds(" + n + ", " + late + ", " + hits + ", " + both + ", " + upper + ")",
                sea.odds(n, late, hits, both, upper), plain.odds(n, late, hits, both, upper));
    }
}
