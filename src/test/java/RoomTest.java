import java.lang.management.ManagementFactory;

/** All calls of a run live in one room: an object makes its rows when it is made, and its calls make nothing. */
public final class RoomTest {
    private static final int CALLS = 512;
    private static final long MOST_BYTES_AN_OBJECT = 60_000;
    private static long sum = 0;

    public static void main(String[] args) {
        com.sun.management.ThreadMXBean meter = (com.sun.management.ThreadMXBean) ManagementFactory.getThreadMXBean();
        // once ahead of the measure, so that loading classes does not count
        useAll(filled());
        long me = Thread.currentThread().getId();
        long start = meter.getThreadAllocatedBytes(me);
        SeaGames x = new SeaGames();
        long made = meter.getThreadAllocatedBytes(me) - start;
        start = meter.getThreadAllocatedBytes(me);
        fill(x);
        useAll(x);
        long used = meter.getThreadAllocatedBytes(me) - start;
        System.out.println("an object takes " + made + " bytes, its calls " + used + " (" + sum + ")");
        // the meter's own answers take some bytes
        if (made > MOST_BYTES_AN_OBJECT || used > 2_000) {
            System.out.println("that is too much");
            System.exit(1);
        }
    }

    private static SeaGames filled() {
        SeaGames x = new SeaGames();
        fill(x);
        return x;
    }

    private static void fill(SeaGames x) {
        x.field(9, 9, 6);
        x.rule(1, 3);
        x.rule(6, 2);
        for (int hand = 0; hand < 6; hand++) {
            for (int other = 0; other < hand; other++) {
                x.line(hand, other, 9);
            }
            for (int tick = 0; tick < 100; tick++) {
                x.press(hand, tick, (hand * 7 + tick * tick) % 6);
                x.lose(hand, tick, tick % 3 == 0);
            }
        }
        for (int i = 0; i < 10; i++) {
            x.player(i * 77 % 50, i % 4);
        }
    }

    private static void useAll(SeaGames x) {
        for (int i = 0; i < CALLS; i++) {
            sum += x.press(i % 6, 0, i % 5) + x.truly(99, 6) + x.machine(0, 99) + x.shown(i % 6, 99, 6);
            sum += x.known(0, 1, i % 100) + x.takes(0, 99, 1, 99) + x.back(1, 99) + x.agreed(1, 99);
            sum += x.wrong(i % 6, 99, true) + x.price(i % 10, 99) + (i % 20 == 0 ? x.best(99) : 0);
            sum += x.sees(0, 1, 99) + x.could(0, 1, 99) + x.couldBe(0, 1, 99, 80);
            sum += x.far(i % 4, 0, i) + x.pairs() + x.mate(i % 10) + x.odds(60, 30, 30, i % 31, true);
            sum += x.keep(i % 4) + x.tried(i % 4, 5, 99, 6) + x.differs(i % 4, 2) + x.again(i % 4) + x.count(i % 8);
            sum += x.hold(i % 6, 90, 99, i % 6) + x.leave(i % 6, i % 90, 90) + x.rule(0, i % 5 + 1);
        }
    }
}
