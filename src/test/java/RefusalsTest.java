import java.util.ArrayList;
import java.util.Arrays;
import java.util.List;

/**
 * "What is refused changes nothing" and "Of several what is told first": each call with all its wrong arguments, one
 * by one and together, in plays that have much and in one that has nothing; afterwards all answers must be those of
 * an object that was never asked.
 */
public final class RefusalsTest {
    private static final int UNKNOWN = Due.UNKNOWN, BAD = Due.BAD, STATE = Due.STATE, FULL = Due.FULL;
    private static final int LOW = Due.LOW, HIGH = Due.HIGH;
    /* an object is used for 512 calls; what is left of them behind the refused ones goes to the answers */
    private static final int CALLS = 512, REFUSED_AT_ONCE = 60;

    private static final int FREE = 0;

    /** A call by its name; a boolean is 0 or 1. */
    private record Call(String name, int... args) {
        long on(SeaGames x) {
            int[] a = Arrays.copyOf(args, 5);
            switch (name) {
                case "field": return x.field(a[0], a[1], a[2]);
                case "rule": return x.rule(a[0], a[1]);
                case "press": return x.press(a[0], a[1], a[2]);
                case "hold": return x.hold(a[0], a[1], a[2], a[3]);
                case "leave": return x.leave(a[0], a[1], a[2]);
                case "truly": return x.truly(a[0], a[1]);
                case "machine": return x.machine(a[0], a[1]);
                case "line": return x.line(a[0], a[1], a[2]);
                case "lose": return x.lose(a[0], a[1], a[2] == 1);
                case "known": return x.known(a[0], a[1], a[2]);
                case "takes": return x.takes(a[0], a[1], a[2], a[3]);
                case "shown": return x.shown(a[0], a[1], a[2]);
                case "back": return x.back(a[0], a[1]);
                case "agreed": return x.agreed(a[0], a[1]);
                case "wrong": return x.wrong(a[0], a[1], a[2] == 1);
                case "price": return x.price(a[0], a[1]);
                case "best": return x.best(a[0]);
                case "sees": return x.sees(a[0], a[1], a[2]);
                case "could": return x.could(a[0], a[1], a[2]);
                case "couldBe": return x.couldBe(a[0], a[1], a[2], a[3]);
                case "player": return x.player(a[0], a[1]);
                case "far": return x.far(a[0], a[1], a[2]);
                case "pairs": return x.pairs();
                case "mate": return x.mate(a[0]);
                case "odds": return x.odds(a[0], a[1], a[2], a[3], a[4] == 1);
                case "keep": return x.keep(a[0]);
                case "again": return x.again(a[0]);
                case "tried": return x.tried(a[0], a[1], a[2], a[3]);
                case "differs": return x.differs(a[0], a[1]);
                case "count": return x.count(a[0]);
                default: throw new IllegalStateException(name);
            }
        }

        String text() {
            String row = Arrays.toString(args);
            return name + "(" + row.substring(1, row.length() - 1) + ")";
        }
    }

    /** An argument: what is told of a wrong one (FREE: none is wrong), one that is right, those that are wrong. */
    private record Arg(int told, int right, int... wrong) {
    }

    private record Refused(Call call, int due) {
    }

    /** A play: the calls that make it, the hands, cells and players that it has, a slot that is kept, one that is not. */
    private record Scene(String name, List<Call> calls, int hands, int cells, int players, int kept, int bare) {
    }

    public static void main(String[] args) {
        for (Scene scene : List.of(much(), full(), nothing())) {
            List<Refused> refused = refusedIn(scene);
            Due.said(0, "Of several what is told first");
            answersAreDue(scene, refused);
            Due.said(0, "What is refused changes nothing");
            nothingChanges(scene, refused);
            nothingChangesOnTheWay(scene, refused);
        }
        Due.end();
    }

    // ---- plays

    private static Call call(String name, int... args) {
        return new Call(name, args);
    }

    private static Scene nothing() {
        return new Scene("nothing", List.of(), 2, 25, 0, -1, 0);
    }

    private static Scene much() {
        List<Call> calls = new ArrayList<>(List.of(call("field", 6, 4, 4), call("rule", 0, 3), call("rule", 1, 4),
                call("rule", 2, 5), call("rule", 3, 2), call("rule", 4, 3), call("rule", 5, 7), call("rule", 6, 2),
                call("hold", 0, 0, 2, 2), call("hold", 0, 3, 9, 1), call("press", 0, 10, 5), call("hold", 1, 1, 5, 2),
                call("hold", 1, 12, 20, 1), call("press", 1, 9, 5), call("hold", 2, 0, 30, 5), call("hold", 2, 4, 6, 2),
                call("hold", 3, 90, 99, 3), call("press", 3, 0, 1), call("leave", 3, 5, 40), call("leave", 2, 60, 100),
                call("line", 0, 1, 3), call("line", 2, 0, 5), call("line", 3, 1, 9), call("line", 2, 3, 1),
                call("lose", 0, 3, 1), call("lose", 1, 12, 1), call("lose", 2, 7, 1), call("lose", 3, 99, 1),
                call("far", 0, 1, 30), call("far", 2, 2, 9), call("far", 3, 1, 200),
                call("far", 3, 0, 55)));
        for (int i = 0; i < 7; i++) {
            calls.add(call("player", i * i * 17 % 100, i % 4));
        }
        calls.add(call("keep", 1));
        calls.add(call("press", 0, 4, 4));
        calls.add(call("keep", 3));
        calls.add(call("rule", 0, 5));
        return new Scene("much", calls, 4, 24, 7, 1, 2);
    }

    private static Scene full() {
        List<Call> calls = new ArrayList<>(List.of(call("field", 9, 9, 6), call("rule", 1, 8), call("rule", 6, 3)));
        for (int hand = 0; hand < 6; hand++) {
            calls.add(call("hold", hand, 0, 99, 1 + hand % 5));
            calls.add(call("hold", hand, 5 * hand, 7 * hand, 2));
            calls.add(call("leave", hand, 10 * hand + 20, 100));
            calls.add(call("lose", hand, 11 * hand, 1));
            calls.add(call("line", hand, (hand + 1) % 6, 9 - hand));
        }
        for (int a = 0; a < 4; a++) {
            for (int b = 0; b <= a; b++) {
                calls.add(call("far", a, b, 10 + 5 * a + b));
            }
        }
        for (int i = 0; i < 10; i++) {
            calls.add(call("player", i * 37 % 50, i % 4));
        }
        for (int slot = 0; slot < 4; slot++) {
            calls.add(call("press", slot, 50, 5));
            calls.add(call("keep", slot));
        }
        return new Scene("full", calls, 6, 81, 10, 2, -1);
    }

    // ---- what is refused

    private static Arg free() {
        return new Arg(FREE, 1);
    }

    private static Arg from(int told, int least, int right, int most) {
        return new Arg(told, right, least - 1, most + 1, LOW, HIGH);
    }

    private static List<Refused> refusedIn(Scene s) {
        List<Refused> all = new ArrayList<>();
        Arg hand = from(UNKNOWN, 0, 1, s.hands - 1);
        Arg other = from(UNKNOWN, 0, 0, s.hands - 1);
        Arg tick = from(UNKNOWN, 0, 5, 99);
        Arg press = from(BAD, 0, 4, 5);
        add(all, "field", from(BAD, 3, 3, 9), from(BAD, 3, 9, 9), from(BAD, 2, 2, 6));
        add(all, "press", hand, tick, press);
        add(all, "hold", hand, from(UNKNOWN, 0, 2, 99), from(UNKNOWN, 0, 98, 99), press);
        add(all, "machine", hand, tick);
        add(all, "lose", hand, tick, free());
        add(all, "known", hand, other, tick);
        add(all, "shown", hand, tick, whatOf(s.hands));
        add(all, "truly", tick, whatOf(s.hands));
        add(all, "line", hand, other, from(BAD, 0, 8, 9));
        add(all, "takes", hand, from(UNKNOWN, 0, 30, 99), other, new Arg(UNKNOWN, 7, -1, 31, 100, LOW, HIGH));
        add(all, "back", hand, tick);
        add(all, "agreed", hand, tick);
        add(all, "wrong", hand, tick, free());
        add(all, "best", tick);
        add(all, "sees", hand, other, tick);
        add(all, "could", hand, other, tick);
        add(all, "couldBe", hand, other, tick, from(UNKNOWN, 0, 0, s.cells - 1));
        add(all, "far", from(UNKNOWN, 0, 0, 3), from(UNKNOWN, 0, 3, 3), from(BAD, 0, 500, 999));
        add(all, "player", from(BAD, 0, 5, 999), from(BAD, 0, 2, 3));
        add(all, "keep", new Arg(UNKNOWN, 0, -1, 4, LOW, HIGH));
        add(all, "again", new Arg(UNKNOWN, 0, -1, 4, LOW, HIGH));
        add(all, "count", from(BAD, 0, 3, 7));
        add(all, "odds", from(BAD, 1, 5, 60), from(BAD, 0, 4, 5), from(BAD, 0, 3, 5), from(BAD, 0, 2, 3), free());
        for (int what = 0; what < 7; what++) {
            int[] least = {1, 0, 0, 0, 0, 0, 0};
            int[] most = {5, 9, 999, 9, 99, 99, 9};
            add(all, "rule", new Arg(BAD, what, -1, 7), from(BAD, least[what], least[what], most[what]));
        }
        pricesOf(all);
        leavesOf(all, hand);
        alone(all, s);
        slotsOf(all, s);
        return all;
    }

    private static Arg whatOf(int hands) {
        int behind = hands < 6 ? hands : 7;
        return new Arg(BAD, 6, -1, behind, 7, 9, 10 + hands, LOW, HIGH);
    }

    /** All that one wrong argument or several can be; unknown ones are told ahead of bad ones. */
    private static void add(List<Refused> all, String name, Arg... args) {
        addFrom(all, name, args, 0, new int[args.length], FREE);
    }

    private static void addFrom(List<Refused> all, String name, Arg[] args, int i, int[] values, int told) {
        if (i == args.length) {
            if (told != FREE) {
                all.add(new Refused(call(name, values.clone()), told));
            }
            return;
        }
        values[i] = args[i].right;
        addFrom(all, name, args, i + 1, values, told);
        for (int wrong : args[i].wrong) {
            values[i] = wrong;
            int first = told == UNKNOWN || args[i].told == UNKNOWN ? UNKNOWN : BAD;
            addFrom(all, name, args, i + 1, values, first);
        }
    }

    /** Here bad is told ahead of unknown. */
    private static void pricesOf(List<Refused> all) {
        for (int bad : new int[] {-1, 10, LOW, HIGH}) {
            all.add(new Refused(call("price", bad, 5), BAD));
            all.add(new Refused(call("price", 5, bad == 10 ? 100 : bad), UNKNOWN));
            for (int m : new int[] {-1, 100, LOW, HIGH}) {
                all.add(new Refused(call("price", bad, m), BAD));
            }
        }
    }

    private static void leavesOf(List<Refused> all, Arg hand) {
        int[][] bad = {{-1, 5}, {0, 101}, {101, 101}, {5, 4}, {100, 99}, {100, 0}, {LOW, HIGH}, {HIGH, LOW}};
        for (int[] row : bad) {
            all.add(new Refused(call("leave", hand.right, row[0], row[1]), BAD));
        }
        for (int none : hand.wrong) {
            all.add(new Refused(call("leave", none, 0, 100), UNKNOWN));
            all.add(new Refused(call("leave", none, 5, 4), UNKNOWN));
        }
    }

    /** Grounds that lie in two arguments, or in what there is. */
    private static void alone(List<Refused> all, Scene s) {
        int last = s.hands - 1;
        all.add(new Refused(call("hold", last, 9, 8, 1), BAD));
        all.add(new Refused(call("hold", last, 99, 0, 1), BAD));
        all.add(new Refused(call("hold", last, 9, 8, 6), BAD));
        all.add(new Refused(call("hold", last + 1, 9, 8, 1), UNKNOWN));
        for (int hand = 0; hand <= last; hand++) {
            all.add(new Refused(call("line", hand, hand, 5), STATE));
            all.add(new Refused(call("line", hand, hand, 10), BAD));
            all.add(new Refused(call("takes", hand, 0, hand, 1), UNKNOWN));
        }
        all.add(new Refused(call("line", last + 1, last + 1, 5), UNKNOWN));
        all.add(new Refused(call("odds", 9, 3, 5, 4, 1), BAD));
        all.add(new Refused(call("odds", 9, 5, 3, 4, 0), BAD));
        for (int player : new int[] {-1, s.players, 10, LOW, HIGH}) {
            all.add(new Refused(call("mate", player), UNKNOWN));
        }
        if (s.players == 10) {
            all.add(new Refused(call("player", 0, 0), FULL));
            all.add(new Refused(call("player", 999, 3), FULL));
        }
    }

    private static void slotsOf(List<Refused> all, Scene s) {
        int[] powers = {0, 6, LOW, HIGH};
        for (int slot : new int[] {-1, 4, LOW, HIGH}) {
            all.add(new Refused(call("tried", slot, 1, 5, 6), UNKNOWN));
            all.add(new Refused(call("tried", slot, 0, 100, 7), UNKNOWN));
            all.add(new Refused(call("differs", slot, 1), UNKNOWN));
            all.add(new Refused(call("differs", slot, 0), UNKNOWN));
        }
        for (int i = 0; i < powers.length; i++) {
            int noTick = i == 0 ? -1 : i == 1 ? 100 : powers[i];
            if (s.kept >= 0) {
                all.add(new Refused(call("tried", s.kept, powers[i], 5, 6), BAD));
                all.add(new Refused(call("tried", s.kept, powers[i], 5, 7), BAD));
                all.add(new Refused(call("tried", s.kept, 1, 5, whatOf(s.hands).wrong[i]), BAD));
                all.add(new Refused(call("tried", s.kept, powers[i], noTick, 7), UNKNOWN));
                all.add(new Refused(call("differs", s.kept, powers[i]), BAD));
            }
            if (s.bare >= 0) {
                all.add(new Refused(call("tried", s.bare, powers[i], 5, 7), STATE));
                all.add(new Refused(call("tried", s.bare, powers[i], noTick, 7), UNKNOWN));
                all.add(new Refused(call("differs", s.bare, powers[i]), STATE));
                all.add(new Refused(call("differs", s.bare, 1 + i), STATE));
                all.add(new Refused(call("again", s.bare), STATE));
            }
        }
    }

    // ---- what is looked at

    private static SeaGames made(Scene s) {
        SeaGames x = new SeaGames();
        for (Call one : s.calls) {
            one.on(x);
        }
        return x;
    }

    private static void answersAreDue(Scene s, List<Refused> refused) {
        int room = CALLS - s.calls.size();
        for (int from = 0; from < refused.size(); from += room) {
            SeaGames x = made(s);
            for (Refused one : refused.subList(from, Math.min(refused.size(), from + room))) {
                Due.is(s.name + ": " + one.call.text(), one.call.on(x), one.due);
            }
        }
    }

    private static void nothingChanges(Scene s, List<Refused> refused) {
        List<Call> asked = allAnswers(s);
        int room = CALLS - s.calls.size() - REFUSED_AT_ONCE;
        for (int first = 0; first < asked.size(); first += room) {
            List<Call> part = asked.subList(first, Math.min(asked.size(), first + room));
            long[] due = answers(made(s), part);
            for (int from = 0; from < refused.size(); from += REFUSED_AT_ONCE) {
                List<Refused> some = refused.subList(from, Math.min(refused.size(), from + REFUSED_AT_ONCE));
                SeaGames x = made(s);
                for (Refused one : some) {
                    one.call.on(x);
                }
                compare(s.name + ": behind " + some.get(0).call.text() + " and those that follow it", part,
                        answers(x, part), due);
            }
        }
    }

    /** Each refused call between two calls of the making of the play, where answers have been asked already. */
    private static void nothingChangesOnTheWay(Scene s, List<Refused> refused) {
        List<Call> part = allAnswers(s);
        part = part.subList(0, Math.min(part.size(), 150));
        long[] due = answers(made(s), part);
        int next = 0;
        while (next < refused.size()) {
            SeaGames x = new SeaGames();
            Refused first = refused.get(next);
            for (Call one : s.calls) {
                x.truly(99, 6);
                one.on(x);
                x.pairs();
                for (int i = 0; i < 2 && next < refused.size(); i++) {
                    refusedLater(refused.get(next), x);
                    next++;
                }
            }
            for (int i = 0; i < 20 && next < refused.size(); i++) {
                refused.get(next).call.on(x);
                next++;
            }
            compare(s.name + ": on the way, from " + first.call.text() + " on", part, answers(x, part), due);
        }
    }

    /** What the whole play refuses need not be refused while it is made: there only what the least one refuses too. */
    private static void refusedLater(Refused one, SeaGames x) {
        for (int arg : one.call.args) {
            if (arg == LOW || arg == HIGH) {
                one.call.on(x);
                return;
            }
        }
    }

    private static long[] answers(SeaGames x, List<Call> asked) {
        long[] row = new long[asked.size()];
        for (int i = 0; i < row.length; i++) {
            row[i] = asked.get(i).on(x);
        }
        return row;
    }

    private static void compare(String what, List<Call> asked, long[] got, long[] due) {
        for (int i = 0; i < due.length; i++) {
            Due.is(what + ", " + asked.get(i).text(), got[i], due[i]);
        }
    }

    /** Whatever can be asked; last the calls that change something, for what they answer is how it was. */
    private static List<Call> allAnswers(Scene s) {
        List<Call> asked = new ArrayList<>();
        for (int what = 0; what < 8; what++) {
            asked.add(call("count", what));
        }
        for (int tick : new int[] {0, 3, 10, 30, 99}) {
            asked.add(call("truly", tick, 6));
            for (int hand = 0; hand < s.hands; hand++) {
                int other = (hand + 1) % s.hands;
                asked.addAll(List.of(call("truly", tick, hand), call("truly", tick, 10 + hand),
                        call("machine", hand, tick), call("known", other, hand, tick),
                        call("known", hand, hand, tick), call("takes", other, tick, hand, tick / 2),
                        call("takes", other, tick, hand, tick), call("shown", hand, tick, 6),
                        call("shown", hand, tick, other), call("back", hand, tick), call("agreed", hand, tick),
                        call("sees", hand, other, tick), call("could", hand, other, tick),
                        call("couldBe", hand, other, tick, other)));
            }
        }
        for (int hand = 0; hand < s.hands; hand++) {
            asked.add(call("wrong", hand, 99, 0));
            asked.add(call("wrong", hand, 99, 1));
        }
        asked.addAll(List.of(call("price", 0, 99), call("price", 3, 50), call("best", 99), call("pairs"),
                call("odds", 9, 4, 3, 2, 1), call("odds", 9, 4, 3, 2, 0)));
        for (int player = 0; player < s.players; player++) {
            asked.add(call("mate", player));
        }
        for (int slot = 0; slot < 4; slot++) {
            asked.addAll(List.of(call("differs", slot, 1), call("differs", slot, 5), call("tried", slot, 1, 99, 6),
                    call("tried", slot, 4, 20, 0), call("tried", slot, 2, 60, 11)));
        }
        changes(asked, s);
        return asked;
    }

    private static void changes(List<Call> asked, Scene s) {
        for (int hand = 0; hand < s.hands; hand++) {
            for (int other = 0; other < hand; other++) {
                asked.add(call("line", hand, other, 0));
            }
            for (int tick = 0; tick < 14; tick++) {
                asked.add(call("press", hand, tick, 0));
                asked.add(call("lose", hand, tick, 0));
            }
            asked.add(call("hold", hand, 14, 99, 0));
            asked.add(call("lose", hand, 99, 0));
        }
        for (int what = 0; what < 7; what++) {
            asked.add(call("rule", what, 1));
        }
        for (int a = 0; a < 4; a++) {
            for (int b = 0; b <= a; b++) {
                asked.add(call("far", a, b, 1));
            }
        }
        asked.add(call("player", 3, 3));
        asked.add(call("pairs"));
        for (int slot = 0; slot < 4; slot++) {
            asked.addAll(List.of(call("again", slot), call("count", 0), call("count", 1), call("count", 2),
                    call("count", 3), call("count", 4), call("count", 5), call("truly", 50, 0), call("truly", 99, 6),
                    call("truly", 99, 11), call("rule", 0, 2), call("rule", 1, 2), call("rule", 2, 2)));
        }
        asked.add(call("keep", 0));
        asked.add(call("count", 7));
    }
}
