import java.util.ArrayList;
import java.util.Arrays;
import java.util.List;
import java.util.function.Supplier;

/**
 * Every call with every mixture of arguments at and beyond their limits, in several states: of several refusals
 * the first is told, a call within all limits is not refused, and behind a refused call all goes on as without it.
 */
public final class RefusalTest {
    private static final int UNKNOWN = TideTable.UNKNOWN;
    private static final int OUTSIDE = TideTable.OUTSIDE;
    private static final int STATE = TideTable.STATE;
    private static final int FULL = TideTable.FULL;
    private static final int TAKEN = 0;
    private static final int LEAST = Integer.MIN_VALUE;
    private static final int MOST = Integer.MAX_VALUE;
    private static final Check CHECK = new Check("RefusalTest");

    // Port 0 has three waves, port 1 follows and has none, port 2 has tides and gates, port 3 is stormy.
    private static final String FOUR = "p5000165000020507991263,f101050,b2000165000,t0030020507";
    private static final String STEPS = "p5000165000";

    private interface Asking {
        int of(TideTable table, int[] arguments);
    }

    /** What an argument may be at its limits, what it may not be, and how it is refused then. */
    private record Argument(int refusal, int[] taken, int[] refused) {
        static Argument outside(int least, int most) {
            return new Argument(OUTSIDE, new int[] {least, most}, new int[] {least - 1, most + 1, LEAST, MOST});
        }

        static Argument numbered(int many) {
            int[] taken = many == 0 ? new int[0] : new int[] {0, many - 1};
            return new Argument(UNKNOWN, taken, new int[] {-1, many, LEAST, MOST});
        }

        int[] all() {
            int[] all = Arrays.copyOf(taken, taken.length + refused.length);
            System.arraycopy(refused, 0, all, taken.length, refused.length);
            return all;
        }

        boolean takes(int value) {
            return Arrays.stream(taken).anyMatch(it -> it == value);
        }
    }

    private final String name;
    private final Supplier<TideTable> making;
    private final int ports;
    private final long[] goesOn;

    private RefusalTest(String name, int ports, Supplier<TideTable> making) {
        this.name = name;
        this.making = making;
        this.ports = ports;
        this.goesOn = answersOf(making.get());
    }

    public static void main(String[] args) {
        new RefusalTest("new", 0, TideTable::new).allCalls();
        new RefusalTest("a page and no ports", 0, () -> Check.typed("p50x")).allCalls();
        new RefusalTest("one port", 1, () -> Check.read(STEPS)).allCalls();
        new RefusalTest("four ports", 4, RefusalTest::four).allCalls();
        new RefusalTest("all full", 4, RefusalTest::full).fullCalls();
        CHECK.end();
    }

    private static TideTable four() {
        TideTable table = Check.read(FOUR);
        table.see(0, 0, true);
        table.image();
        table.mean(2, 50);
        table.see(3, 3, false);
        Check.type(table, STEPS);
        return table;
    }

    private static TideTable full() {
        TideTable table = Check.read(FOUR);
        table.image();
        for (int i = 0; i < 6; i++) {
            table.see(i % 4, 1, false);
        }
        Check.type(table, "x".repeat(96));
        return table;
    }

    /** Answers that tell all that is kept: what is asked of all, the page, the image, and what is read then. */
    private static long[] answersOf(TideTable table) {
        return new long[] {
            table.digest(), table.fault(), table.drawn(50, 9, 1), table.see(0, 2, true), table.restore(),
            table.digest(), table.letter('0'), table.fault(), table.blank(), table.forget(), table.letter('p'),
            table.fault(), table.digest(), table.image(), table.restore(), table.count(6)
        };
    }

    private void call(String call, Asking asking, Argument... arguments) {
        call(call, TAKEN, asking, arguments);
    }

    /** All mixtures; the last refusal is told where no argument is refused. */
    private void call(String call, int lastRefusal, Asking asking, Argument... arguments) {
        List<int[]> mixtures = new ArrayList<>();
        mixtures.add(new int[0]);
        for (Argument argument : arguments) {
            List<int[]> longer = new ArrayList<>();
            for (int[] ahead : mixtures) {
                for (int value : argument.all()) {
                    int[] with = Arrays.copyOf(ahead, ahead.length + 1);
                    with[ahead.length] = value;
                    longer.add(with);
                }
            }
            mixtures = longer;
        }
        for (int[] mixture : mixtures) {
            ask(call + Arrays.toString(mixture), asking, mixture, dueOf(arguments, mixture, lastRefusal));
        }
    }

    private static int dueOf(Argument[] arguments, int[] values, int lastRefusal) {
        for (int i = 0; i < values.length; i++) {
            if (!arguments[i].takes(values[i])) {
                return arguments[i].refusal();
            }
        }
        return lastRefusal;
    }

    private void ask(String call, Asking asking, int[] values, int refusal) {
        TideTable table = making.get();
        int answer = asking.of(table, values);
        if (refusal == TAKEN) {
            boolean refused = answer == UNKNOWN || answer == OUTSIDE || answer == STATE || answer == FULL;
            CHECK.due(name + ": " + call + " is refused", refused ? answer : 0, 0);
        } else {
            CHECK.due(name + ": " + call, answer, refusal);
            CHECK.due(name + ": all goes on behind " + call, Arrays.equals(answersOf(table), goesOn) ? 1 : 0, 1);
        }
    }

    private void allCalls() {
        call("letter", (t, a) -> t.letter(a[0]), Argument.outside(32, 126));
        call("round", (t, a) -> t.round(a[0]), Argument.outside(0, 64));
        call("count", (t, a) -> t.count(a[0]), Argument.outside(0, 6));
        portCalls();
        heightCalls();
        streamCalls();
        changes();
        Argument seed = new Argument(OUTSIDE, new int[] {0, MOST}, new int[] {-1, LEAST});
        call("drawn", ports == 0 ? STATE : TAKEN, (t, a) -> t.drawn(a[0], a[1], a[2]),
                Argument.outside(1, 50), seed, Argument.outside(0, 2));
        call("image", ports == 0 ? STATE : TAKEN, (t, a) -> t.image());
        call("restore", ports == 4 ? TAKEN : STATE, (t, a) -> t.restore());
        call("ports", ports == 4 ? TAKEN : STATE, (t, a) -> t.ports());
    }

    private void portCalls() {
        Argument port = Argument.numbered(ports);
        call("port", (t, a) -> t.port(a[0], a[1]), port, Argument.outside(0, 6));
        call("as", (t, a) -> t.as(a[0], a[1]), port, Argument.outside(0, 4));
        call("wave", (t, a) -> t.wave(a[0], a[1], a[2]), first(), wavesOfFirst(), Argument.outside(0, 2));
    }

    /** Port 0 alone, since what is known of it is not known of all. */
    private Argument first() {
        return new Argument(UNKNOWN, ports == 0 ? new int[0] : new int[] {0}, new int[] {-1, ports, LEAST, MOST});
    }

    private Argument wavesOfFirst() {
        return Argument.numbered(ports == 0 ? 0 : ports == 1 ? 1 : 3);
    }

    private void heightCalls() {
        Argument port = Argument.numbered(ports);
        Argument tick = Argument.outside(0, 1439);
        Argument day = Argument.outside(0, 9);
        Argument need = Argument.outside(-2000, 4000);
        call("sum", (t, a) -> t.sum(a[0], a[1]), port, tick);
        call("height", (t, a) -> t.height(a[0], a[1]), port, tick);
        call("dry", (t, a) -> t.dry(a[0], a[1], a[2]), port, day, need);
        Argument which = new Argument(UNKNOWN, new int[] {0}, new int[] {-1, 144, LEAST, MOST});
        call("tide", (t, a) -> t.tide(a[0], a[1], a[2], a[3]), first(), day, which, Argument.outside(0, 2));
        Argument low = new Argument(OUTSIDE, new int[] {-2000}, new int[] {-2001, 4001, LEAST, MOST});
        call("gate", (t, a) -> t.gate(a[0], a[1], a[2], a[3], a[4]), port, day, low, which, Argument.outside(0, 1));
    }

    private void streamCalls() {
        Argument port = Argument.numbered(ports);
        Argument tick = Argument.outside(0, 1439);
        Argument pace = Argument.outside(1, 30);
        call("stream", (t, a) -> t.stream(a[0], a[1], a[2]), port, port, tick);
        call("slack", (t, a) -> t.slack(a[0], a[1], a[2]), port, port, tick);
        call("trip", (t, a) -> t.trip(a[0], a[1], a[2], a[3]), first(), port, tick, pace);
        call("leave", (t, a) -> t.leave(a[0], a[1], a[2], a[3], a[4]),
                first(), first(), Argument.outside(0, 9), pace, Argument.outside(-2000, 4000));
    }

    private void changes() {
        Argument port = Argument.numbered(ports);
        Argument number = Argument.outside(0, 99);
        call("mean", (t, a) -> t.mean(a[0], a[1]), port, number);
        call("mark", (t, a) -> t.mark(a[0], a[1]), port, number);
        call("ratio", (t, a) -> t.ratio(a[0], a[1]), port, number);
        call("take", (t, a) -> t.take(a[0], a[1]), first(), wavesOfFirst());
        call("add", ports == 4 ? FULL : TAKEN, (t, a) -> t.add(a[0], a[1], a[2], a[3]),
                first(), Argument.outside(1, 99), number, Argument.outside(0, 63));
        Argument ofFirst = new Argument(OUTSIDE, new int[] {0, 1, 2, 4}, new int[] {-1, 3, 5, LEAST, MOST});
        call("be", (t, a) -> t.be(a[0], a[1]), first(), ofFirst);
        if (ports == 4) {
            Argument others = new Argument(UNKNOWN, new int[] {1, 2, 3}, new int[] {-1, 4, LEAST, MOST});
            call("be", (t, a) -> t.be(a[0], a[1]), others, Argument.outside(0, 4));
            call("add", (t, a) -> t.add(a[0], a[1], a[2], a[3]),
                    others, Argument.outside(1, 99), number, Argument.outside(0, 63));
        }
        call("see, it could", (t, a) -> t.see(a[0], a[1], true), port, Argument.outside(0, 3));
        call("see, it could not", (t, a) -> t.see(a[0], a[1], false), port, Argument.outside(0, 3));
    }

    private void fullCalls() {
        call("letter", FULL, (t, a) -> t.letter(a[0]), Argument.outside(32, 126));
        call("see, it could", FULL, (t, a) -> t.see(a[0], a[1], true), Argument.numbered(4), Argument.outside(0, 3));
        call("see, it could not", FULL, (t, a) -> t.see(a[0], a[1], false),
                Argument.numbered(4), Argument.outside(0, 3));
        call("ports", STATE, (t, a) -> t.ports());
    }
}
