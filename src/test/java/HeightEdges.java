/** The boundary cases of promises 9 to 11: the round, sums, and heights of each kind. */
final class HeightEdges {
    private static final int[] NO_TICKS = {-1, 1440, Integer.MIN_VALUE, Integer.MAX_VALUE};
    private static final int[] NO_PORTS = {-1, 2, 4, Integer.MIN_VALUE, Integer.MAX_VALUE};
    // A step of the round in each tick, and so little size that the sum is one off: 501, 500, 500, 499.
    private static final String SMALL = "5050160100";

    private final Edge edge;

    HeightEdges(Edge edge) {
        this.edge = edge;
    }

    void all() {
        rounds();
        angles();
        anglesAheadOfTick0();
        turns();
        sums();
        heightsAtTheEnds();
        sills();
        basins();
        followers();
        storms();
    }

    private void rounds() {
        edge.says(Edge.TERMS, "ROUND[32 less N] is 0 less ROUND[N], ROUND[64 less N] is ROUND[N]; "
                + "ROUND[64] is ROUND[0] again.");
        TideTable table = new TideTable();
        edge.due("round(0)", table.round(0), 1000);
        edge.due("round(1)", table.round(1), 995);
        edge.due("round(15)", table.round(15), 98);
        edge.due("round(16)", table.round(16), 0);
        edge.due("round(17)", table.round(17), -98);
        edge.due("round(31)", table.round(31), -995);
        edge.due("round(32)", table.round(32), -1000);
        edge.due("round(33)", table.round(33), -995);
        edge.due("round(47)", table.round(47), -98);
        edge.due("round(48)", table.round(48), 0);
        edge.due("round(49)", table.round(49), 98);
        edge.due("round(63)", table.round(63), 995);
        edge.due("round(64)", table.round(64), 1000);
        edge.says(Edge.TERMS, "ROUND has 64 STEPS, ROUND[0] to ROUND[16] are "
                + "1000, 995, 981, 957, 924, 882, 831, 773, 707, 634, 556, 471, 383, 290, 195, 98, 0;");
        edge.row("round(i)", table::round,
                1000, 995, 981, 957, 924, 882, 831, 773, 707, 634, 556, 471, 383, 290, 195, 98,
                0, -98, -195, -290, -383, -471, -556, -634, -707, -773, -831, -882, -924, -957, -981, -995,
                -1000, -995, -981, -957, -924, -882, -831, -773, -707, -634, -556, -471, -383, -290, -195, -98,
                0, 98, 195, 290, 383, 471, 556, 634, 707, 773, 831, 882, 924, 957, 981, 995,
                1000, TideTable.OUTSIDE);
        edge.says(9, "OUTSIDE: step (0 to 64).");
        for (int step : new int[] {-1, 65, -64, 128, Integer.MIN_VALUE, Integer.MAX_VALUE}) {
            edge.refused("round(" + step + ")", table, () -> table.round(step), TideTable.OUTSIDE);
        }
        TideTable read = Check.read("p" + SMALL);
        edge.due("round(64) with ports", read.round(64), 1000);
    }

    private void angles() {
        edge.says(Edge.TERMS, "The ANGLE of a WAVE at a TICK is its SPEED times that, and 16 times its START, "
                + "its rest by 1024");
        // From START 63 the angles are 1008 to 1023, then 0.
        TideTable last = Check.read("p0000019963");
        edge.due("angle 1008", last.sum(0, 0), 985);
        edge.due("angle 1009", last.sum(0, 1), 985);
        edge.due("angle 1023", last.sum(0, 15), 989);
        edge.due("angle 1024 is 0", last.sum(0, 16), 990);
        edge.due("angle 1025 is 1", last.sum(0, 17), 989);
        // The greatest of all: 99 times 1439 and 16 times 63 is 143469, its rest 109.
        edge.due("the greatest angle", Check.read("p0000999963").sum(0, 1439), 775);
        edge.due("speed 99 at tick 0", Check.read("p0000999900").sum(0, 0), 990);
    }

    private void anglesAheadOfTick0() {
        edge.says(Edge.TERMS, "(0 at least, also ahead of TICK 0)");
        // Ninety-nine ticks ahead of tick 0 the angle is 0 less 9801: its rest is 439, the wave gives -892.
        TideTable table = Check.read("p0000999900,f009999");
        edge.due("99 ticks ahead of tick 0", table.height(1, 0), -884);
        edge.due("at tick 0", table.height(1, 99), 980);
        table.mark(1, 1);
        table.ratio(1, 50);
        // One tick ahead: 1024 less 99 is 925, step 57 and 13 of 16: 773 and 831 make 820.
        edge.due("one tick ahead of tick 0", table.height(1, 0), 405);
        edge.due("a tick behind it", table.height(1, 1), 495);
    }

    private void turns() {
        edge.says(Edge.TERMS, "its TURN is ROUND[N] times (16 less R) and ROUND[N and 1] times R, by 16, rounded down");
        // Size 99 would hide a turn that is off by one less often than size 10 does.
        TideTable falls = Check.read("p0000019900");
        edge.due("R is 0", falls.sum(0, 0), 990);
        edge.due("R is 1: 999", falls.sum(0, 1), 989);
        edge.due("R is 15: 995", falls.sum(0, 15), 985);
        edge.due("the next N: 995", falls.sum(0, 16), 985);
        edge.due("below 0, R is 1: -7", falls.sum(0, 257), -7);
        edge.due("below 0, R is 15: -92", falls.sum(0, 271), -92);
        edge.due("below 0, N is 31, R is 15: -1000", falls.sum(0, 511), -990);
        edge.says(Edge.TERMS, "what it GIVES is its SIZE times its TURN, by 100, rounded down (towards less).");
        TideTable small = Check.read("p" + SMALL);
        edge.row("a size of 1, from step 14 on", i -> small.sum(0, 14 + i), 501, 500, 500, 499, 498);
        TideTable none = Check.read("p5000010000");
        edge.due("a size of 0 at 0", none.sum(0, 0), 500);
        edge.due("a size of 0 below", none.sum(0, 500), 500);
    }

    private void sums() {
        edge.says(Edge.TERMS, "SUM of a PORT at a TICK: 10 times its MEAN, and what all its WAVES GIVE.");
        edge.due("the greatest", Check.read("p9900019900019900019900").sum(0, 0), 3960);
        edge.due("the least", Check.read("p0000019932019932019932").sum(0, 0), -2970);
        TideTable table = Check.read("s0099160100,f010203");
        edge.due("a sill is not in it", table.sum(0, 32), -10);
        edge.due("of a follower without waves", table.sum(1, 0), 10);
        table.add(1, 16, 10, 0);
        edge.due("of a follower with a wave", table.sum(1, 0), 110);
        table.take(0, 0);
        edge.due("without waves", table.sum(0, 0), 0);
        table.be(0, 4);
        edge.due("a storm is not in it", table.sum(0, 144), 0);
        edge.says(10, "UNKNOWN; OUTSIDE: tick (0 to 1439).");
        edge.due("sum(1, 0)", table.sum(1, 0), 110);
        edge.due("sum(1, 1439)", table.sum(1, 1439), -90);
        for (int tick : NO_TICKS) {
            edge.refused("sum(0, " + tick + ")", table, () -> table.sum(0, tick), TideTable.OUTSIDE);
        }
        for (int port : NO_PORTS) {
            edge.refused("sum(" + port + ", 0)", table, () -> table.sum(port, 0), TideTable.UNKNOWN);
            edge.refused("sum(" + port + ", -1)", table, () -> table.sum(port, -1), TideTable.UNKNOWN);
        }
    }

    private void heightsAtTheEnds() {
        edge.says(11, "UNKNOWN; OUTSIDE: tick (0 to 1439).");
        TideTable table = Check.read("p" + SMALL + ",f000050");
        edge.due("height(0, 0)", table.height(0, 0), 510);
        edge.due("height(0, 1439)", table.height(0, 1439), 490);
        edge.due("height(1, 0)", table.height(1, 0), 255);
        edge.due("height(1, 1439)", table.height(1, 1439), 245);
        for (int tick : NO_TICKS) {
            edge.refused("height(0, " + tick + ")", table, () -> table.height(0, tick), TideTable.OUTSIDE);
            edge.refused("height(1, " + tick + ")", table, () -> table.height(1, tick), TideTable.OUTSIDE);
        }
        for (int port : NO_PORTS) {
            edge.refused("height(" + port + ", 0)", table, () -> table.height(port, 0), TideTable.UNKNOWN);
            edge.refused("height(" + port + ", -1)", table, () -> table.height(port, -1), TideTable.UNKNOWN);
        }
        edge.says(Edge.TERMS, "of a plain one its SUM");
        table.mean(0, 0);
        table.mark(0, 99);
        edge.due("a plain one has no sill", table.height(0, 32), -10);
        edge.due("a plain one has no storm", table.height(0, 192), 10);
    }

    private void sills() {
        edge.says(Edge.TERMS, "of a SILLED one its SUM, or 10 times its MARK, if that is more");
        TideTable table = Check.read("s" + SMALL);
        edge.row("from step 14 on", i -> table.height(0, 14 + i), 501, 500, 500, 500, 500);
        edge.row("from step 46 on", i -> table.height(0, 46 + i), 500, 500, 500, 500, 501);
        table.mean(0, 0);
        table.mark(0, 0);
        edge.row("a sill of 0", i -> table.height(0, 14 + i), 1, 0, 0, 0, 0);
        table.mark(0, 99);
        edge.due("a sill of 990", table.height(0, 0), 990);
        table.mean(0, 99);
        edge.due("a sum of 1000 above it", table.height(0, 0), 1000);
        edge.due("a sum of 980 below it", table.height(0, 32), 990);
    }

    private void basins() {
        edge.says(Edge.TERMS, "of a BASIN the greatest of what that would be at this TICK and the six ahead of it");
        TideTable table = Check.read("b0000161000");
        edge.due("six ticks behind the top", table.height(0, 6), 100);
        edge.due("seven ticks behind the top", table.height(0, 7), 99);
        edge.due("sum two ticks behind the top", table.sum(0, 2), 98);
        edge.due("eight ticks behind the top", table.height(0, 8), 98);
        edge.due("on the sill: six ticks behind 9", table.height(0, 21), 9);
        edge.due("on the sill: seven ticks behind 9", table.height(0, 22), 0);
        edge.due("a tick ahead of the rise", table.height(0, 48), 0);
        edge.due("no tick is looked at too early", table.height(0, 49), 9);
        table.mark(0, 99);
        edge.due("a sill above all", table.height(0, 6), 990);
        // The top is one tick ahead of tick 0, then six ticks ahead of it, then seven.
        edge.due("one tick ahead of tick 0", Check.read("b0000161001").height(0, 5), 100);
        edge.due("that is seven ticks ago", Check.read("b0000161001").height(0, 6), 99);
        edge.due("six ticks ahead of tick 0", Check.read("b0000161006").height(0, 0), 100);
        edge.due("seven ticks ahead of tick 0", Check.read("b0000161007").height(0, 0), 99);
    }

    private void followers() {
        edge.says(Edge.TERMS, "of a FOLLOWER what the HEIGHT of PORT 0 was as many TICKS ago as its MARK is, "
                + "times its RATIO, by 100, rounded down (towards less), and 10 times its MEAN");
        TideTable table = Check.read("p0000161000,f000099");
        edge.due("no ticks ago", table.height(1, 0), 99);
        table.mark(1, 99);
        edge.due("99 ticks ago", table.height(1, 99), 99);
        edge.due("99 ticks ago, at tick 131", table.height(1, 131), -99);
        table.ratio(1, 0);
        table.mean(1, 99);
        edge.due("a ratio of 0", table.height(1, 99), 990);
        table.mean(1, 0);
        table.mark(1, 0);
        table.ratio(1, 1);
        edge.due("1 in 100 of 100", table.height(1, 0), 1);
        edge.due("1 in 100 of 99", table.height(1, 1), 0);
        edge.due("1 in 100 of 0", table.height(1, 16), 0);
        edge.due("1 in 100 of -10", table.height(1, 17), -1);
        edge.due("1 in 100 of -100", table.height(1, 32), -1);
        table.mean(1, 5);
        edge.due("rounded ahead of the mean", table.height(1, 17), 49);
        table.be(0, 1);
        edge.due("of a height of 0, not of a sum of -10", table.height(1, 17), 50);
        TideTable own = Check.read("p5000010000,f000050,f000050");
        own.add(2, 16, 99, 0);
        edge.due("its own waves do not lift it", own.height(2, 0), 250);
        own.mean(1, 9);
        edge.due("it follows port 0, not the one ahead of it", own.height(2, 0), 250);
    }

    private void storms() {
        edge.says(Edge.TERMS, "of a STORMY one its SUM, and MARK more, if the number of the DAY is odd.");
        TideTable table = Check.read("t5001010000");
        for (int day = 0; day <= 9; day++) {
            int want = day % 2 == 0 ? 500 : 501;
            edge.due("the first tick of day " + day, table.height(0, 144 * day), want);
            edge.due("the last tick of day " + day, table.height(0, 144 * day + 143), want);
        }
        table.mark(0, 99);
        edge.due("the greatest mark", table.height(0, 144), 599);
        table.mark(0, 0);
        edge.due("the least mark", table.height(0, 144), 500);
        // It falls from tick 256 of day 1 on, and from tick 320 of day 2 on: it keeps nothing, and has no sill.
        TideTable falls = Check.read("t5099165000");
        edge.row("falling on day 1", i -> falls.height(0, 256 + i), 1099, 1096, 1089);
        edge.row("falling on day 2", i -> falls.height(0, 320 + i), 1000, 997, 990);
        edge.due("low on day 2", falls.height(0, 352), 0);
        edge.says(Edge.TERMS, "a DAY has 144 of them; DAYS are numbered from 0.");
        // Day 10 is even: the storm of day 9 ends behind tick 1439, and the stream turns.
        TideTable ends = Check.read("p5100010000,t5020010000");
        edge.due("stream at tick 1439", ends.stream(0, 1, 1439), -10);
        edge.due("slack where day 10 begins", ends.slack(0, 1, 1439), 1440);
        // Day -1 is odd, as are all days but each other one.
        TideTable ahead = Check.read("t5020010000,f000199");
        edge.due("a tick ahead of day 0", ahead.height(1, 0), 514);
        edge.due("the first tick of day 0", ahead.height(1, 1), 495);
    }
}
