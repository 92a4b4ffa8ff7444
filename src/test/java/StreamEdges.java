/** The boundary cases of promises 15 to 18: streams, when they turn, trips, and when to leave. */
final class StreamEdges {
    private static final int UNKNOWN = TideTable.UNKNOWN;
    private static final int OUTSIDE = TideTable.OUTSIDE;
    private static final int NONE = TideTable.NONE;
    private static final int[] NO_PORTS = {-1, 2, 4, Integer.MIN_VALUE, Integer.MAX_VALUE};
    private static final int[] NO_TICKS = {-1, 1440, Integer.MIN_VALUE, Integer.MAX_VALUE};
    private static final int[] NO_DAYS = {-1, 10, Integer.MIN_VALUE, Integer.MAX_VALUE};
    private static final int[] NO_PACES = {0, 31, -1, Integer.MIN_VALUE, Integer.MAX_VALUE};
    private static final int[] NO_NEEDS = {-2001, 4001, Integer.MIN_VALUE, Integer.MAX_VALUE};
    private static final String STILL = "p5000010000";
    // Falls through 500 at tick 256, where its turn is 0, and goes on to fall.
    private static final String SLOW = "p5000015000";

    private final Edge edge;

    StreamEdges(Edge edge) {
        this.edge = edge;
    }

    void all() {
        streams();
        slackWhereItIs0();
        slackWhereItTurns();
        slackAtTheEnds();
        slackRefusals();
        waysOfATick();
        tripsOf300();
        tripsOf200Ticks();
        tripRefusals();
        leaves();
        leavesAtTheEndsOfDays();
        leaveRefusals();
    }

    private void streams() {
        edge.says(Edge.TERMS, "by how much the HEIGHT of the first one is greater (less than 0: less)");
        TideTable table = Check.read("p9900019900019900019900,p0000019932019932019932");
        edge.due("the greatest", table.stream(0, 1, 0), 6930);
        edge.due("the least", table.stream(1, 0, 0), -6930);
        edge.due("of a port and itself", table.stream(1, 1, 0), 0);
        edge.says(15, "UNKNOWN: one, other; OUTSIDE: tick (0 to 1439).");
        TideTable still = Check.read(STILL + ",p5100010000");
        edge.due("stream at tick 0", still.stream(0, 1, 0), -10);
        edge.due("stream at tick 1439", still.stream(1, 0, 1439), 10);
        for (int tick : NO_TICKS) {
            edge.refused("tick " + tick, still, () -> still.stream(0, 1, tick), OUTSIDE);
        }
        for (int none : NO_PORTS) {
            edge.refused("from " + none, still, () -> still.stream(none, 0, 0), UNKNOWN);
            edge.refused("to " + none, still, () -> still.stream(0, none, 0), UNKNOWN);
            edge.refused("to " + none + ", tick -1", still, () -> still.stream(0, none, -1), UNKNOWN);
        }
    }

    private void slackWhereItIs0() {
        edge.says(Edge.TERMS, "the first TICK from a TICK on (143 behind it at most) at which the STREAM is 0");
        TideTable table = Check.read(SLOW + "," + STILL);
        edge.due("stream at tick 255", table.stream(0, 1, 255), 3);
        edge.due("stream at tick 256", table.stream(0, 1, 256), 0);
        edge.due("stream at tick 257", table.stream(0, 1, 257), -4);
        edge.due("that tick itself", table.slack(0, 1, 256), 256);
        edge.due("the next one", table.slack(0, 1, 255), 256);
        edge.due("143 behind", table.slack(0, 1, 113), 256);
        edge.due("144 behind", table.slack(0, 1, 112), NONE);
        edge.due("a stream that is 0 all the while", table.slack(0, 0, 7), 7);
        edge.due("below 0, where that ahead was 0", table.slack(0, 1, 257), NONE);
        edge.due("above 0, where that ahead was 0", table.slack(1, 0, 257), NONE);
    }

    private void slackWhereItTurns() {
        edge.says(Edge.TERMS, "or is above 0 where that one TICK ahead was below, or below where that was above; none.");
        TideTable table = Check.read(SLOW + ",p5100010000");
        edge.due("stream at tick 252", table.stream(0, 1, 252), 2);
        edge.due("stream at tick 253", table.stream(0, 1, 253), -1);
        edge.due("to below, at that tick itself", table.slack(0, 1, 253), 253);
        edge.due("to above, at that tick itself", table.slack(1, 0, 253), 253);
        edge.due("to below, the next one", table.slack(0, 1, 252), 253);
        edge.due("to above, 143 behind", table.slack(1, 0, 110), 253);
        edge.due("to below, 143 behind", table.slack(0, 1, 110), 253);
        edge.due("to above, 144 behind", table.slack(1, 0, 109), NONE);
        edge.due("to below, 144 behind", table.slack(0, 1, 109), NONE);
        edge.due("behind the turn", table.slack(0, 1, 254), NONE);
        TideTable one = Check.read("p5000015400,p0000010000");
        edge.due("a stream of 1", one.stream(0, 1, 448), 1);
        edge.due("a stream of -1", one.stream(0, 1, 449), -1);
        edge.due("from 1 to -1", one.slack(0, 1, 449), 449);
        edge.due("from -1 to 1", one.slack(1, 0, 449), 449);
        TideTable still = Check.read(STILL + ",p5100010000");
        edge.due("always below", still.slack(0, 1, 0), NONE);
        edge.due("always above", still.slack(1, 0, 0), NONE);
        edge.says(16, "SLACK; NONE.");
        edge.due("always below, from the last tick on", still.slack(0, 1, 1439), NONE);
        edge.due("tick 0 is not NONE", table.slack(0, 0, 0), 0);
    }

    private void slackAtTheEnds() {
        edge.says(16, "OUTSIDE: tick (0 to 1439).");
        // Ahead of tick 0 its turn is above 0, at tick 0 it is -98: the stream turns at tick 0 itself.
        TideTable first = Check.read("p5000335017," + STILL);
        edge.due("stream at tick 0", first.stream(0, 1, 0), -49);
        edge.due("slack at tick 0", first.slack(0, 1, 0), 0);
        edge.due("slack at tick 0, the other way", first.slack(1, 0, 0), 0);
        edge.due("slack from tick 1 on", first.slack(0, 1, 1), 16);
        // Its next 0 behind tick 1439 is at step 48 of the round, 17 ticks later.
        TideTable last = Check.read("p5000165000," + STILL);
        edge.due("slack from the last tick on", last.slack(0, 1, 1439), 1456);
        TideTable far = Check.read("p5000011214,p5100010000");
        edge.due("143 behind the last tick", far.slack(0, 1, 1439), 1582);
        TideTable farther = Check.read("p5000011114,p5100010000");
        edge.due("144 behind the last tick", farther.slack(0, 1, 1439), NONE);
        for (int tick : NO_TICKS) {
            edge.refused("tick " + tick, last, () -> last.slack(0, 1, tick), OUTSIDE);
        }
    }

    private void slackRefusals() {
        edge.says(16, "UNKNOWN: one, other; OUTSIDE: tick (0 to 1439).");
        TideTable table = Check.read(SLOW + "," + STILL);
        for (int none : NO_PORTS) {
            edge.refused("from " + none, table, () -> table.slack(none, 0, 0), UNKNOWN);
            edge.refused("to " + none, table, () -> table.slack(0, none, 0), UNKNOWN);
            edge.refused("from " + none + ", tick -1", table, () -> table.slack(none, 0, -1), UNKNOWN);
            edge.refused("to " + none + ", tick 1440", table, () -> table.slack(0, none, 1440), UNKNOWN);
        }
    }

    /** How long a trip lasts with a stream on all of day 1, from a stormy port or to it. */
    private int tripWith(int stream, int pace) {
        TideTable table = Check.read(STILL + ",t5000010000");
        table.mark(1, Math.abs(stream));
        return stream < 0 ? table.trip(0, 1, 144, pace) : table.trip(1, 0, 144, pace);
    }

    private void waysOfATick() {
        edge.says(Edge.TERMS, "it gets as far as the PACE and the STREAM by 20, rounded down (towards less)");
        edge.due("a stream of 0", tripWith(0, 5), 60);
        edge.due("a stream of 19", tripWith(19, 5), 60);
        edge.due("a stream of 20", tripWith(20, 5), 50);
        edge.due("a stream of 39", tripWith(39, 5), 50);
        edge.due("a stream of 40", tripWith(40, 5), 43);
        edge.due("a stream of -1", tripWith(-1, 5), 75);
        edge.due("a stream of -20", tripWith(-20, 5), 75);
        edge.due("a stream of -21", tripWith(-21, 5), 100);
        edge.due("a stream of 99", tripWith(99, 5), 34);
        edge.says(Edge.TERMS, "but never less than 0");
        // On day 1 the stream of -99 takes 5 off the pace; behind it, from tick 288 on, there is none.
        edge.due("a way of 1 in each tick of day 1", tripWith(-99, 6), 170);
        edge.due("a way of 0 in each tick of day 1", tripWith(-99, 5), NONE);
        TideTable waits = Check.read(STILL + ",t5099010000");
        edge.due("no way is lost, pace 5", waits.trip(0, 1, 228, 5), 120);
        edge.due("no way is lost, pace 4", waits.trip(0, 1, 228, 4), 135);
        edge.due("no way is lost, pace 3", waits.trip(0, 1, 228, 3), 160);
    }

    private void tripsOf300() {
        edge.says(Edge.TERMS, "when it has got 300 far, or more, it has arrived");
        TideTable table = Check.read(STILL);
        edge.due("10 times 30 is 300", table.trip(0, 0, 0, 30), 10);
        edge.due("13 times 23 is 299", table.trip(0, 0, 0, 23), 14);
        edge.due("11 times 29 is 319", table.trip(0, 0, 0, 29), 11);
        edge.due("12 times 25 is 300", table.trip(0, 0, 0, 25), 12);
        edge.due("12 times 26 is 312", table.trip(0, 0, 0, 26), 12);
        edge.due("150 times 2 is 300", table.trip(0, 0, 0, 2), 150);
        edge.due("pace 1 and no stream", table.trip(0, 0, 0, 1), NONE);
        // 1 and 6930 by 20 are 347 in one tick.
        TideTable fast = Check.read("p9900019900019900019900,p0000019932019932019932");
        edge.due("a trip of one tick", fast.trip(0, 1, 0, 1), 1);
        edge.due("a trip against all", fast.trip(1, 0, 0, 30), NONE);
    }

    private void tripsOf200Ticks() {
        edge.says(Edge.TERMS, "none, if that is not so by 200 of them.");
        TideTable table = Check.read("p5000011633," + STILL);
        int far = 0;
        for (int i = 0; i < 201; i++) {
            far += Math.max(0, 1 + Math.floorDiv(table.stream(0, 1, 142 + i), 20));
            if (i == 199) {
                edge.due("the way of 200 ticks is less than 300", far < 300 ? 1 : 0, 1);
            }
        }
        edge.due("the way of 201 ticks is enough", far >= 300 ? 1 : 0, 1);
        edge.due("a trip that would last 201 ticks", table.trip(0, 1, 142, 1), NONE);
        edge.due("a trip of 200 ticks", table.trip(0, 1, 143, 1), 200);
        edge.due("a trip of 199 ticks", table.trip(0, 1, 144, 1), 199);
    }

    private void tripRefusals() {
        edge.says(17, "OUTSIDE: tick (0 to 1439), pace (1 to 30).");
        TideTable table = Check.read(STILL + ",p5200010000");
        edge.due("pace 1 with a stream of 20", table.trip(1, 0, 0, 1), 150);
        edge.due("pace 30 from tick 1439 on", table.trip(0, 0, 1439, 30), 10);
        edge.due("pace 2 from tick 1439 on", table.trip(0, 0, 1439, 2), 150);
        for (int pace : NO_PACES) {
            edge.refused("pace " + pace, table, () -> table.trip(0, 1, 0, pace), OUTSIDE);
        }
        for (int tick : NO_TICKS) {
            edge.refused("tick " + tick, table, () -> table.trip(0, 1, tick, 1), OUTSIDE);
        }
        edge.says(17, "UNKNOWN: one, other; OUTSIDE: tick (0 to 1439), pace (1 to 30).");
        for (int none : NO_PORTS) {
            edge.refused("from " + none, table, () -> table.trip(none, 0, 0, 1), UNKNOWN);
            edge.refused("to " + none, table, () -> table.trip(0, none, 0, 1), UNKNOWN);
            edge.refused("from " + none + ", all wrong", table, () -> table.trip(none, 0, -1, 0), UNKNOWN);
            edge.refused("to " + none + ", all wrong", table, () -> table.trip(0, none, 1440, 31), UNKNOWN);
        }
        // In day 10, behind the last one that can be asked for, there is no storm.
        TideTable storm = Check.read(STILL + ",t5099010000");
        edge.due("a trip out of the storm", storm.trip(0, 1, 1439, 5), 61);
    }

    private void leaves() {
        edge.says(Edge.TERMS, "(as many later as it LASTS) the HEIGHT of the second PORT is a NEED or more; none.");
        TideTable still = Check.read(STILL + "," + STILL);
        edge.due("a need that is met", still.leave(0, 1, 0, 30, 500), 0);
        edge.due("a need of one more", still.leave(0, 1, 0, 30, 501), NONE);
        edge.due("no trip, though the need is met", still.leave(0, 1, 0, 1, -2000), NONE);
        // From tick 144 on it is 501 high, and a trip to it lasts 10 ticks.
        TideTable storm = Check.read(STILL + ",t5001010000");
        edge.due("there when the storm begins", storm.leave(0, 1, 0, 30, 501), 134);
        edge.due("a storm of the second port, not of the first", storm.leave(1, 0, 0, 30, 501), NONE);
        // From day 1 on each tick gets 29 far: a trip lasts 11 ticks, until the storm ends at tick 288.
        edge.due("in the storm at once", storm.leave(0, 1, 1, 30, 501), 144);
        edge.due("of a day without storm", storm.leave(0, 1, 2, 30, 501), 422);
        edge.says(18, "LEAVE; NONE.");
        edge.due("tick 0 is not NONE", still.leave(0, 0, 0, 2, 0), 0);
        edge.due("none on any day", still.leave(0, 0, 9, 30, 501), NONE);
    }

    private void leavesAtTheEndsOfDays() {
        edge.says(Edge.TERMS, "LEAVE: the first TICK of a DAY at which a TRIP can leave");
        TideTable still = Check.read(STILL);
        edge.row("leave on day i", day -> still.leave(0, 0, day, 30, 500),
                0, 144, 288, 432, 576, 720, 864, 1008, 1152, 1296, OUTSIDE);
        // It rises: -586 at tick 153, -581 at tick 154, ten ticks behind the last tick of day 0 and the next one.
        TideTable rises = Check.read("p0000019932");
        edge.due("the last tick of day 0", rises.leave(0, 0, 0, 30, -586), 143);
        edge.due("no tick of day 0", rises.leave(0, 0, 0, 30, -585), NONE);
        edge.due("the first tick of day 1", rises.leave(0, 0, 1, 30, -585), 144);
        // Trips up to tick 142 are too long; that of tick 143 lasts 200 ticks.
        TideTable longest = Check.read("p5000011633," + STILL);
        edge.due("the longest trip at the last tick", longest.leave(0, 1, 0, 1, 500), 143);
        edge.due("it comes too late", longest.leave(0, 1, 0, 1, 501), NONE);
    }

    private void leaveRefusals() {
        edge.says(18, "UNKNOWN: one, other; OUTSIDE: day (0 to 9), pace (1 to 30), need (-2000 to 4000).");
        TideTable table = Check.read(STILL + ",t9999019900019900019900");
        edge.due("the least need", table.leave(0, 0, 0, 30, -2000), 0);
        edge.due("the greatest need", table.leave(0, 0, 9, 30, 4000), NONE);
        edge.due("pace 1", table.leave(1, 0, 0, 1, 500), 0);
        for (int day : NO_DAYS) {
            edge.refused("day " + day, table, () -> table.leave(0, 1, day, 1, 0), OUTSIDE);
        }
        for (int pace : NO_PACES) {
            edge.refused("pace " + pace, table, () -> table.leave(0, 1, 0, pace, 0), OUTSIDE);
        }
        for (int need : NO_NEEDS) {
            edge.refused("need " + need, table, () -> table.leave(0, 1, 0, 1, need), OUTSIDE);
        }
        for (int none : NO_PORTS) {
            edge.refused("from " + none, table, () -> table.leave(none, 0, 0, 1, 0), UNKNOWN);
            edge.refused("to " + none, table, () -> table.leave(0, none, 0, 1, 0), UNKNOWN);
            edge.refused("from " + none + ", all wrong", table, () -> table.leave(none, 0, 10, 0, 4001), UNKNOWN);
            edge.refused("to " + none + ", all wrong", table, () -> table.leave(0, none, -1, 31, -2001), UNKNOWN);
        }
        // Heights above the greatest need, and below the least one.
        TideTable high = Check.read("t9999169948169948169948,p0000169932169932169932,t9999169948169948169948");
        edge.due("the greatest need is met", high.leave(0, 2, 1, 30, 4000), 196);
        // A trip of 60 ticks; below -2000 it is from tick 56 to 72.
        edge.due("the least need is not met at once", high.leave(1, 1, 0, 5, -2000), 13);
    }
}
