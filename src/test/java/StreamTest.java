/** Promises 15 to 18: stream, slack, trip, leave. */
public final class StreamTest {
    private static final Check CHECK = new Check("StreamTest");
    private static final String STEPS = "p5000165000";
    // Falls through 500 at tick 256, where its turn is 0.
    private static final String SLOW = "p5000015000";
    private static final String STILL = "p5000010000";
    private static final String STILL_510 = "p5100010000";

    public static void main(String[] args) {
        streams();
        slacks();
        trips();
        longestTrip();
        leaves();
        refusals();
        CHECK.end();
    }

    private static void streams() {
        TideTable table = Check.read(STEPS + "," + STILL_510);
        CHECK.due("stream(0, 1, 0)", table.stream(0, 1, 0), 490);
        CHECK.due("stream(1, 0, 0)", table.stream(1, 0, 0), -490);
        CHECK.due("stream(0, 1, 1439)", table.stream(0, 1, 1439), -508);
        CHECK.due("stream(0, 0, 5)", table.stream(0, 0, 5), 0);
        table.be(1, 4);
        table.mark(1, 9);
        CHECK.due("stream to a storm", table.stream(0, 1, 144), 500 - 519);
    }

    private static void slacks() {
        TideTable zero = Check.read(SLOW + "," + STILL);
        CHECK.due("slack where the stream is 0", zero.slack(0, 1, 256), 256);
        CHECK.due("slack 143 behind", zero.slack(0, 1, 113), 256);
        CHECK.due("slack 144 behind", zero.slack(0, 1, 112), TideTable.NONE);
        CHECK.due("slack behind the stream of 0", zero.slack(0, 1, 257), TideTable.NONE);
        CHECK.due("slack behind the stream of 0, the other way", zero.slack(1, 0, 257), TideTable.NONE);
        CHECK.due("slack between a port and itself", zero.slack(0, 0, 1439), 1439);
        TideTable cross = Check.read(SLOW + "," + STILL_510);
        CHECK.due("stream ahead of the turn", cross.stream(0, 1, 252), 2);
        CHECK.due("stream at the turn", cross.stream(0, 1, 253), -1);
        CHECK.due("slack where it turns to below", cross.slack(0, 1, 253), 253);
        CHECK.due("slack where it turns to above", cross.slack(1, 0, 253), 253);
        CHECK.due("slack ahead of the turn", cross.slack(0, 1, 252), 253);
        CHECK.due("slack behind the turn", cross.slack(0, 1, 254), TideTable.NONE);
        CHECK.due("turn 143 behind", cross.slack(0, 1, 110), 253);
        CHECK.due("turn 144 behind", cross.slack(0, 1, 109), TideTable.NONE);
        TideTable one = Check.read("p5000015400,p0000010000");
        CHECK.due("stream of 1", one.stream(0, 1, 448), 1);
        CHECK.due("stream of -1", one.stream(0, 1, 449), -1);
        CHECK.due("slack from 1 to -1", one.slack(0, 1, 449), 449);
        CHECK.due("slack from -1 to 1", one.slack(1, 0, 449), 449);
        TideTable late = Check.read(STEPS + "," + STILL);
        CHECK.due("slack beyond the last day", late.slack(0, 1, 1439), 1456);
        TideTable ahead = Check.read("p5000161047,p5000161048");
        CHECK.due("stream at tick 0", ahead.stream(0, 1, 0), -10);
        CHECK.due("stream at tick 31", ahead.stream(0, 1, 31), 10);
        CHECK.due("stream at tick 0 from the other", ahead.stream(1, 0, 0), 10);
        CHECK.due("slack from tick 0", ahead.slack(0, 1, 0), 17);
        TideTable turned = Check.read("p0100010000,t0001019900");
        turned.take(1, 0);
        turned.mark(1, 11);
        // Day -1 is odd: 10 less 11 ahead of tick 0, 10 less 0 from it on.
        CHECK.due("slack at tick 0, by the tick ahead of it", turned.slack(0, 1, 0), 0);
        CHECK.due("slack at tick 1", turned.slack(0, 1, 1), 144);
    }

    private static void trips() {
        TideTable table = Check.read(STILL + "," + STILL_510 + ",p5200010000,p9900010000");
        CHECK.due("trip of pace 30", table.trip(0, 0, 0, 30), 10);
        CHECK.due("trip of pace 7", table.trip(0, 0, 1439, 7), 43);
        CHECK.due("trip of pace 2", table.trip(0, 0, 0, 2), 150);
        CHECK.due("trip of pace 1", table.trip(0, 0, 0, 1), TideTable.NONE);
        CHECK.due("a stream of -10 is rounded to -1", table.trip(0, 1, 0, 2), TideTable.NONE);
        CHECK.due("a stream of -10 and pace 3", table.trip(0, 1, 0, 3), 150);
        CHECK.due("a stream of 10 is rounded to 0", table.trip(1, 0, 0, 2), 150);
        CHECK.due("a stream of 20", table.trip(2, 0, 0, 1), 150);
        CHECK.due("a stream of -490 and pace 30", table.trip(0, 3, 0, 30), 60);
        CHECK.due("a stream of -490 and pace 24", table.trip(0, 3, 0, 24), TideTable.NONE);
        CHECK.due("a stream of 490 and pace 1", table.trip(3, 0, 0, 1), 12);
        TideTable fast = Check.read("p9900169900169900169900,p0000169932169932169932");
        CHECK.due("a trip of one tick", fast.trip(0, 1, 0, 1), 1);
        // At tick 32 the stream is far below 0, and no way is lost by it.
        CHECK.due("stream against the trip", fast.stream(0, 1, 32) < -1000 ? 1 : 0, 1);
        CHECK.due("a trip that waits", fast.trip(0, 1, 24, 1), 28);
        // Its stream is below 0 from tick 33 to 95; then it gets 1, 2, 3, 4, 5, 7, 8, 9 and so on far.
        TideTable waits = Check.read("p5000085000," + STILL);
        CHECK.due("a trip that waits for 63 ticks", waits.trip(0, 1, 33, 1), 87);
        CHECK.due("a trip that waits behind a tick", waits.trip(0, 1, 32, 1), 88);
    }

    /** Ways of 0, 1 and 2 in a tick, so that one trip lasts 200 ticks and the next would last 201. */
    private static void longestTrip() {
        TideTable table = Check.read("p5000010300," + STILL);
        CHECK.due("way of 199 ticks from 37", wayBy(table, 37, 199) < 300 ? 1 : 0, 1);
        CHECK.due("way of 200 ticks from 37", wayBy(table, 37, 200) >= 300 ? 1 : 0, 1);
        CHECK.due("a trip of 200 ticks", table.trip(0, 1, 37, 1), 200);
        TideTable next = Check.read("p5000010300," + STILL);
        CHECK.due("way of 200 ticks from 38", wayBy(next, 38, 200) < 300 ? 1 : 0, 1);
        CHECK.due("way of 201 ticks from 38", wayBy(next, 38, 201) >= 300 ? 1 : 0, 1);
        CHECK.due("a trip of 201 ticks", next.trip(0, 1, 38, 1), TideTable.NONE);
    }

    private static int wayBy(TideTable table, int tick, int ticks) {
        int far = 0;
        for (int i = 0; i < ticks; i++) {
            far += Math.max(0, 1 + Math.floorDiv(table.stream(0, 1, tick + i), 20));
        }
        return far;
    }

    private static void leaves() {
        TideTable table = Check.read(STEPS + "," + STEPS + "," + STILL);
        CHECK.due("leave for 1000, pace 30, day 0", table.leave(0, 1, 0, 30, 1000), 54);
        CHECK.due("leave for 1000, pace 30, day 1", table.leave(0, 1, 1, 30, 1000), 182);
        CHECK.due("leave for 1000, pace 30, day 9", table.leave(0, 1, 9, 30, 1000), 1334);
        CHECK.due("leave for 1000, pace 3, day 0", table.leave(0, 1, 0, 3, 1000), 28);
        CHECK.due("leave for 1000, pace 2, day 9", table.leave(0, 1, 9, 2, 1000), 1322);
        CHECK.due("leave for 1001", table.leave(0, 1, 0, 30, 1001), TideTable.NONE);
        CHECK.due("leave, pace 1", table.leave(0, 1, 0, 1, -2000), TideTable.NONE);
        CHECK.due("leave at once", table.leave(2, 2, 3, 30, 500), 432);
        CHECK.due("leave at once for any need", table.leave(2, 2, 0, 30, -2000), 0);
        CHECK.due("leave for the greatest need", table.leave(2, 2, 9, 30, 4000), TideTable.NONE);
        // It rises all the while, and a trip lasts ten ticks: the first tick at which it can leave is known.
        TideTable rises = Check.read("p0000019932");
        CHECK.due("leave at the last tick of a day", rises.leave(0, 0, 0, 30, rises.height(0, 153)), 143);
        CHECK.due("leave behind the last tick", rises.leave(0, 0, 0, 30, rises.height(0, 154)), TideTable.NONE);
        CHECK.due("leave at the first tick of the next", rises.leave(0, 0, 1, 30, rises.height(0, 154)), 144);
        CHECK.due("it rises", rises.height(0, 154) > rises.height(0, 153) ? 1 : 0, 1);
        // The need is met from tick 144 on alone, ten ticks behind tick 134.
        TideTable last = Check.read(STILL + ",t5001010000");
        last.mark(1, 99);
        CHECK.due("stream to the storm", last.stream(0, 1, 144), -99);
        CHECK.due("leave for the storm", last.leave(0, 1, 0, 30, 599), 134);
        CHECK.due("leave for the storm, with need 600", last.leave(0, 1, 0, 30, 600), TideTable.NONE);
        CHECK.due("leave for a day without storm", last.leave(0, 1, 2, 30, 599), 422);
    }

    private static void refusals() {
        TideTable table = Check.read(STEPS + "," + STILL);
        for (int none : new int[] {-1, 2, 4, Integer.MIN_VALUE, Integer.MAX_VALUE}) {
            CHECK.refused("stream from no port", table, () -> table.stream(none, 0, -1), TideTable.UNKNOWN);
            CHECK.refused("stream to no port", table, () -> table.stream(0, none, -1), TideTable.UNKNOWN);
            CHECK.refused("slack from no port", table, () -> table.slack(none, 0, -1), TideTable.UNKNOWN);
            CHECK.refused("slack to no port", table, () -> table.slack(0, none, -1), TideTable.UNKNOWN);
            CHECK.refused("trip from no port", table, () -> table.trip(none, 0, -1, 0), TideTable.UNKNOWN);
            CHECK.refused("trip to no port", table, () -> table.trip(0, none, -1, 0), TideTable.UNKNOWN);
            CHECK.refused("leave from no port", table, () -> table.leave(none, 0, -1, 0, 0), TideTable.UNKNOWN);
            CHECK.refused("leave to no port", table, () -> table.leave(0, none, -1, 0, 0), TideTable.UNKNOWN);
        }
        for (int tick : new int[] {-1, 1440, Integer.MIN_VALUE, Integer.MAX_VALUE}) {
            CHECK.refused("stream at " + tick, table, () -> table.stream(0, 1, tick), TideTable.OUTSIDE);
            CHECK.refused("slack at " + tick, table, () -> table.slack(0, 1, tick), TideTable.OUTSIDE);
            CHECK.refused("trip at " + tick, table, () -> table.trip(0, 1, tick, 1), TideTable.OUTSIDE);
        }
        for (int pace : new int[] {0, 31, -1, Integer.MIN_VALUE, Integer.MAX_VALUE}) {
            CHECK.refused("trip of pace " + pace, table, () -> table.trip(0, 1, 0, pace), TideTable.OUTSIDE);
            CHECK.refused("leave of pace " + pace, table, () -> table.leave(0, 1, 0, pace, 0), TideTable.OUTSIDE);
        }
        for (int day : new int[] {-1, 10, Integer.MIN_VALUE, Integer.MAX_VALUE}) {
            CHECK.refused("leave on day " + day, table, () -> table.leave(0, 1, day, 1, 0), TideTable.OUTSIDE);
        }
        for (int need : new int[] {-2001, 4001, Integer.MIN_VALUE, Integer.MAX_VALUE}) {
            CHECK.refused("leave for " + need, table, () -> table.leave(0, 1, 0, 1, need), TideTable.OUTSIDE);
        }
    }
}
