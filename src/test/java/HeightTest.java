/** Promises 9 to 14: round, sum, height, tide, gate, dry. */
public final class HeightTest {
    private static final Check CHECK = new Check("HeightTest");
    // Its wave goes on by one step of the round in each tick: 500 and half of ROUND, rounded down.
    private static final String STEPS = "p5000165000";
    private static final int[] NO_PORTS = {-1, 2, 4, Integer.MIN_VALUE, Integer.MAX_VALUE};
    private static final int[] NO_TICKS = {-1, 1440, Integer.MIN_VALUE, Integer.MAX_VALUE};
    private static final int[] NO_DAYS = {-1, 10, Integer.MIN_VALUE, Integer.MAX_VALUE};
    private static final int[] NO_NEEDS = {-2001, 4001, Integer.MIN_VALUE, Integer.MAX_VALUE};

    public static void main(String[] args) {
        rounds();
        sums();
        silledAndBasins();
        followers();
        stormy();
        tides();
        tidesOfFlatWater();
        gates();
        dries();
        refusals();
        CHECK.end();
    }

    private static void rounds() {
        TideTable table = new TideTable();
        int[] quarter = {1000, 995, 981, 957, 924, 882, 831, 773, 707, 634, 556, 471, 383, 290, 195, 98, 0};
        for (int n = 0; n <= 16; n++) {
            CHECK.due("round of " + n, table.round(n), quarter[n]);
            CHECK.due("round of 32 less " + n, table.round(32 - n), -quarter[n]);
            CHECK.due("round of 32 and " + n, table.round(32 + n), -quarter[n]);
            CHECK.due("round of 64 less " + n, table.round(64 - n), quarter[n]);
        }
        for (int step : new int[] {-1, 65, Integer.MIN_VALUE, Integer.MAX_VALUE}) {
            CHECK.refused("round(" + step + ")", table, () -> table.round(step), TideTable.OUTSIDE);
        }
    }

    private static void sums() {
        TideTable steps = Check.read(STEPS);
        CHECK.due("sum(0, 0)", steps.sum(0, 0), 1000);
        CHECK.due("sum(0, 1)", steps.sum(0, 1), 997);
        CHECK.due("sum(0, 31)", steps.sum(0, 31), 2);
        CHECK.due("sum(0, 32)", steps.sum(0, 32), 0);
        CHECK.due("sum(0, 1439)", steps.sum(0, 1439), 2);
        TideTable slow = Check.read("p0000019900");
        CHECK.due("sum between two steps", slow.sum(0, 1), 989);
        CHECK.due("sum rounded towards less", slow.sum(0, 529), -986);
        CHECK.due("sum of a round's end", slow.sum(0, 1024), 990);
        CHECK.due("sum between steps 63 and 64", slow.sum(0, 1023), 989);
        TideTable begun = Check.read("p0700161016");
        CHECK.due("sum with a start", begun.sum(0, 0), 70);
        CHECK.due("sum with a start, later", begun.sum(0, 1), 60);
        TideTable three = Check.read("s1099161000161032160100");
        CHECK.due("sum of three waves", three.sum(0, 0), 100 + 100 - 100 + 10);
        CHECK.due("sum of three waves, rounded one by one", three.sum(0, 1), 100 + 99 - 100 + 9);
        CHECK.due("height, where the sill is above", three.height(0, 1), 990);
    }

    private static void silledAndBasins() {
        TideTable table = Check.read("s5050165000,b5050165000");
        CHECK.due("silled at 15", table.height(0, 15), 549);
        CHECK.due("silled at 16", table.height(0, 16), 500);
        CHECK.due("silled at 17", table.height(0, 17), 500);
        CHECK.due("silled at 32", table.height(0, 32), 500);
        CHECK.due("basin at 0", table.height(1, 0), 1000);
        CHECK.due("basin at 6", table.height(1, 6), 1000);
        CHECK.due("basin at 7", table.height(1, 7), 997);
        CHECK.due("basin at 21", table.height(1, 21), 549);
        CHECK.due("basin at 22", table.height(1, 22), 500);
        CHECK.due("basin ahead of tick 0 is less", table.height(1, 58), 915);
        CHECK.due("basin at 64", table.height(1, 64), 1000);
        TideTable falls = Check.read("b0000161001");
        CHECK.due("basin keeps what was ahead of tick 0", falls.height(0, 0), 100);
        CHECK.due("basin's sum", falls.sum(0, 0), 99);
    }

    private static void followers() {
        TideTable table = Check.read(STEPS + ",f101050");
        CHECK.due("follower at 10", table.height(1, 10), 600);
        CHECK.due("follower at 0 is that of -10", table.height(1, 0), 100 + 389);
        CHECK.due("follower's sum", table.sum(1, 5), 100);
        table.mean(0, 0);
        CHECK.due("follower of less than 0", table.height(1, 42), 100 - 250);
        CHECK.due("follower rounded towards less", table.height(1, 43), 100 - 249);
        table.ratio(1, 99);
        CHECK.due("follower with another ratio", table.height(1, 43), 100 - 494);
        table.mark(1, 11);
        CHECK.due("follower with another mark", table.height(1, 43), 100 - 495);
        table.be(0, 2);
        CHECK.due("follower of a basin", table.height(1, 17), 100 + 495);
        table.mark(0, 60);
        CHECK.due("follower of a basin's sill", table.height(1, 43), 100 + 594);
        table.add(1, 16, 99, 0);
        CHECK.due("follower's own waves are not in its height", table.height(1, 43), 100 + 594);
    }

    private static void stormy() {
        TideTable table = Check.read("t5007165000,f000599");
        CHECK.due("stormy on day 0", table.height(0, 128), 1000);
        CHECK.due("stormy's last tick of day 0", table.height(0, 143), 549);
        CHECK.due("stormy's first tick of day 1", table.height(0, 144), 507);
        CHECK.due("stormy's sum on day 1", table.sum(0, 144), 500);
        CHECK.due("stormy's last tick of day 1", table.height(0, 287), 2 + 7);
        CHECK.due("stormy's first tick of day 2", table.height(0, 288), 0);
        CHECK.due("stormy on day 9", table.height(0, 1439), 9);
        CHECK.due("follower of a stormy one on day 1", table.height(1, 149), 501);
        CHECK.due("follower of a stormy one's day 0", table.height(1, 148), 543);
        CHECK.due("follower of a stormy one's day -1", table.height(1, 0), 938);
        table.be(0, 0);
        CHECK.due("follower of a plain one", table.height(1, 0), 931);
    }

    private static void tideRow(TideTable table, int port, int day, int... ticksAndHighs) {
        for (int i = 0; i < ticksAndHighs.length / 2; i++) {
            String call = "tide(" + port + ", " + day + ", " + i;
            int tick = ticksAndHighs[2 * i];
            CHECK.due(call + ", 0)", table.tide(port, day, i, 0), tick);
            CHECK.due(call + ", 1)", table.tide(port, day, i, 1), ticksAndHighs[2 * i + 1]);
            CHECK.due(call + ", 2)", table.tide(port, day, i, 2), table.height(port, tick));
        }
        CHECK.due("no more tides on day " + day,
                table.tide(port, day, ticksAndHighs.length / 2, 0), TideTable.UNKNOWN);
    }

    private static void tides() {
        TideTable table = Check.read(STEPS + "," + STEPS);
        tideRow(table, 0, 0, 0, 1, 32, 0, 64, 1, 96, 0, 128, 1);
        tideRow(table, 1, 1, 160, 0, 192, 1, 224, 0, 256, 1);
        tideRow(table, 0, 9, 1312, 0, 1344, 1, 1376, 0, 1408, 1);
        table.be(0, 2);
        table.mark(0, 50);
        tideRow(table, 0, 0, 0, 1, 22, 0, 64, 1, 86, 0, 128, 1);
        CHECK.due("a high water's height", table.tide(0, 0, 0, 2), 1000);
        CHECK.due("a low water's height", table.tide(0, 0, 1, 2), 500);
        table.be(0, 4);
        table.mark(0, 99);
        // The storm of day 1 lifts the falling sea at tick 144; that of day -1 ends at tick 0.
        tideRow(table, 0, 1, 144, 1, 160, 0, 192, 1, 224, 0, 256, 1);
        tideRow(table, 0, 0, 32, 0, 64, 1, 96, 0, 128, 1, 143, 0);
    }

    private static void tidesOfFlatWater() {
        TideTable low = Check.read("s5047031200");
        flat(low, 99, 144);
        CHECK.due("a low water with 144 flat ticks", low.tide(0, 0, 1, 0), 99);
        CHECK.due("it is low", low.tide(0, 0, 1, 1), 0);
        CHECK.due("it is the last of its day", low.tide(0, 0, 2, 0), TideTable.UNKNOWN);
        TideTable none = Check.read("s5043021100");
        flat(none, 184, 145);
        CHECK.due("no low water with 145 flat ticks", none.tide(0, 1, 0, 0), TideTable.UNKNOWN);
        // It follows 44 ticks later: its low water is at the last tick of day 0.
        TideTable follows = Check.read("s5047031200,f004499");
        CHECK.due("a low water at the last tick", follows.tide(1, 0, 1, 0), 143);
        CHECK.due("a low water at the last tick is low", follows.tide(1, 0, 1, 1), 0);
        TideTable storms = Check.read("t5010010000");
        tideRow(storms, 0, 0, 0, 0);
        tideRow(storms, 0, 1, 144, 1);
        tideRow(storms, 0, 2, 288, 0);
        TideTable still = Check.read("p5000010000");
        CHECK.due("still water has no tides", still.tide(0, 0, 0, 0), TideTable.UNKNOWN);
    }

    private static void flat(TideTable table, int first, int ticks) {
        int high = table.height(0, first);
        CHECK.due("falls to the sill", table.height(0, first - 1) > high ? 1 : 0, 1);
        for (int i = 1; i < ticks; i++) {
            CHECK.due("flat at " + (first + i), table.height(0, first + i), high);
        }
        CHECK.due("rises from the sill", table.height(0, first + ticks) > high ? 1 : 0, 1);
    }

    private static void gateRow(TideTable table, int day, int need, int... firstsAndLasts) {
        for (int i = 0; i < firstsAndLasts.length; i++) {
            CHECK.due("gate(0, " + day + ", " + need + ", " + i / 2 + ", " + i % 2 + ")",
                    table.gate(0, day, need, i / 2, i % 2), firstsAndLasts[i]);
        }
        CHECK.due("no more gates on day " + day,
                table.gate(0, day, need, firstsAndLasts.length / 2, 0), TideTable.UNKNOWN);
    }

    private static void gates() {
        TideTable table = Check.read(STEPS);
        gateRow(table, 0, 500, 0, 16, 48, 80, 112, 143);
        gateRow(table, 0, 501, 0, 15, 49, 79, 113, 143);
        gateRow(table, 1, 500, 144, 144, 176, 208, 240, 272);
        gateRow(table, 1, 501, 177, 207, 241, 271);
        gateRow(table, 0, 1000, 0, 0, 64, 64, 128, 128);
        gateRow(table, 0, 1001);
        gateRow(table, 9, 0, 1296, 1439);
        gateRow(table, 9, -2000, 1296, 1439);
        gateRow(table, 9, 4000);
        // What another call left behind the day is no part of it.
        table.tide(0, 0, 0, 0);
        gateRow(table, 1, 501, 177, 207, 241, 271);
        TideTable filled = Check.read(STEPS + ",p9900010000");
        filled.leave(1, 1, 0, 1, 0);
        gateRow(filled, 1, 501, 177, 207, 241, 271);
    }

    private static void dries() {
        TideTable table = Check.read(STEPS);
        CHECK.due("dry(0, 0, 500)", table.dry(0, 0, 500), 62);
        CHECK.due("dry(0, 0, 501)", table.dry(0, 0, 501), 66);
        CHECK.due("dry(0, 0, 0)", table.dry(0, 0, 0), 0);
        CHECK.due("dry(0, 0, 1)", table.dry(0, 0, 1), 2);
        CHECK.due("dry(0, 1, 1)", table.dry(0, 1, 1), 2);
        CHECK.due("dry(0, 1, 501)", table.dry(0, 1, 501), 82);
        CHECK.due("dry(0, 9, 4000)", table.dry(0, 9, 4000), 144);
        CHECK.due("dry(0, 9, -2000)", table.dry(0, 9, -2000), 0);
    }

    private static void refusals() {
        TideTable table = Check.read(STEPS + ",f000150");
        for (int none : NO_PORTS) {
            CHECK.refused("sum of no port", table, () -> table.sum(none, -1), TideTable.UNKNOWN);
            CHECK.refused("height of no port", table, () -> table.height(none, -1), TideTable.UNKNOWN);
            CHECK.refused("tide of no port", table, () -> table.tide(none, 10, 0, 0), TideTable.UNKNOWN);
            CHECK.refused("gate of no port", table, () -> table.gate(none, 10, 9999, 0, 0), TideTable.UNKNOWN);
            CHECK.refused("dry of no port", table, () -> table.dry(none, 10, 9999), TideTable.UNKNOWN);
        }
        for (int tick : NO_TICKS) {
            CHECK.refused("sum(0, " + tick + ")", table, () -> table.sum(0, tick), TideTable.OUTSIDE);
            CHECK.refused("height(1, " + tick + ")", table, () -> table.height(1, tick), TideTable.OUTSIDE);
        }
        for (int day : NO_DAYS) {
            CHECK.refused("tide, day " + day, table, () -> table.tide(0, day, -1, 0), TideTable.OUTSIDE);
            CHECK.refused("gate, day " + day, table, () -> table.gate(0, day, 0, -1, 0), TideTable.OUTSIDE);
            CHECK.refused("dry, day " + day, table, () -> table.dry(0, day, 0), TideTable.OUTSIDE);
        }
        for (int need : NO_NEEDS) {
            CHECK.refused("gate, need " + need, table, () -> table.gate(0, 0, need, -1, 0), TideTable.OUTSIDE);
            CHECK.refused("dry, rock " + need, table, () -> table.dry(0, 0, need), TideTable.OUTSIDE);
        }
        for (int number : new int[] {-1, 5, 144, Integer.MIN_VALUE, Integer.MAX_VALUE}) {
            CHECK.refused("tide " + number, table, () -> table.tide(0, 0, number, 3), TideTable.UNKNOWN);
            CHECK.refused("gate " + number, table, () -> table.gate(0, 0, 500, number, 3), TideTable.UNKNOWN);
        }
        for (int what : new int[] {-1, 3, Integer.MIN_VALUE, Integer.MAX_VALUE}) {
            CHECK.refused("tide, what " + what, table, () -> table.tide(0, 0, 0, what), TideTable.OUTSIDE);
            CHECK.refused("gate, what " + what, table, () -> table.gate(0, 0, 500, 0, what), TideTable.OUTSIDE);
        }
        CHECK.refused("gate, what 2", table, () -> table.gate(0, 0, 500, 0, 2), TideTable.OUTSIDE);
    }
}
