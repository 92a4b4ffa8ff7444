/** The boundary cases of promises 12 to 14: tides, gates, and when a rock is dry. */
final class TideEdges {
    private static final int UNKNOWN = TideTable.UNKNOWN;
    private static final int OUTSIDE = TideTable.OUTSIDE;
    private static final int[] FAR = {Integer.MIN_VALUE, Integer.MAX_VALUE};
    private static final String STEPS = "p5000165000";
    private static final String STILL = "p5000010000";
    // Its highest waters, of 1000, are at ticks 16, 80, 144, 208 and so on.
    private static final String TOP_AT_144 = "p5000165048";

    private final Edge edge;

    TideEdges(Edge edge) {
        this.edge = edge;
    }

    void all() {
        tidesAtTheEndsOfDays();
        tidesOfFlatWater();
        tidesOf144Ticks();
        tidesOf145Ticks();
        tideRefusals();
        gatesAtTheEndsOfDays();
        needsOfGates();
        gateRefusals();
        dryRocks();
        dryRefusals();
    }

    private void ticks(TideTable table, int port, int day, int... wants) {
        for (int i = 0; i < wants.length; i++) {
            edge.due("tide(" + port + ", " + day + ", " + i + ", 0)", table.tide(port, day, i, 0), wants[i]);
        }
        edge.due("no more on day " + day, table.tide(port, day, wants.length, 0), UNKNOWN);
    }

    private void tidesAtTheEndsOfDays() {
        edge.says(Edge.TERMS, "a TICK of the DAY is HIGH, if the HEIGHT was less at the TICK ahead of it");
        TideTable steps = Check.read(STEPS);
        edge.due("tick 0 is told by the tick ahead of it", steps.tide(0, 0, 0, 0), 0);
        edge.due("it is high", steps.tide(0, 0, 0, 1), 1);
        TideTable first = Check.read(TOP_AT_144);
        ticks(first, 0, 0, 16, 48, 80, 112);
        ticks(first, 0, 1, 144, 176, 208, 240, 272);
        edge.due("the first tick of day 1 is high", first.tide(0, 1, 0, 1), 1);
        TideTable last = Check.read("p5000165049");
        ticks(last, 0, 0, 15, 47, 79, 111, 143);
        edge.due("the last tick of day 0 is high", last.tide(0, 0, 4, 1), 1);
        edge.due("its height", last.tide(0, 0, 4, 2), 1000);
        TideTable end = Check.read("p5000165033");
        ticks(end, 0, 9, 1311, 1343, 1375, 1407, 1439);
        edge.due("the last tick of all is high", end.tide(0, 9, 4, 1), 1);
        edge.says(Edge.TERMS, "LOW likewise, with more and greater.");
        TideTable low = Check.read("p5000165001");
        ticks(low, 0, 9, 1311, 1343, 1375, 1407, 1439);
        edge.row("high or low", i -> low.tide(0, 9, i, 1), 0, 1, 0, 1, 0);
        edge.due("a low water's height", low.tide(0, 9, 4, 2), 0);
        ticks(Check.read("p5000165016"), 0, 1, 144, 176, 208, 240, 272);
        edge.due("the first tick of day 1 is low", Check.read("p5000165016").tide(0, 1, 0, 1), 0);
        edge.due("tick 0 is low", Check.read("p5000165032").tide(0, 0, 0, 1), 0);
        edge.says(Edge.TERMS, "They are numbered from 0, in order.");
        edge.row("tick of number i", i -> steps.tide(0, 0, i, 0), 0, 32, 64, 96, 128, UNKNOWN);
        edge.row("high or low of number i", i -> steps.tide(0, 0, i, 1), 1, 0, 1, 0, 1, UNKNOWN);
        edge.row("height of number i", i -> steps.tide(0, 0, i, 2), 1000, 0, 1000, 0, 1000, UNKNOWN);
    }

    private void tidesOfFlatWater() {
        edge.says(Edge.TERMS, "of the 144 TICKS behind it the first one at which it is another one has a lesser one");
        // From 490 at ticks 28 to 36 the first one alone is low; it is 500 at 15 and 16, and goes on to fall.
        TideTable small = Check.read("p5000160100");
        edge.row("heights from 27 on", i -> small.height(0, 27 + i), 491, 490, 490);
        edge.row("heights from 14 on", i -> small.height(0, 14 + i), 501, 500, 500, 499);
        ticks(small, 0, 0, 0, 28, 64, 92, 128);
        TideTable still = Check.read(STILL);
        ticks(still, 0, 0);
        ticks(still, 0, 9);
        // The basin keeps its top for six more ticks: of these the first one alone is high.
        TideTable basin = Check.read("b5000165000");
        ticks(basin, 0, 1, 163, 192, 227, 256);
    }

    private void flat(TideTable table, int port, int first, int ticks) {
        int high = table.height(port, first);
        int other = 0;
        for (int i = 1; i < ticks; i++) {
            other += table.height(port, first + i) == high ? 0 : 1;
        }
        edge.due("other heights in the flat row", other, 0);
        edge.due("another one ahead of it", table.height(port, first - 1) == high ? 1 : 0, 0);
        edge.due("another one behind it", table.height(port, first + ticks) == high ? 1 : 0, 0);
    }

    private void tidesOf144Ticks() {
        edge.says(Edge.TERMS, "of the 144 TICKS behind it");
        TideTable storms = Check.read("t5010010000");
        flat(storms, 0, 144, 144);
        ticks(storms, 0, 1, 144);
        edge.due("the 144th tick behind tick 144 is less", storms.tide(0, 1, 0, 1), 1);
        ticks(storms, 0, 2, 288);
        edge.due("the 144th tick behind tick 288 is more", storms.tide(0, 2, 0, 1), 0);
        ticks(storms, 0, 9, 1296);
        edge.due("the storm of day 9 ends at tick 1440", storms.tide(0, 9, 0, 1), 1);
        // The flat row begins at the last tick of a day, so that the last of the 144 ticks is needed.
        TideTable late = Check.read("s5047031200,f004499");
        flat(late, 1, 143, 144);
        edge.due("low at tick 143", late.tide(1, 0, 1, 0), 143);
        edge.due("it is low", late.tide(1, 0, 1, 1), 0);
    }

    private void tidesOf145Ticks() {
        TideTable low = Check.read("s5043021100");
        flat(low, 0, 184, 145);
        ticks(low, 0, 1);
        TideTable high = Check.read("p5000020432,f000004");
        flat(high, 1, 184, 145);
        ticks(high, 1, 1);
    }

    private void tideRefusals() {
        edge.says(12, "UNKNOWN: port; OUTSIDE: day (0 to 9); UNKNOWN: number; OUTSIDE: what.");
        TideTable table = Check.read(STEPS + "," + STILL);
        edge.row("tide(0, i, 0, 1) is high or low", i -> table.tide(0, i, 0, 1), 1, 0, 0, 1, 1, 0, 0, 1, 1, 0);
        for (int day : new int[] {-1, 10, FAR[0], FAR[1]}) {
            edge.refused("day " + day, table, () -> table.tide(0, day, 0, 0), OUTSIDE);
            edge.refused("day " + day + ", number 9", table, () -> table.tide(0, day, 9, 9), OUTSIDE);
            edge.refused("day " + day + ", no port", table, () -> table.tide(2, day, 9, 9), UNKNOWN);
        }
        for (int number : new int[] {-1, 5, 144, FAR[0], FAR[1]}) {
            edge.refused("number " + number, table, () -> table.tide(0, 0, number, 0), UNKNOWN);
            edge.refused("number " + number + ", what 3", table, () -> table.tide(0, 0, number, 3), UNKNOWN);
        }
        edge.refused("number 0 of no tides", table, () -> table.tide(1, 0, 0, 0), UNKNOWN);
        for (int what : new int[] {-1, 3, FAR[0], FAR[1]}) {
            edge.refused("what " + what, table, () -> table.tide(0, 0, 0, what), OUTSIDE);
            edge.refused("what " + what + " of the last", table, () -> table.tide(0, 0, 4, what), OUTSIDE);
        }
        for (int port : new int[] {-1, 2, FAR[0], FAR[1]}) {
            edge.refused("port " + port, table, () -> table.tide(port, 0, 0, 0), UNKNOWN);
        }
    }

    private void gates(TideTable table, int day, int need, int... firstsAndLasts) {
        for (int i = 0; i < firstsAndLasts.length; i++) {
            edge.due("gate(0, " + day + ", " + need + ", " + i / 2 + ", " + i % 2 + ")",
                    table.gate(0, day, need, i / 2, i % 2), firstsAndLasts[i]);
        }
        edge.due("no more on day " + day, table.gate(0, day, need, firstsAndLasts.length / 2, 0), UNKNOWN);
    }

    private void gatesAtTheEndsOfDays() {
        edge.says(Edge.TERMS, "rows of TICKS of that DAY, one right behind the other, as long as can be");
        TideTable still = Check.read(STILL);
        for (int day = 0; day <= 9; day++) {
            gates(still, day, 500, 144 * day, 144 * day + 143);
        }
        TideTable first = Check.read(TOP_AT_144);
        gates(first, 0, 1000, 16, 16, 80, 80);
        // Another call has looked at tick 144, too; it is no tick of day 0.
        first.leave(0, 0, 0, 30, 4000);
        gates(first, 0, 1000, 16, 16, 80, 80);
        gates(first, 0, 997, 15, 17, 79, 81, 143, 143);
        gates(first, 1, 1000, 144, 144, 208, 208, 272, 272);
        gates(first, 1, 997, 144, 145, 207, 209, 271, 273);
        TideTable last = Check.read("p5000165049");
        gates(last, 0, 1000, 15, 15, 79, 79, 143, 143);
        gates(Check.read("p5000165033"), 9, 1000, 1311, 1311, 1375, 1375, 1439, 1439);
    }

    private void needsOfGates() {
        edge.says(Edge.TERMS, "at which the HEIGHT is the NEED or more");
        TideTable steps = Check.read(STEPS);
        gates(steps, 0, 1000, 0, 0, 64, 64, 128, 128);
        gates(steps, 0, 1001);
        gates(steps, 0, 0, 0, 143);
        gates(steps, 0, 1, 0, 31, 33, 95, 97, 143);
        gates(steps, 0, 500, 0, 16, 48, 80, 112, 143);
        gates(steps, 0, 501, 0, 15, 49, 79, 113, 143);
        edge.says(13, "OUTSIDE: day (0 to 9), need (-2000 to 4000)");
        // Ticks at which the height is below the least need, and such at which it is above the greatest.
        gates(Check.read("p0000169932169932169932"), 0, -2000, 9, 55, 73, 119, 137, 143);
        gates(Check.read("t9999169948169948169948"), 1, 4000, 144, 146, 206, 210, 270, 274);
        gates(steps, 9, 4000);
        gates(steps, 9, -2000, 1296, 1439);
        for (int need : new int[] {-2001, 4001, FAR[0], FAR[1]}) {
            edge.refused("need " + need, steps, () -> steps.gate(0, 0, need, 0, 0), OUTSIDE);
        }
        for (int day : new int[] {-1, 10, FAR[0], FAR[1]}) {
            edge.refused("day " + day, steps, () -> steps.gate(0, day, 500, 0, 0), OUTSIDE);
        }
    }

    private void gateRefusals() {
        edge.says(13, "UNKNOWN: port; OUTSIDE: day (0 to 9), need (-2000 to 4000); UNKNOWN: number; OUTSIDE: what.");
        TideTable table = Check.read(STEPS);
        for (int number : new int[] {-1, 3, 144, FAR[0], FAR[1]}) {
            edge.refused("number " + number, table, () -> table.gate(0, 0, 500, number, 0), UNKNOWN);
            edge.refused("number " + number + ", what 2", table, () -> table.gate(0, 0, 500, number, 2), UNKNOWN);
            edge.refused("number " + number + ", day 10", table, () -> table.gate(0, 10, 500, number, 0), OUTSIDE);
            edge.refused("number " + number + ", need 4001", table, () -> table.gate(0, 0, 4001, number, 0), OUTSIDE);
        }
        for (int what : new int[] {-1, 2, FAR[0], FAR[1]}) {
            edge.refused("what " + what, table, () -> table.gate(0, 0, 500, 0, what), OUTSIDE);
            edge.refused("what " + what + " of the last", table, () -> table.gate(0, 0, 500, 2, what), OUTSIDE);
            edge.refused("what " + what + " of none", table, () -> table.gate(0, 0, 1001, 0, what), UNKNOWN);
        }
        for (int port : new int[] {-1, 1, FAR[0], FAR[1]}) {
            edge.refused("port " + port, table, () -> table.gate(port, 0, 500, 0, 0), UNKNOWN);
            edge.refused("port " + port + ", all wrong", table, () -> table.gate(port, 10, 4001, 9, 9), UNKNOWN);
        }
    }

    private void dryRocks() {
        edge.says(14, "At how many TICKS of a DAY the HEIGHT is less than a ROCK.");
        TideTable steps = Check.read(STEPS);
        edge.due("less than the least", steps.dry(0, 0, 0), 0);
        edge.due("just above the least", steps.dry(0, 0, 1), 2);
        edge.due("the greatest", steps.dry(0, 0, 1000), 141);
        edge.due("just above the greatest", steps.dry(0, 0, 1001), 144);
        TideTable first = Check.read(TOP_AT_144);
        edge.due("all but two of day 0", first.dry(0, 0, 1000), 142);
        edge.due("all but three of day 1", first.dry(0, 1, 1000), 141);
        TideTable still = Check.read("t5001010000");
        edge.row("dry(0, i, 501)", day -> still.dry(0, day, 501), 144, 0, 144, 0, 144, 0, 144, 0, 144, 0, OUTSIDE);
    }

    private void dryRefusals() {
        edge.says(14, "UNKNOWN; OUTSIDE: day (0 to 9), rock (-2000 to 4000).");
        edge.due("a rock of -2000", Check.read("p0000169932169932169932").dry(0, 0, -2000), 43);
        edge.due("a rock of 4000", Check.read("t9999169948169948169948").dry(0, 1, 4000), 131);
        TideTable table = Check.read(STEPS);
        edge.due("a rock below all", table.dry(0, 9, -2000), 0);
        edge.due("a rock above all", table.dry(0, 9, 4000), 144);
        for (int rock : new int[] {-2001, 4001, FAR[0], FAR[1]}) {
            edge.refused("rock " + rock, table, () -> table.dry(0, 0, rock), OUTSIDE);
        }
        for (int day : new int[] {-1, 10, FAR[0], FAR[1]}) {
            edge.refused("day " + day, table, () -> table.dry(0, day, 0), OUTSIDE);
        }
        for (int port : new int[] {-1, 1, FAR[0], FAR[1]}) {
            edge.refused("port " + port, table, () -> table.dry(port, 0, 0), UNKNOWN);
            edge.refused("port " + port + ", all wrong", table, () -> table.dry(port, 10, 4001), UNKNOWN);
        }
    }
}
