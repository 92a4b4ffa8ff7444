/** The boundary cases of promises 25 to 27: what is seen, what to ask next, and what is drawn. */
final class SeenEdges {
    private static final int UNKNOWN = TideTable.UNKNOWN;
    private static final int OUTSIDE = TideTable.OUTSIDE;
    private static final int[] FAR = {Integer.MIN_VALUE, Integer.MAX_VALUE};
    private static final String PAGE = "p5000165000,f101050,t0030020507";

    private final Edge edge;

    SeenEdges(Edge edge) {
        this.edge = edge;
    }

    void all() {
        sixAtMost();
        seeRefusals();
        sorts();
        asks();
        asksOfAllSorts();
        forgotten();
        drawnOnce();
        drawnOnTheMean();
        draws();
        drawRefusals();
        noPortsToDraw();
    }

    private void sixAtMost() {
        edge.says(Edge.TERMS, "SEEN (6 at most)");
        TideTable table = Check.read(PAGE);
        for (int many = 1; many <= 6; many++) {
            edge.due("see number " + many, table.see(0, 1, false), many);
        }
        edge.refused("a seventh of the same", table, () -> table.see(0, 1, false), TideTable.FULL);
        edge.says(25, "It is SEEN: how much is.");
        TideTable shared = Check.read(PAGE);
        for (int many = 1; many <= 6; many++) {
            edge.due("see number " + many + ", of all ports", shared.see(many % 3, 3, true), many);
        }
        edge.due("count(4)", shared.count(4), 6);
        edge.says(25, "FULL.");
        for (int port = 0; port < 3; port++) {
            int it = port;
            edge.refused("a seventh, port " + port, shared, () -> shared.see(it, 3, false), TideTable.FULL);
            edge.due("sorts of port " + port, shared.port(port, 5), 16);
        }
        shared.forget();
        edge.due("room again", shared.see(2, 0, true), 1);
    }

    private void seeRefusals() {
        edge.says(25, "UNKNOWN: port; OUTSIDE: what (0 to 3); FULL.");
        TideTable table = Check.read(PAGE);
        edge.due("see(0, 0)", table.see(0, 0, true), 1);
        edge.due("see(2, 3)", table.see(2, 3, false), 2);
        // The same refusals, first with room and then without it.
        for (int round = 0; round < 2; round++) {
            for (int what : new int[] {-1, 4, FAR[0], FAR[1]}) {
                edge.refused("what " + what, table, () -> table.see(0, what, true), OUTSIDE);
                edge.refused("what " + what + ", not", table, () -> table.see(0, what, false), OUTSIDE);
            }
            for (int port : new int[] {-1, 3, FAR[0], FAR[1]}) {
                edge.refused("port " + port, table, () -> table.see(port, 0, true), UNKNOWN);
                edge.refused("port " + port + ", what 4", table, () -> table.see(port, 4, true), UNKNOWN);
            }
            for (int more = 0; more < 4; more++) {
                table.see(1, more, false);
            }
        }
        edge.due("count(4)", table.count(4), 6);
    }

    private int sortsBehind(int what, boolean could) {
        TideTable table = Check.read(PAGE);
        table.see(2, what, could);
        return table.port(2, 5);
    }

    private void sorts() {
        edge.says(Edge.TERMS, "(0: SILLED ones, BASINS; 1: BASINS; 2: FOLLOWERS; 3: STORMY ones): as bits.");
        edge.row("sorts that could", what -> sortsBehind(what, true), 2 + 4, 4, 8, 16);
        edge.row("sorts that could not", what -> sortsBehind(what, false), 1 + 8 + 16, 31 - 4, 31 - 8, 31 - 16);
        edge.says(Edge.TERMS, "SORTS (KINDS 0 to 4) it can be of, so that all that is SEEN of it is so");
        TideTable table = Check.read(PAGE);
        edge.due("nothing is seen", table.port(1, 5), 31);
        table.see(1, 0, true);
        table.see(1, 0, true);
        edge.due("the same twice", table.port(1, 5), 6);
        table.see(1, 1, false);
        edge.due("one is left", table.port(1, 5), 2);
        table.see(1, 0, false);
        edge.due("none is left", table.port(1, 5), 0);
        table.see(1, 0, true);
        edge.due("and none comes back", table.port(1, 5), 0);
        edge.due("what is seen of it tells nothing of others", table.port(0, 5), 31);
        edge.due("nor what is seen of it its kind", table.port(1, 0), 3);
    }

    private void asks() {
        edge.says(Edge.TERMS, "of like ones the least; none, if there are none.");
        TideTable table = Check.read(PAGE);
        edge.due("all five are left", table.port(0, 6), 0);
        table.see(0, 0, false);
        edge.due("plain, follower, stormy: 2 and 3 are alike", table.port(0, 6), 2);
        table.see(0, 2, false);
        edge.due("plain, stormy", table.port(0, 6), 3);
        table.see(0, 3, true);
        edge.due("one is left: all are alike", table.port(0, 6), 0);
        table.see(0, 3, false);
        edge.due("none is left", table.port(0, 6), TideTable.NONE);
        edge.due("of another port", table.port(1, 6), 0);
        table.forget();
        edge.due("all five again", table.port(0, 6), 0);
    }

    /** Every row of up to three things seen: sorts and what to ask, as sets of kinds tell them. */
    private void asksOfAllSorts() {
        edge.says(Edge.TERMS, "which of these (0 to 3) to ask next, so that fewest of these are left at worst");
        for (int row = 0; row < 9 * 9 * 9; row++) {
            TideTable table = Check.read(PAGE);
            boolean[] left = {true, true, true, true, true};
            for (int rest = row; rest > 0; rest /= 9) {
                int seen = rest % 9 - 1;
                if (seen >= 0) {
                    table.see(1, seen / 2, seen % 2 == 0);
                    keep(left, seen / 2, seen % 2 == 0);
                }
            }
            int bits = 0;
            for (int kind = 0; kind < 5; kind++) {
                bits += left[kind] ? 1 << kind : 0;
            }
            edge.due("sorts of row " + row, table.port(1, 5), bits);
            edge.due("ask of row " + row, table.port(1, 6), askOf(left));
        }
    }

    private static boolean could(int kind, int what) {
        return what == 0 ? kind == 1 || kind == 2 : kind == what + 1;
    }

    private static int keep(boolean[] left, int what, boolean so) {
        int many = 0;
        for (int kind = 0; kind < 5; kind++) {
            left[kind] = left[kind] && could(kind, what) == so;
            many += left[kind] ? 1 : 0;
        }
        return many;
    }

    private static int askOf(boolean[] left) {
        int best = TideTable.NONE;
        int fewest = 0;
        for (int what = 3; what >= 0; what--) {
            int worst = Math.max(keep(left.clone(), what, true), keep(left.clone(), what, false));
            if (worst > 0 && (best == TideTable.NONE || worst <= fewest)) {
                best = what;
                fewest = worst;
            }
        }
        return best;
    }

    private void forgotten() {
        edge.says(26, "Nothing is SEEN any more: how much was.");
        edge.due("without ports", new TideTable().forget(), 0);
        TideTable table = Check.read(PAGE + ",f000000");
        edge.due("nothing was", table.forget(), 0);
        table.see(3, 2, true);
        edge.due("one was", table.forget(), 1);
        for (int i = 0; i < 6; i++) {
            table.see(i % 4, 2, i < 3);
        }
        edge.due("six were", table.forget(), 6);
        edge.due("none again", table.forget(), 0);
        edge.due("count(4)", table.count(4), 0);
        edge.row("sorts of port i", port -> table.port(port, 5), 31, 31, 31, 31);
        for (int many = 1; many <= 6; many++) {
            edge.due("see number " + many, table.see(0, 0, true), many);
        }
    }

    private static int next(int seed) {
        return (int) ((1103515245L * seed + 12345L) % (1L << 31));
    }

    private void drawnOnce() {
        edge.says(Edge.TERMS, "the next SEED each time: 1103515245 times it and 12345, its rest by 2 to the 31");
        TideTable table = Check.read("p5000010000");
        edge.due("two draws from 0", table.drawn(1, 0, 2), 1406932606);
        edge.due("two draws from the greatest", table.drawn(1, Integer.MAX_VALUE, 2), next(1043980748));
        // 1103515245 times 2 to the 30 is 2 to the 30 again, by its rest.
        edge.due("two draws from 2 to the 30", table.drawn(1, 1 << 30, 2), next((1 << 30) + 12345));
        int last = 5;
        for (int i = 0; i < 100; i++) {
            last = next(last);
        }
        edge.due("a hundred draws", table.drawn(50, 5, 2), last);
        edge.due("a draw of one port is that", table.drawn(50, 5, 1), 25000);
    }

    /** A seed by which the draw of a tick gives one with this rest by 64. */
    private static int seedOf(int step) {
        int seed = 0;
        while (next(next(seed)) / 65536 % 1440 % 64 != step) {
            seed++;
        }
        return seed;
    }

    private void drawnOnTheMean() {
        edge.says(Edge.TERMS, "how often the HEIGHT is 10 times the MEAN or more; the sum of all these HEIGHTS.");
        // From step 14 of the round on its heights are 501, 500, 500, 499.
        TideTable table = Check.read("p5000160100");
        edge.row("how often, from step 14 on", i -> table.drawn(1, seedOf(14 + i), 0), 1, 1, 1, 0);
        edge.row("the sum, from step 14 on", i -> table.drawn(1, seedOf(14 + i), 1), 501, 500, 500, 499);
        table.mean(0, 0);
        edge.due("a sum below 0", table.drawn(1, seedOf(17), 1), -1);
        edge.due("a height below 0, and a mean of 0", table.drawn(1, seedOf(17), 0), 0);
        table.take(0, 0);
        edge.due("a height of 0, and a mean of 0", table.drawn(50, 1, 0), 50);
        edge.due("a sum of 0", table.drawn(50, 1, 1), 0);
    }

    private void draws() {
        edge.says(Edge.TERMS, "a PORT by a DRAW of how many there are, a TICK by a DRAW of 1440");
        String[] pages = {"p5000165000", "p5000165000,s0099010000", PAGE, PAGE + ",b1020991263"};
        for (int ports = 1; ports <= 4; ports++) {
            TideTable table = Check.read(pages[ports - 1]);
            for (int seed : new int[] {0, 1, 65535, 65536, 1 << 30, Integer.MAX_VALUE}) {
                int toPort = next(seed);
                int toTick = next(toPort);
                int want = table.height(toPort / 65536 % ports, toTick / 65536 % 1440);
                edge.due("drawn(1, " + seed + ", 1) of " + ports, table.drawn(1, seed, 1), want);
                edge.due("drawn(1, " + seed + ", 2) of " + ports, table.drawn(1, seed, 2), toTick);
            }
        }
    }

    private void drawRefusals() {
        edge.says(27, "OUTSIDE: times (1 to 50), seed (0 at least), what");
        TideTable table = Check.read(PAGE);
        edge.due("once", table.drawn(1, 0, 2), 1406932606);
        edge.due("50 times", table.drawn(50, 0, 2) >= 0 ? 1 : 0, 1);
        edge.due("the greatest seed", table.drawn(1, Integer.MAX_VALUE, 2) >= 0 ? 1 : 0, 1);
        for (int times : new int[] {0, 51, -1, FAR[0], FAR[1]}) {
            edge.refused("times " + times, table, () -> table.drawn(times, 0, 0), OUTSIDE);
        }
        for (int seed : new int[] {-1, -65536, FAR[0]}) {
            edge.refused("seed " + seed, table, () -> table.drawn(1, seed, 0), OUTSIDE);
        }
        for (int what : new int[] {-1, 3, FAR[0], FAR[1]}) {
            edge.refused("what " + what, table, () -> table.drawn(1, 0, what), OUTSIDE);
        }
        long before = table.digest();
        table.drawn(50, 77, 0);
        edge.due("a draw changes nothing", table.digest(), before);
        edge.due("nor the next draw", table.drawn(1, 0, 2), 1406932606);
    }

    private void noPortsToDraw() {
        edge.says(27, "STATE: no PORTS.");
        TideTable none = new TideTable();
        for (int what = 0; what <= 2; what++) {
            int it = what;
            edge.refused("what " + what, none, () -> none.drawn(1, 0, it), TideTable.STATE);
        }
        edge.refused("50 times", none, () -> none.drawn(50, Integer.MAX_VALUE, 2), TideTable.STATE);
        edge.refused("times 0", none, () -> none.drawn(0, 0, 0), OUTSIDE);
        edge.refused("times 51", none, () -> none.drawn(51, 0, 0), OUTSIDE);
        edge.refused("seed -1", none, () -> none.drawn(1, -1, 0), OUTSIDE);
        edge.refused("what 3", none, () -> none.drawn(1, 0, 3), OUTSIDE);
        edge.refused("what -1", none, () -> none.drawn(1, 0, -1), OUTSIDE);
    }
}
