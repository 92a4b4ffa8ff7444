/** Promises 25 to 27: see, forget, drawn; SORTS and ASK of promise 6. */
public final class SeenTest {
    private static final Check CHECK = new Check("SeenTest");
    private static final String PAGE = "p5000165000,f101050,t0030020507";

    public static void main(String[] args) {
        sorts();
        asks();
        seen();
        forgotten();
        forgottenByFour();
        draws();
        drawRefusals();
        CHECK.end();
    }

    private static int sortsBehind(int what, boolean could) {
        TideTable table = Check.read(PAGE);
        table.see(1, what, could);
        CHECK.due("sorts of another port", table.port(0, 5), 31);
        return table.port(1, 5);
    }

    private static void sorts() {
        CHECK.row("sorts, when it could", what -> sortsBehind(what, true), 6, 4, 8, 16);
        CHECK.row("sorts, when it could not", what -> sortsBehind(what, false), 25, 27, 23, 15);
        TideTable table = Check.read(PAGE);
        table.see(2, 0, true);
        table.see(2, 1, false);
        CHECK.due("sorts: silled alone", table.port(2, 5), 2);
        table.see(2, 3, true);
        CHECK.due("sorts: none", table.port(2, 5), 0);
        CHECK.due("ask, when there are none", table.port(2, 6), TideTable.NONE);
        table.be(2, 2);
        CHECK.due("sorts are not told by the kind", table.port(2, 5), 0);
    }

    private static int askBehind(TideTable table, int what, boolean could) {
        table.see(0, what, could);
        return table.port(0, 6);
    }

    private static void asks() {
        TideTable apart = Check.read(PAGE);
        CHECK.due("ask at first", apart.port(0, 6), 0);
        CHECK.due("ask of plain, follower, stormy", askBehind(apart, 0, false), 2);
        CHECK.due("ask of plain, stormy", askBehind(apart, 2, false), 3);
        CHECK.due("ask of plain alone", askBehind(apart, 3, false), 0);
        TideTable held = Check.read(PAGE);
        CHECK.due("ask of silled, basin", askBehind(held, 0, true), 1);
        CHECK.due("ask of basin alone", askBehind(held, 1, true), 0);
        TideTable no = Check.read(PAGE);
        CHECK.due("ask of all but basins", askBehind(no, 1, false), 0);
        CHECK.due("ask of plain, silled, stormy", askBehind(no, 2, false), 0);
        CHECK.due("ask of plain, silled", askBehind(no, 3, false), 0);
        CHECK.due("ask of silled alone", askBehind(no, 0, true), 0);
    }

    private static void seen() {
        TideTable table = Check.read(PAGE);
        for (int i = 0; i < 6; i++) {
            CHECK.due("see number " + i, table.see(i % 3, 1, false), i + 1);
        }
        CHECK.due("count(4)", table.count(4), 6);
        for (int port = 0; port < 3; port++) {
            int it = port;
            CHECK.refused("a seventh see", table, () -> table.see(it, 0, true), TideTable.FULL);
        }
        CHECK.refused("a wrong seventh see", table, () -> table.see(0, 4, true), TideTable.OUTSIDE);
        CHECK.refused("a seventh see of no port", table, () -> table.see(3, 0, true), TideTable.UNKNOWN);
        for (int none : new int[] {-1, 3, 4, Integer.MIN_VALUE, Integer.MAX_VALUE}) {
            CHECK.refused("see(" + none + ")", table, () -> table.see(none, 9, true), TideTable.UNKNOWN);
        }
        for (int what : new int[] {-1, 4, Integer.MIN_VALUE, Integer.MAX_VALUE}) {
            CHECK.refused("see(0, " + what + ")", table, () -> table.see(0, what, false), TideTable.OUTSIDE);
        }
    }

    private static void forgotten() {
        TideTable table = Check.read(PAGE);
        table.see(0, 0, true);
        table.see(2, 3, false);
        table.see(2, 3, true);
        CHECK.due("forget()", table.forget(), 3);
        CHECK.due("forget() again", table.forget(), 0);
        CHECK.due("count(4) behind forget()", table.count(4), 0);
        for (int port = 0; port < 3; port++) {
            CHECK.due("sorts behind forget()", table.port(port, 5), 31);
        }
        CHECK.due("see behind forget()", table.see(2, 3, true), 1);
        CHECK.due("sorts of the new see", table.port(2, 5), 16);
    }

    private static void forgottenByFour() {
        TideTable table = Check.read("p5000165000,f101050,f101050,f101050");
        table.see(0, 3, true);
        table.see(3, 3, true);
        CHECK.due("forget() with four ports", table.forget(), 2);
        CHECK.due("sorts of the first of four", table.port(0, 5), 31);
        CHECK.due("sorts of the last of four", table.port(3, 5), 31);
    }

    private static long next(long seed) {
        return (1103515245L * seed + 12345L) % 2147483648L;
    }

    private static void draws() {
        int[] seeds = {0, 1, 77, 65535, 65536, 123456789, Integer.MAX_VALUE};
        for (int seed : seeds) {
            for (int times : new int[] {1, 2, 49, 50}) {
                drawn(times, seed);
            }
        }
        TideTable table = Check.read("p5000010000");
        CHECK.due("every height is the mean", table.drawn(50, 3, 0), 50);
        CHECK.due("the sum of every height", table.drawn(50, 3, 1), 25000);
        CHECK.due("the seed behind two draws", table.drawn(1, 0, 2), 1406932606);
    }

    private static void drawn(int times, int seed) {
        TideTable table = Check.read(PAGE);
        long before = table.digest();
        long last = seed;
        int often = 0;
        int total = 0;
        for (int i = 0; i < times; i++) {
            last = next(last);
            int port = (int) (last / 65536 % 3);
            last = next(last);
            int high = table.height(port, (int) (last / 65536 % 1440));
            often += high >= 10 * table.port(port, 1) ? 1 : 0;
            total += high;
        }
        String call = "drawn(" + times + ", " + seed;
        CHECK.due(call + ", 0)", table.drawn(times, seed, 0), often);
        CHECK.due(call + ", 1)", table.drawn(times, seed, 1), total);
        CHECK.due(call + ", 2)", table.drawn(times, seed, 2), last);
        CHECK.due("digest() behind drawn", table.digest(), before);
    }

    private static void drawRefusals() {
        TideTable none = new TideTable();
        CHECK.refused("drawn without ports", none, () -> none.drawn(1, 0, 0), TideTable.STATE);
        TideTable some = Check.read(PAGE);
        for (TideTable table : new TideTable[] {none, some}) {
            for (int times : new int[] {0, 51, -1, Integer.MIN_VALUE, Integer.MAX_VALUE}) {
                CHECK.refused("drawn " + times + " times", table, () -> table.drawn(times, 0, 0), TideTable.OUTSIDE);
            }
            for (int seed : new int[] {-1, Integer.MIN_VALUE}) {
                CHECK.refused("drawn by " + seed, table, () -> table.drawn(1, seed, 0), TideTable.OUTSIDE);
            }
            for (int what : new int[] {-1, 3, Integer.MIN_VALUE, Integer.MAX_VALUE}) {
                CHECK.refused("drawn, what " + what, table, () -> table.drawn(1, 0, what), TideTable.OUTSIDE);
            }
        }
    }
}
