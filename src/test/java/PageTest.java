/** Promises 1 to 5: a new object, letter, blank, fault, ports. */
public final class PageTest {
    private static final Check CHECK = new Check("PageTest");
    private static final String WAVE = "019963";

    public static void main(String[] args) {
        newObject();
        letters();
        blanks();
        faultsOfTheFirstPort();
        faultsOfNumbers();
        faultsOfEnds();
        portsAreRead();
        portsAreNone();
        CHECK.end();
    }

    private static void newObject() {
        TideTable table = new TideTable();
        CHECK.row("new count(i)", table::count, 0, 0, 0, 0, 0, 0, 0);
        CHECK.due("new port(0, 0)", table.port(0, 0), TideTable.UNKNOWN);
        CHECK.due("new fault()", table.fault(), 0);
        CHECK.due("new blank()", table.blank(), 0);
        CHECK.due("new forget()", table.forget(), 0);
        long h = 1423;
        for (int i = 0; i < 7; i++) {
            h = 31 * h;
        }
        CHECK.due("new digest()", table.digest(), h);
    }

    private static void letters() {
        TideTable table = new TideTable();
        CHECK.due("letter(32)", table.letter(32), 1);
        CHECK.due("letter(126)", table.letter(126), 2);
        int[] outside = {31, 127, 0, -1, Integer.MIN_VALUE, Integer.MAX_VALUE, 32 + 65536, 48 + 256};
        for (int code : outside) {
            CHECK.refused("letter(" + code + ")", table, () -> table.letter(code), TideTable.OUTSIDE);
        }
        for (int i = 3; i <= 96; i++) {
            CHECK.due("letter number " + i, table.letter(65), i);
        }
        CHECK.refused("letter number 97", table, () -> table.letter(65), TideTable.FULL);
        CHECK.refused("letter(31) on a full page", table, () -> table.letter(31), TideTable.OUTSIDE);
        CHECK.due("count(5) of a full page", table.count(5), 96);
    }

    private static void blanks() {
        TideTable table = Check.typed("p50");
        CHECK.due("blank()", table.blank(), 3);
        CHECK.due("count(5) behind blank()", table.count(5), 0);
        CHECK.due("blank() again", table.blank(), 0);
        CHECK.due("letter behind blank()", table.letter('p'), 1);
        TideTable full = Check.typed("x".repeat(96));
        CHECK.due("blank() of a full page", full.blank(), 96);
        CHECK.due("letter behind a full page", full.letter('p'), 1);
    }

    private static void fault(String page, int want) {
        TideTable table = Check.typed(page);
        long before = table.digest();
        CHECK.due("fault() of " + page, table.fault(), want);
        CHECK.due("digest() behind fault() of " + page, table.digest(), before);
    }

    private static void faultsOfTheFirstPort() {
        for (String kind : new String[] {"p", "s", "b", "t"}) {
            fault(kind, 1);
            fault(kind + "0000" + WAVE, 11);
        }
        for (String none : new String[] {"f", "P", "a", " ", ",", "0", "~"}) {
            fault(none, 0);
        }
        fault("p" + "5000165000", 11);
        fault("pp", 1);
        fault("p,", 1);
        fault("p 0", 1);
        fault("p5x", 2);
        fault("p5000,", 5);
        fault("p9999", 5);
        fault("p9/", 2);
        fault("p9:", 2);
    }

    private static void faultsOfNumbers() {
        fault("p000000", 6);
        fault("p000001", 7);
        fault("p000010", 7);
        fault("p0000990063", 11);
        fault("p0000990064", 10);
        fault("p0000990069", 10);
        fault("p0000990070", 9);
        fault("p0000990099", 9);
        fault("p0000990059", 11);
        fault("p0000" + WAVE + "00", 12);
        fault("p0000" + WAVE + "01", 13);
        fault("p0000" + WAVE + WAVE + "00", 18);
        fault("p0000" + WAVE + WAVE + "010064", 22);
        fault("p0000" + WAVE + ",f999999", 19);
        fault("p0000" + WAVE + ",f000000", 19);
        fault("p0000" + WAVE + ",f0000700", 19);
    }

    private static void faultsOfEnds() {
        String port = "p0000" + WAVE;
        String longest = port + WAVE + WAVE;
        fault(longest, 23);
        fault(longest + "0", 23);
        fault(longest + ",", 24);
        fault(port + ",f000000" + "0", 19);
        fault(port + ",,", 12);
        fault(port + "0,", 12);
        fault(port + "01996,", 16);
        fault(port + ",f00000,", 18);
        fault(port + ",x", 12);
        String four = port + "," + port + "," + port + "," + port;
        fault(four, 47);
        fault(four + ",", 47);
        fault(four + WAVE, 53);
        fault(port + ",f000000,f000000,f000000,", 35);
        fault(longest + "," + longest + "," + longest + "," + longest, 95);
        fault(longest + "," + longest + "," + longest + "," + longest + "1", 95);
        fault("", 0);
        TideTable again = Check.typed("pxxxxxxxxxxxx");
        again.blank();
        CHECK.due("fault() behind blank()", again.fault(), 0);
        Check.type(again, port);
        CHECK.due("fault() does not look behind the letters", again.fault(), 11);
        CHECK.due("ports() does not look behind the letters", again.ports(), 1);
        CHECK.due("it has one wave", again.port(0, 4), 1);
        Check.type(again, port + ",");
        again.blank();
        Check.type(again, port);
        CHECK.due("ports() does not look at an older comma", again.ports(), 1);
    }

    private static void portsAreRead() {
        TideTable table = Check.typed("s1234019963100001,f987605,b0001020300,t0099990063");
        CHECK.due("ports()", table.ports(), 4);
        CHECK.row("port(0, i)", i -> table.port(0, i), 1, 12, 34, 50, 2, 31, 0);
        CHECK.row("port(1, i)", i -> table.port(1, i), 3, 98, 76, 5, 0, 31, 0);
        CHECK.row("port(2, i)", i -> table.port(2, i), 2, 0, 1, 50, 1, 31, 0);
        CHECK.row("port(3, i)", i -> table.port(3, i), 4, 0, 99, 50, 1, 31, 0);
        CHECK.row("wave(0, 0, i)", i -> table.wave(0, 0, i), 1, 99, 63);
        CHECK.row("wave(0, 1, i)", i -> table.wave(0, 1, i), 10, 0, 1);
        CHECK.row("wave(2, 0, i)", i -> table.wave(2, 0, i), 2, 3, 0);
        CHECK.row("wave(3, 0, i)", i -> table.wave(3, 0, i), 99, 0, 63);
        CHECK.due("count(5) behind ports()", table.count(5), 0);
        CHECK.due("count(6) behind ports()", table.count(6), 1);
        table.see(1, 2, true);
        table.ratio(0, 7);
        table.add(1, 5, 6, 7);
        table.image();
        Check.type(table, "p0000" + WAVE + ",p0000" + WAVE + WAVE + WAVE);
        CHECK.due("ports() again", table.ports(), 2);
        CHECK.row("port(0, i) again", i -> table.port(0, i), 0, 0, 0, 50, 1, 31, 0);
        CHECK.row("port(1, i) again", i -> table.port(1, i), 0, 0, 0, 50, 3, 31, 0);
        CHECK.due("port(2, 0) again", table.port(2, 0), TideTable.UNKNOWN);
        CHECK.due("wave(0, 1, 0) again", table.wave(0, 1, 0), TideTable.UNKNOWN);
        CHECK.due("count(4) again", table.count(4), 0);
        CHECK.due("count(6) again", table.count(6), 2);
        CHECK.due("restore() again", table.restore(), TideTable.STATE);
    }

    private static void portsAreNone() {
        String port = "p0000" + WAVE;
        String[] pages = {
            "", "p", "p0000", "p000001996", port + ",", port + "01", port + ",f00000", port + "x", "f000000",
            port + ",f0000000", port + WAVE + WAVE + WAVE, port + ",p0000",
            port + "," + port + "," + port + "," + port + "," + port
        };
        for (String page : pages) {
            TideTable table = Check.read(port);
            table.see(0, 1, true);
            table.image();
            Check.type(table, page);
            CHECK.refused("ports() of " + page, table, table::ports, TideTable.STATE);
            CHECK.due("restore() behind no ports", table.restore(), 1);
        }
        TideTable late = Check.typed("p0000");
        CHECK.due("ports() too early", late.ports(), TideTable.STATE);
        Check.type(late, WAVE);
        CHECK.due("ports() behind all letters", late.ports(), 1);
    }
}
