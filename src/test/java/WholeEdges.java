import java.math.BigInteger;

/** The boundary cases of promises 28 to 31: the image, counts, the digest; and of an object's 512 calls. */
final class WholeEdges {
    private static final int STATE = TideTable.STATE;
    private static final String PORT = "p0000010000";
    private static final String LONGEST = "p5000165000020507991263";
    private static final String FOUR = LONGEST + ",f101050," + LONGEST + ",t0030020507";

    private final Edge edge;

    WholeEdges(Edge edge) {
        this.edge = edge;
    }

    void all() {
        noPortsToKeep();
        latestImage();
        whatAnImageKeeps();
        noImage();
        otherPortsSince();
        restoredTwice();
        countsOfNothing();
        countsOfAll();
        greatestHeights();
        countRefusals();
        digestOfNothing();
        digestWraps();
        digestOfThePage();
        lastOf512Calls();
    }

    private void noPortsToKeep() {
        edge.says(28, "STATE: no PORTS.");
        TideTable table = new TideTable();
        edge.refused("image()", table, table::image, STATE);
        Check.type(table, PORT);
        edge.refused("image() ahead of ports()", table, table::image, STATE);
        edge.due("no image was kept", table.restore(), STATE);
        edge.due("ports()", table.ports(), 1);
        edge.due("image() of one", table.image(), 1);
        edge.due("image() of four", Check.read(FOUR).image(), 4);
    }

    private void latestImage() {
        edge.says(28, "An IMAGE is kept (one; the latest): how many PORTS.");
        TideTable table = Check.read(FOUR);
        long first = table.digest();
        table.image();
        table.mean(0, 1);
        long second = table.digest();
        edge.due("a second image", table.image(), 4);
        table.mean(0, 2);
        edge.due("restore()", table.restore(), 4);
        edge.due("it is the latest", table.digest(), second);
        edge.due("not the first", table.digest() == first ? 1 : 0, 0);
        table.mean(0, 3);
        edge.due("restore() again", table.restore(), 4);
        edge.due("there is no other one behind it", table.digest(), second);
    }

    private void whatAnImageKeeps() {
        edge.says(Edge.TERMS, "An IMAGE keeps PORTS, SEEN.");
        TideTable table = Check.read(FOUR);
        table.see(0, 0, true);
        table.see(3, 3, false);
        long kept = table.digest();
        table.image();
        table.mean(0, 0);
        table.mark(1, 99);
        table.ratio(1, 0);
        table.be(3, 1);
        table.take(2, 0);
        table.take(2, 0);
        table.take(2, 0);
        table.add(1, 1, 1, 1);
        table.add(1, 2, 2, 2);
        table.add(1, 3, 3, 3);
        table.forget();
        for (int i = 0; i < 6; i++) {
            table.see(i % 4, 1, true);
        }
        edge.due("restore()", table.restore(), 4);
        edge.due("all is as it was", table.digest(), kept);
        edge.row("sorts of port i", port -> table.port(port, 5), 6, 31, 31, 15);
        edge.due("a third see", table.see(1, 2, true), 3);
        TideTable page = Check.read(PORT);
        page.image();
        page.letter('p');
        page.letter('5');
        edge.due("restore() with a page", page.restore(), 1);
        edge.due("the page is not in it", page.count(5), 2);
        edge.due("a letter goes on", page.letter('0'), 3);
        edge.due("how often ports were read", page.count(6), 1);
    }

    private void noImage() {
        edge.says(29, "STATE: none was kept");
        TideTable table = new TideTable();
        edge.refused("restore() of a new object", table, table::restore, STATE);
        Check.type(table, FOUR);
        table.ports();
        edge.refused("restore() behind ports()", table, table::restore, STATE);
        table.mean(0, 7);
        edge.refused("restore() behind a change", table, table::restore, STATE);
        edge.due("image()", table.image(), 4);
        edge.due("restore() at once", table.restore(), 4);
    }

    private void otherPortsSince() {
        edge.says(29, "or there are other PORTS since (by ports()).");
        TideTable table = Check.read(FOUR);
        table.image();
        Check.type(table, FOUR);
        edge.due("the same ports are read", table.ports(), 4);
        edge.refused("they are others", table, table::restore, STATE);
        edge.refused("they stay others", table, table::restore, STATE);
        table.image();
        Check.type(table, "p");
        edge.due("no ports are read", table.ports(), STATE);
        edge.due("they are no others", table.restore(), 4);
        table.be(0, 1);
        edge.due("nor are they by be()", table.restore(), 4);
        table.blank();
        Check.type(table, PORT);
        table.ports();
        edge.refused("fewer ports", table, table::restore, STATE);
        edge.due("an image of these", table.image(), 1);
        edge.due("restore()", table.restore(), 1);
        edge.due("one port", table.port(1, 0), TideTable.UNKNOWN);
    }

    private void restoredTwice() {
        edge.says(29, "It goes on from the IMAGE: how many PORTS.");
        TideTable table = Check.read(FOUR);
        table.image();
        long kept = table.digest();
        for (int i = 0; i < 3; i++) {
            table.take(0, 0);
            table.mean(3, i);
            table.see(i, i, true);
            edge.due("restore()", table.restore(), 4);
            edge.due("digest()", table.digest(), kept);
        }
        table.mean(3, 9);
        edge.due("it can be changed behind that", table.port(3, 1), 9);
        edge.due("and restored", table.restore(), 4);
        edge.due("without the change", table.port(3, 1), 0);
    }

    private void countsOfNothing() {
        edge.says(30, "3 the greatest HEIGHT of any on DAY 0 (0: no PORTS)");
        TideTable table = new TideTable();
        edge.row("count(i) of a new object", table::count, 0, 0, 0, 0, 0, 0, 0);
        Check.type(table, LONGEST);
        edge.row("count(i) ahead of ports()", table::count, 0, 0, 0, 0, 0, 23, 0);
    }

    private void countsOfAll() {
        edge.says(30, "How many: 0 PORTS, 1 WAVES of all, 2 FOLLOWERS");
        TideTable table = Check.read((LONGEST + ",").repeat(3) + LONGEST);
        edge.row("count(i) of four", table::count, 4, 12, 0);
        for (int port = 1; port <= 3; port++) {
            table.be(port, 3);
            edge.due("followers", table.count(2), port);
        }
        edge.due("their waves are counted", table.count(1), 12);
        for (int kind : new int[] {0, 1, 2, 4}) {
            table.be(3, kind);
            edge.due("followers, with one of kind " + kind, table.count(2), 2);
        }
        for (int left = 11; left >= 0; left--) {
            table.take(left / 3, 0);
            edge.due("waves of all", table.count(1), left);
        }
        edge.says(30, "4 what is SEEN, 5 letters of THE PAGE, 6 how often PORTS were read.");
        for (int many = 1; many <= 6; many++) {
            table.see(0, 0, true);
            edge.due("what is seen", table.count(4), many);
        }
        table.see(0, 0, true);
        edge.due("what is seen, when it is full", table.count(4), 6);
        for (int many = 1; many <= 97; many++) {
            table.letter('x');
            edge.due("letters", table.count(5), Math.min(96, many));
        }
        TideTable often = new TideTable();
        for (int many = 1; many <= 10; many++) {
            Check.type(often, PORT);
            often.ports();
            edge.due("how often", often.count(6), many);
            often.ports();
            edge.due("how often, behind none", often.count(6), many);
        }
    }

    private void greatestHeights() {
        edge.says(30, "3 the greatest HEIGHT of any on DAY 0");
        edge.due("at tick 0", Check.read("p0000019900").count(3), 990);
        edge.due("at tick 0 of port 1", Check.read(PORT + ",p0000019900").count(3), 990);
        // Speed 1 from the lowest water on: it rises up to tick 143, where it is -633, and behind it.
        edge.due("at tick 143, below 0", Check.read("p0000019932").count(3), -633);
        edge.due("at tick 143 of two ports below 0", Check.read("p0000019932,p0000019933").count(3), -556);
        edge.due("not at tick 144", Check.read("t5099010000").count(3), 500);
        edge.due("of the last port", Check.read(PORT + "," + PORT + "," + PORT + ",s0099010000").count(3), 990);
        edge.due("of the first port", Check.read("s0099010000," + PORT + "," + PORT).count(3), 990);
        TideTable still = Check.read("p0000010000");
        edge.due("of 0", still.count(3), 0);
        edge.due("the greatest of all", Check.read("p9900019900019900019900").count(3), 3960);
        TideTable least = Check.read("p0000019932019932019932");
        least.take(0, 0);
        least.take(0, 0);
        edge.due("behind take", least.count(3), -633);
    }

    private void countRefusals() {
        edge.says(30, "OUTSIDE.");
        for (TideTable table : new TideTable[] {new TideTable(), Check.read(FOUR)}) {
            edge.due("count(0)", table.count(0) >= 0 ? 1 : 0, 1);
            edge.due("count(6)", table.count(6) >= 0 ? 1 : 0, 1);
            for (int what : new int[] {-1, 7, Integer.MIN_VALUE, Integer.MAX_VALUE}) {
                edge.refused("count(" + what + ")", table, () -> table.count(what), TideTable.OUTSIDE);
            }
        }
    }

    private static BigInteger hash(BigInteger h, int... numbers) {
        for (int number : numbers) {
            h = h.multiply(BigInteger.valueOf(31)).add(BigInteger.valueOf(number));
        }
        return h;
    }

    private void digestOfNothing() {
        edge.says(31, "h is 1423, then for each of these numbers, in order, 31 times h, and it");
        BigInteger h = hash(BigInteger.valueOf(1423), 0, 0, 0, 0, 0, 0, 0);
        edge.due("a new object", new TideTable().digest(), h.longValueExact());
        TideTable refused = new TideTable();
        refused.ports();
        refused.letter(31);
        refused.image();
        edge.due("an object that was only refused", refused.digest(), h.longValueExact());
    }

    /** All numbers in their order, with no limit to the digest; its last 64 bits are due. */
    private void digestWraps() {
        edge.says(31, "(as longs, wrapping)");
        TideTable table = Check.read(FOUR);
        table.see(1, 0, true);
        table.see(1, 3, true);
        table.mean(0, 0);
        BigInteger h = BigInteger.valueOf(1423);
        for (int port = 0; port < 4; port++) {
            for (int what = 0; what <= 6; what++) {
                h = hash(h, table.port(port, what));
            }
            for (int wave = 0; wave < table.port(port, 4); wave++) {
                h = hash(h, table.wave(port, wave, 0), table.wave(port, wave, 1), table.wave(port, wave, 2));
            }
            for (int tick : new int[] {0, 7, 50, 144, 400, 1439}) {
                h = hash(h, table.sum(port, tick), table.height(port, tick));
            }
        }
        for (int what = 0; what <= 6; what++) {
            h = hash(h, table.count(what));
        }
        edge.due("it is more than a long", h.bitLength() > 64 ? 1 : 0, 1);
        edge.due("digest() of four", table.digest(), h.longValue());
        edge.due("digest() again", table.digest(), h.longValue());
        edge.due("NONE is a number of it", table.port(1, 6), TideTable.NONE);
    }

    private void digestOfThePage() {
        edge.says(31, "letters of THE PAGE; what count() tells for 0 to 6.");
        TideTable table = new TideTable();
        BigInteger h = BigInteger.valueOf(1423);
        for (int many = 1; many <= 96; many++) {
            int code = 31 + Math.min(many, 95);
            table.letter(code);
            h = hash(h, code);
            edge.due("digest() of " + many + " letters", table.digest(), hash(h, 0, 0, 0, 0, 0, many, 0).longValue());
        }
        table.blank();
        edge.due("digest() behind blank()", table.digest(), new TideTable().digest());
    }

    private void lastOf512Calls() {
        edge.says(Edge.TERMS, "An object is used for at most 512 calls after it has been made");
        TideTable table = new TideTable();
        int calls = 0;
        for (int reading = 1; reading <= 42; reading++) {
            Check.type(table, "p5000165000");
            edge.due("ports() number " + reading, table.ports(), 1);
            calls += 12;
        }
        edge.due("image()", table.image(), 1);
        edge.due("see()", table.see(0, 1, true), 1);
        edge.due("restore()", table.restore(), 1);
        edge.due("how often ports were read", table.count(6), 42);
        edge.due("tide()", table.tide(0, 9, 3, 0), 1408);
        edge.due("leave()", table.leave(0, 0, 0, 30, 1000), 54);
        edge.due("height()", table.height(0, 0), 1000);
        calls += 7;
        edge.due("calls up to now", calls, 511);
        TideTable twin = Check.read("p5000165000");
        // The twin was read once alone: its digest has another last number, and no other difference.
        edge.due("digest() as call 512", table.digest(), twin.digest() + 41);
    }
}
