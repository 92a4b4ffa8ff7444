/** The boundary cases of promises 6 to 8 and 19 to 24: what a port has, and what is done to it. */
final class PortEdges {
    private static final int[] FAR = {Integer.MIN_VALUE, Integer.MAX_VALUE};
    // Port 0 has one wave, port 1 has three, port 2 two, port 3 is a follower and has none.
    private static final String PAGE = "p5010165000,s2030070102080911090807,b4050010101020202,f607080";

    private final Edge edge;

    PortEdges(Edge edge) {
        this.edge = edge;
    }

    void all() {
        whatOfPorts();
        whichPorts();
        whatOfWaves();
        whichWaves();
        kinds();
        basinsAreSilled();
        means();
        marks();
        ratios();
        addedWaves();
        addedTooMuch();
        takenWaves();
        otherKinds();
        portZeroFollowsNone();
    }

    private void whatOfPorts() {
        edge.says(6, "what = 0 KIND, 1 MEAN, 2 MARK, 3 RATIO, 4 how many WAVES, 5 SORTS, as bits, 6 ASK (NONE).");
        TideTable table = Check.read(PAGE);
        edge.row("port(0, i)", i -> table.port(0, i), 0, 50, 10, 50, 1, 31, 0, TideTable.OUTSIDE);
        edge.row("port(3, i)", i -> table.port(3, i), 3, 60, 70, 80, 0, 31, 0, TideTable.OUTSIDE);
        edge.due("port(0, -1)", table.port(0, -1), TideTable.OUTSIDE);
        for (int what : FAR) {
            edge.refused("port(0, " + what + ")", table, () -> table.port(0, what), TideTable.OUTSIDE);
        }
        table.see(0, 1, true);
        table.see(0, 2, true);
        edge.due("sorts, when there are none", table.port(0, 5), 0);
        edge.due("ask, when there are none", table.port(0, 6), TideTable.NONE);
    }

    private void whichPorts() {
        edge.says(6, "UNKNOWN; OUTSIDE.");
        TideTable table = Check.read(PAGE);
        edge.due("port(3, 0)", table.port(3, 0), 3);
        edge.due("port(4, 0)", table.port(4, 0), TideTable.UNKNOWN);
        edge.due("port(-1, 0)", table.port(-1, 0), TideTable.UNKNOWN);
        edge.due("port(4, 7): the first is told", table.port(4, 7), TideTable.UNKNOWN);
        edge.due("port(-1, -1): the first is told", table.port(-1, -1), TideTable.UNKNOWN);
        TideTable one = Check.read("p5010165000");
        edge.due("port(1, 0) of one port", one.port(1, 0), TideTable.UNKNOWN);
        for (int port : FAR) {
            edge.refused("port(" + port + ", 0)", table, () -> table.port(port, 0), TideTable.UNKNOWN);
        }
    }

    private void whatOfWaves() {
        edge.says(7, "Of a WAVE: what = 0 SPEED, 1 SIZE, 2 START.");
        TideTable table = Check.read(PAGE);
        edge.row("wave(1, 0, i)", i -> table.wave(1, 0, i), 7, 1, 2, TideTable.OUTSIDE);
        edge.row("wave(1, 2, i)", i -> table.wave(1, 2, i), 9, 8, 7, TideTable.OUTSIDE);
        edge.due("wave(1, 0, -1)", table.wave(1, 0, -1), TideTable.OUTSIDE);
        for (int what : FAR) {
            edge.refused("wave(1, 0, " + what + ")", table, () -> table.wave(1, 0, what), TideTable.OUTSIDE);
        }
    }

    private void whichWaves() {
        edge.says(7, "UNKNOWN: port, wave; OUTSIDE.");
        TideTable table = Check.read(PAGE);
        edge.row("wave(0, i, 0)", i -> table.wave(0, i, 0), 16, TideTable.UNKNOWN, TideTable.UNKNOWN);
        edge.row("wave(1, i, 0)", i -> table.wave(1, i, 0), 7, 8, 9, TideTable.UNKNOWN);
        edge.row("wave(2, i, 0)", i -> table.wave(2, i, 0), 1, 2, TideTable.UNKNOWN);
        edge.row("wave(3, i, 0)", i -> table.wave(3, i, 0), TideTable.UNKNOWN, TideTable.UNKNOWN);
        edge.due("wave(1, -1, 0)", table.wave(1, -1, 0), TideTable.UNKNOWN);
        edge.due("wave(4, 0, 0)", table.wave(4, 0, 0), TideTable.UNKNOWN);
        edge.due("wave(-1, 0, 0)", table.wave(-1, 0, 0), TideTable.UNKNOWN);
        edge.due("wave(0, 1, 3): the first is told", table.wave(0, 1, 3), TideTable.UNKNOWN);
        edge.due("wave(4, 0, 3): the first is told", table.wave(4, 0, 3), TideTable.UNKNOWN);
        for (int wave : FAR) {
            edge.refused("wave(1, " + wave + ", 0)", table, () -> table.wave(1, wave, 0), TideTable.UNKNOWN);
            edge.refused("wave(" + wave + ", 0, 0)", table, () -> table.wave(wave, 0, 0), TideTable.UNKNOWN);
        }
    }

    private void kinds() {
        int no = TideTable.NONE;
        edge.says(8, "A PORT taken as a KIND: its number; NONE: it is none such (the cast fails).");
        TideTable table = Check.read(PAGE);
        edge.row("as(0, i)", i -> table.as(0, i), 0, no, no, no, no, TideTable.OUTSIDE);
        edge.row("as(3, i)", i -> table.as(3, i), 3, no, no, 3, no, TideTable.OUTSIDE);
        table.be(0, 4);
        edge.row("as(0, i) of a stormy one", i -> table.as(0, i), 0, no, no, no, 0, TideTable.OUTSIDE);
        edge.says(8, "UNKNOWN; OUTSIDE.");
        edge.due("as(0, -1)", table.as(0, -1), TideTable.OUTSIDE);
        edge.due("as(0, 5)", table.as(0, 5), TideTable.OUTSIDE);
        edge.due("as(4, 0)", table.as(4, 0), TideTable.UNKNOWN);
        edge.due("as(-1, 0)", table.as(-1, 0), TideTable.UNKNOWN);
        edge.due("as(4, 5): the first is told", table.as(4, 5), TideTable.UNKNOWN);
        for (int far : FAR) {
            edge.refused("as(0, " + far + ")", table, () -> table.as(0, far), TideTable.OUTSIDE);
            edge.refused("as(" + far + ", 0)", table, () -> table.as(far, 0), TideTable.UNKNOWN);
        }
    }

    private void basinsAreSilled() {
        int no = TideTable.NONE;
        edge.says(Edge.TERMS, "All are PORTS; a BASIN is SILLED, too.");
        TideTable table = Check.read(PAGE);
        edge.row("a silled one as i", i -> table.as(1, i), 1, 1, no, no, no);
        edge.row("a basin as i", i -> table.as(2, i), 2, 2, 2, no, no);
        for (int kind = 0; kind <= 4; kind++) {
            table.be(1, kind);
            edge.due("kind " + kind + " as a port", table.as(1, 0), 1);
        }
    }

    private void means() {
        edge.says(19, "Another MEAN: which it was.");
        TideTable table = Check.read(PAGE);
        edge.due("mean(0, 99)", table.mean(0, 99), 50);
        edge.due("mean(0, 0)", table.mean(0, 0), 99);
        edge.due("mean(0, 0) again", table.mean(0, 0), 0);
        edge.due("mean of the last port", table.mean(3, 1), 60);
        edge.row("mean of port i", i -> table.port(i, 1), 0, 20, 40, 1);
        edge.says(19, "UNKNOWN; OUTSIDE: mean (0 to 99).");
        for (int wrong : new int[] {-1, 100, FAR[0], FAR[1]}) {
            edge.refused("mean(0, " + wrong + ")", table, () -> table.mean(0, wrong), TideTable.OUTSIDE);
        }
        for (int port : new int[] {-1, 4, FAR[0], FAR[1]}) {
            edge.refused("mean(" + port + ", 0)", table, () -> table.mean(port, 0), TideTable.UNKNOWN);
            edge.refused("mean(" + port + ", 100)", table, () -> table.mean(port, 100), TideTable.UNKNOWN);
        }
    }

    private void marks() {
        edge.says(20, "Another MARK: which it was.");
        TideTable table = Check.read(PAGE);
        edge.due("mark(0, 99)", table.mark(0, 99), 10);
        edge.due("mark(0, 0)", table.mark(0, 0), 99);
        edge.due("mark(0, 0) again", table.mark(0, 0), 0);
        edge.due("mark of the last port", table.mark(3, 1), 70);
        edge.row("mark of port i", i -> table.port(i, 2), 0, 30, 50, 1);
        edge.says(20, "UNKNOWN; OUTSIDE: mark (0 to 99).");
        for (int wrong : new int[] {-1, 100, FAR[0], FAR[1]}) {
            edge.refused("mark(0, " + wrong + ")", table, () -> table.mark(0, wrong), TideTable.OUTSIDE);
        }
        for (int port : new int[] {-1, 4, FAR[0], FAR[1]}) {
            edge.refused("mark(" + port + ", 0)", table, () -> table.mark(port, 0), TideTable.UNKNOWN);
            edge.refused("mark(" + port + ", 100)", table, () -> table.mark(port, 100), TideTable.UNKNOWN);
        }
    }

    private void ratios() {
        edge.says(21, "Another RATIO: which it was.");
        TideTable table = Check.read(PAGE);
        edge.due("ratio(0, 99) of a port that follows none", table.ratio(0, 99), 50);
        edge.due("ratio(0, 0)", table.ratio(0, 0), 99);
        edge.due("ratio(0, 0) again", table.ratio(0, 0), 0);
        edge.due("ratio of the last port", table.ratio(3, 1), 80);
        edge.row("ratio of port i", i -> table.port(i, 3), 0, 50, 50, 1);
        edge.says(21, "UNKNOWN; OUTSIDE: ratio (0 to 99).");
        for (int wrong : new int[] {-1, 100, FAR[0], FAR[1]}) {
            edge.refused("ratio(3, " + wrong + ")", table, () -> table.ratio(3, wrong), TideTable.OUTSIDE);
        }
        for (int port : new int[] {-1, 4, FAR[0], FAR[1]}) {
            edge.refused("ratio(" + port + ", 0)", table, () -> table.ratio(port, 0), TideTable.UNKNOWN);
            edge.refused("ratio(" + port + ", 100)", table, () -> table.ratio(port, 100), TideTable.UNKNOWN);
        }
    }

    private void addedWaves() {
        edge.says(22, "A WAVE comes behind all of a PORT: how many it has.");
        TideTable table = Check.read(PAGE);
        edge.due("add the least to a follower", table.add(3, 1, 0, 0), 1);
        edge.due("add the greatest", table.add(3, 99, 99, 63), 2);
        edge.due("add a third", table.add(3, 50, 51, 52), 3);
        edge.row("wave(3, 0, i)", i -> table.wave(3, 0, i), 1, 0, 0);
        edge.row("wave(3, 1, i)", i -> table.wave(3, 1, i), 99, 99, 63);
        edge.row("wave(3, 2, i)", i -> table.wave(3, 2, i), 50, 51, 52);
        edge.says(22, "UNKNOWN; OUTSIDE: speed (1 to 99), size (0 to 99), start (0 to 63)");
        for (int wrong : new int[] {0, -1, 100, FAR[0], FAR[1]}) {
            edge.refused("speed " + wrong, table, () -> table.add(0, wrong, 0, 0), TideTable.OUTSIDE);
        }
        for (int wrong : new int[] {-1, 100, FAR[0], FAR[1]}) {
            edge.refused("size " + wrong, table, () -> table.add(0, 1, wrong, 0), TideTable.OUTSIDE);
        }
        for (int wrong : new int[] {-1, 64, FAR[0], FAR[1]}) {
            edge.refused("start " + wrong, table, () -> table.add(0, 1, 0, wrong), TideTable.OUTSIDE);
        }
        for (int port : new int[] {-1, 4, FAR[0], FAR[1]}) {
            edge.refused("port " + port, table, () -> table.add(port, 1, 0, 0), TideTable.UNKNOWN);
            edge.refused("port " + port + ", all wrong", table, () -> table.add(port, 0, 100, 64), TideTable.UNKNOWN);
        }
    }

    private void addedTooMuch() {
        edge.says(22, "FULL: there are three.");
        TideTable table = Check.read(PAGE);
        edge.refused("a fourth of three that were read", table, () -> table.add(1, 1, 0, 0), TideTable.FULL);
        edge.due("a third", table.add(2, 3, 3, 3), 3);
        edge.refused("a fourth", table, () -> table.add(2, 4, 4, 4), TideTable.FULL);
        edge.refused("a fourth, speed wrong", table, () -> table.add(2, 0, 0, 0), TideTable.OUTSIDE);
        edge.refused("a fourth, size wrong", table, () -> table.add(2, 1, 100, 0), TideTable.OUTSIDE);
        edge.refused("a fourth, start wrong", table, () -> table.add(2, 1, 0, 64), TideTable.OUTSIDE);
        edge.due("one is taken", table.take(2, 0), 2);
        edge.due("there is room again", table.add(2, 4, 4, 4), 3);
        edge.row("speed of wave i", i -> table.wave(2, i, 0), 2, 3, 4);
        edge.refused("full again", table, () -> table.add(2, 5, 5, 5), TideTable.FULL);
    }

    private void takenWaves() {
        edge.says(23, "A WAVE is taken out (those behind it have numbers 1 less): how many are left.");
        for (int wave = 0; wave < 3; wave++) {
            TideTable table = Check.read(PAGE);
            edge.due("take(1, " + wave + ")", table.take(1, wave), 2);
            edge.row("wave(1, 0, i)", i -> table.wave(1, 0, i), wave == 0 ? 8 : 7, wave == 0 ? 9 : 1, wave == 0 ? 11 : 2);
            edge.row("wave(1, 1, i)", i -> table.wave(1, 1, i), wave == 2 ? 8 : 9, wave == 2 ? 9 : 8, wave == 2 ? 11 : 7);
            edge.due("wave(1, 2, 0)", table.wave(1, 2, 0), TideTable.UNKNOWN);
            edge.due("waves of another port", table.port(2, 4), 2);
        }
        TideTable last = Check.read(PAGE);
        edge.due("take the only one", last.take(0, 0), 0);
        edge.due("the height without waves", last.height(0, 3), 500);
        edge.says(23, "UNKNOWN: port, wave.");
        edge.refused("take one of none", last, () -> last.take(0, 0), TideTable.UNKNOWN);
        edge.refused("take one of a follower", last, () -> last.take(3, 0), TideTable.UNKNOWN);
        for (int wave : new int[] {-1, 3, FAR[0], FAR[1]}) {
            edge.refused("take(1, " + wave + ")", last, () -> last.take(1, wave), TideTable.UNKNOWN);
        }
        edge.refused("take(2, 2) of two", last, () -> last.take(2, 2), TideTable.UNKNOWN);
        for (int port : new int[] {-1, 4, FAR[0], FAR[1]}) {
            edge.refused("take(" + port + ", 0)", last, () -> last.take(port, 0), TideTable.UNKNOWN);
        }
    }

    private void otherKinds() {
        edge.says(24, "A PORT is of another KIND (all its numbers stay): of which it was.");
        TideTable table = Check.read(PAGE);
        int was = 1;
        for (int kind : new int[] {0, 3, 4, 2, 1, 1}) {
            edge.due("be(1, " + kind + ")", table.be(1, kind), was);
            edge.row("port(1, i)", i -> table.port(1, i), kind, 20, 30, 50, 3);
            was = kind;
        }
        edge.row("wave(1, 2, i)", i -> table.wave(1, 2, i), 9, 8, 7);
        edge.due("a follower becomes a port", table.be(3, 0), 3);
        edge.row("port(3, i)", i -> table.port(3, i), 0, 60, 70, 80, 0);
        edge.due("a port without waves", table.height(3, 7), 600);
        edge.due("it follows again", table.be(3, 3), 0);
        edge.due("with its ratio", table.port(3, 3), 80);
    }

    private void portZeroFollowsNone() {
        edge.says(24, "UNKNOWN; OUTSIDE: kind (0 to 4; of PORT 0 not 3).");
        TideTable table = Check.read(PAGE);
        edge.due("be(0, 4)", table.be(0, 4), 0);
        edge.due("be(0, 2)", table.be(0, 2), 4);
        edge.refused("be(0, 3)", table, () -> table.be(0, 3), TideTable.OUTSIDE);
        for (int port = 1; port <= 3; port++) {
            table.be(port, 3);
            edge.due("port " + port + " follows", table.port(port, 0), 3);
        }
        for (int kind : new int[] {-1, 5, FAR[0], FAR[1]}) {
            edge.refused("be(0, " + kind + ")", table, () -> table.be(0, kind), TideTable.OUTSIDE);
            edge.refused("be(1, " + kind + ")", table, () -> table.be(1, kind), TideTable.OUTSIDE);
        }
        for (int port : new int[] {-1, 4, FAR[0], FAR[1]}) {
            edge.refused("be(" + port + ", 0)", table, () -> table.be(port, 0), TideTable.UNKNOWN);
            edge.refused("be(" + port + ", 5)", table, () -> table.be(port, 5), TideTable.UNKNOWN);
        }
    }
}
