/** Promises 6 to 8 and 19 to 24: port, wave, as; mean, mark, ratio, add, take, be. */
public final class PortTest {
    private static final Check CHECK = new Check("PortTest");
    private static final String PAGE = "p5010165000,s2030070102080911,b4050010101,f607080";
    private static final int[] NO_PORTS = {-1, 4, Integer.MIN_VALUE, Integer.MAX_VALUE};
    private static final int[] NO_NUMBERS = {-1, 100, Integer.MIN_VALUE, Integer.MAX_VALUE};

    public static void main(String[] args) {
        told();
        kinds();
        changed();
        waves();
        be();
        CHECK.end();
    }

    private static void told() {
        TideTable table = Check.read(PAGE);
        CHECK.row("port(1, i)", i -> table.port(1, i), 1, 20, 30, 50, 2, 31, 0);
        CHECK.row("port(3, i)", i -> table.port(3, i), 3, 60, 70, 80, 0, 31, 0);
        CHECK.row("wave(1, 0, i)", i -> table.wave(1, 0, i), 7, 1, 2);
        CHECK.row("wave(1, 1, i)", i -> table.wave(1, 1, i), 8, 9, 11);
        for (int none : NO_PORTS) {
            CHECK.refused("port(" + none + ", 7)", table, () -> table.port(none, 7), TideTable.UNKNOWN);
            CHECK.refused("wave(" + none + ", 0, 9)", table, () -> table.wave(none, 0, 9), TideTable.UNKNOWN);
            CHECK.refused("as(" + none + ", 9)", table, () -> table.as(none, 9), TideTable.UNKNOWN);
        }
        for (int what : new int[] {-1, 7, Integer.MIN_VALUE, Integer.MAX_VALUE}) {
            CHECK.refused("port(0, " + what + ")", table, () -> table.port(0, what), TideTable.OUTSIDE);
        }
        for (int wave : new int[] {-1, 2, 3, Integer.MIN_VALUE, Integer.MAX_VALUE}) {
            CHECK.refused("wave(1, " + wave + ", 9)", table, () -> table.wave(1, wave, 9), TideTable.UNKNOWN);
        }
        CHECK.refused("wave(3, 0, 0)", table, () -> table.wave(3, 0, 0), TideTable.UNKNOWN);
        for (int what : new int[] {-1, 3, Integer.MIN_VALUE, Integer.MAX_VALUE}) {
            CHECK.refused("wave(0, 0, " + what + ")", table, () -> table.wave(0, 0, what), TideTable.OUTSIDE);
        }
    }

    private static void kinds() {
        int no = TideTable.NONE;
        TideTable table = Check.read(PAGE);
        CHECK.row("as(0, i)", i -> table.as(0, i), 0, no, no, no, no);
        CHECK.row("as(1, i)", i -> table.as(1, i), 1, 1, no, no, no);
        CHECK.row("as(2, i)", i -> table.as(2, i), 2, 2, 2, no, no);
        CHECK.row("as(3, i)", i -> table.as(3, i), 3, no, no, 3, no);
        table.be(3, 4);
        CHECK.row("as(3, i) of a stormy one", i -> table.as(3, i), 3, no, no, no, 3);
        for (int kind : new int[] {-1, 5, Integer.MIN_VALUE, Integer.MAX_VALUE}) {
            CHECK.refused("as(1, " + kind + ")", table, () -> table.as(1, kind), TideTable.OUTSIDE);
        }
    }

    private static void changed() {
        TideTable table = Check.read(PAGE);
        CHECK.due("mean(1, 99)", table.mean(1, 99), 20);
        CHECK.due("mean(1, 0)", table.mean(1, 0), 99);
        CHECK.due("mark(1, 99)", table.mark(1, 99), 30);
        CHECK.due("mark(1, 0)", table.mark(1, 0), 99);
        CHECK.due("ratio(1, 99)", table.ratio(1, 99), 50);
        CHECK.due("ratio(1, 0)", table.ratio(1, 0), 99);
        CHECK.due("mean(2, 11)", table.mean(2, 11), 40);
        CHECK.due("mark(2, 12)", table.mark(2, 12), 50);
        CHECK.due("ratio(3, 13)", table.ratio(3, 13), 80);
        CHECK.row("port(0, i)", i -> table.port(0, i), 0, 50, 10, 50, 1);
        CHECK.row("port(1, i)", i -> table.port(1, i), 1, 0, 0, 0, 2);
        CHECK.row("port(2, i)", i -> table.port(2, i), 2, 11, 12, 50, 1);
        CHECK.row("port(3, i)", i -> table.port(3, i), 3, 60, 70, 13, 0);
        for (int none : NO_PORTS) {
            CHECK.refused("mean(" + none + ", 100)", table, () -> table.mean(none, 100), TideTable.UNKNOWN);
            CHECK.refused("mark(" + none + ", 100)", table, () -> table.mark(none, 100), TideTable.UNKNOWN);
            CHECK.refused("ratio(" + none + ", 100)", table, () -> table.ratio(none, 100), TideTable.UNKNOWN);
        }
        for (int wrong : NO_NUMBERS) {
            CHECK.refused("mean(1, " + wrong + ")", table, () -> table.mean(1, wrong), TideTable.OUTSIDE);
            CHECK.refused("mark(1, " + wrong + ")", table, () -> table.mark(1, wrong), TideTable.OUTSIDE);
            CHECK.refused("ratio(1, " + wrong + ")", table, () -> table.ratio(1, wrong), TideTable.OUTSIDE);
        }
    }

    private static void waves() {
        TideTable table = Check.read(PAGE);
        CHECK.due("add(0, 1, 0, 0)", table.add(0, 1, 0, 0), 2);
        CHECK.due("add(0, 99, 99, 63)", table.add(0, 99, 99, 63), 3);
        CHECK.row("wave(0, 1, i)", i -> table.wave(0, 1, i), 1, 0, 0);
        CHECK.row("wave(0, 2, i)", i -> table.wave(0, 2, i), 99, 99, 63);
        CHECK.refused("a fourth wave", table, () -> table.add(0, 1, 0, 0), TideTable.FULL);
        CHECK.refused("a wrong fourth wave", table, () -> table.add(0, 0, 0, 0), TideTable.OUTSIDE);
        for (int none : NO_PORTS) {
            CHECK.refused("add(" + none + ", 0, 0, 0)", table, () -> table.add(none, 0, 0, 0), TideTable.UNKNOWN);
            CHECK.refused("take(" + none + ", 0)", table, () -> table.take(none, 0), TideTable.UNKNOWN);
        }
        for (int wrong : new int[] {0, 100, Integer.MIN_VALUE, Integer.MAX_VALUE}) {
            CHECK.refused("add(1, " + wrong + ", 0, 0)", table, () -> table.add(1, wrong, 0, 0), TideTable.OUTSIDE);
        }
        for (int wrong : NO_NUMBERS) {
            CHECK.refused("add(1, 1, " + wrong + ", 0)", table, () -> table.add(1, 1, wrong, 0), TideTable.OUTSIDE);
        }
        for (int wrong : new int[] {-1, 64, Integer.MIN_VALUE, Integer.MAX_VALUE}) {
            CHECK.refused("add(1, 1, 0, " + wrong + ")", table, () -> table.add(1, 1, 0, wrong), TideTable.OUTSIDE);
        }
        for (int wave : new int[] {-1, 3, Integer.MIN_VALUE, Integer.MAX_VALUE}) {
            CHECK.refused("take(0, " + wave + ")", table, () -> table.take(0, wave), TideTable.UNKNOWN);
        }
        CHECK.due("take(0, 0)", table.take(0, 0), 2);
        CHECK.row("wave(0, 0, i) behind take", i -> table.wave(0, 0, i), 1, 0, 0);
        CHECK.row("wave(0, 1, i) behind take", i -> table.wave(0, 1, i), 99, 99, 63);
        CHECK.refused("take(0, 2)", table, () -> table.take(0, 2), TideTable.UNKNOWN);
        CHECK.due("take(0, 1)", table.take(0, 1), 1);
        CHECK.due("take(0, 0) of one", table.take(0, 0), 0);
        CHECK.refused("take(0, 0) of none", table, () -> table.take(0, 0), TideTable.UNKNOWN);
        CHECK.due("sum without waves", table.sum(0, 3), 500);
        CHECK.due("add to a follower", table.add(3, 16, 10, 0), 1);
        CHECK.due("sum of a follower with a wave", table.sum(3, 0), 700);
        CHECK.due("count(1)", table.count(1), 4);
    }

    private static void be() {
        TideTable table = Check.read(PAGE);
        CHECK.due("be(1, 3)", table.be(1, 3), 1);
        CHECK.due("be(1, 4)", table.be(1, 4), 3);
        CHECK.due("be(1, 4) again", table.be(1, 4), 4);
        CHECK.row("port(1, i)", i -> table.port(1, i), 4, 20, 30, 50, 2, 31, 0);
        CHECK.due("be(3, 0)", table.be(3, 0), 3);
        CHECK.row("port(3, i)", i -> table.port(3, i), 0, 60, 70, 80, 0, 31, 0);
        for (int kind : new int[] {4, 2, 1, 0}) {
            table.be(0, kind);
            CHECK.due("kind of port 0", table.port(0, 0), kind);
        }
        CHECK.refused("be(0, 3)", table, () -> table.be(0, 3), TideTable.OUTSIDE);
        for (int none : NO_PORTS) {
            CHECK.refused("be(" + none + ", 5)", table, () -> table.be(none, 5), TideTable.UNKNOWN);
        }
        for (int kind : new int[] {-1, 5, Integer.MIN_VALUE, Integer.MAX_VALUE}) {
            CHECK.refused("be(1, " + kind + ")", table, () -> table.be(1, kind), TideTable.OUTSIDE);
        }
    }
}
