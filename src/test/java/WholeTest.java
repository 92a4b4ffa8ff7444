/** Promises 28 to 31: image, restore, count, digest. */
public final class WholeTest {
    private static final Check CHECK = new Check("WholeTest");
    private static final String PAGE = "p5000165000020507,f101050,b2030020507";

    public static void main(String[] args) {
        images();
        imagesOfOtherPorts();
        counts();
        digests();
        CHECK.end();
    }

    private static void change(TideTable table) {
        table.mean(0, 1);
        table.mark(0, 2);
        table.ratio(1, 3);
        table.take(0, 0);
        table.add(1, 4, 5, 6);
        table.be(2, 4);
        table.forget();
        table.see(2, 3, true);
    }

    private static void images() {
        TideTable table = Check.read(PAGE);
        table.see(1, 2, true);
        table.see(0, 2, false);
        long kept = table.digest();
        CHECK.due("image()", table.image(), 3);
        CHECK.due("digest() behind image()", table.digest(), kept);
        change(table);
        CHECK.due("changed", table.digest() == kept ? 1 : 0, 0);
        CHECK.due("restore()", table.restore(), 3);
        CHECK.due("digest() behind restore()", table.digest(), kept);
        change(table);
        CHECK.due("restore() again", table.restore(), 3);
        CHECK.due("digest() behind restore() again", table.digest(), kept);
        change(table);
        long later = table.digest();
        CHECK.due("a later image()", table.image(), 3);
        table.mean(2, 99);
        CHECK.due("restore() of the later one", table.restore(), 3);
        CHECK.due("digest() of the later one", table.digest(), later);
        table.letter('p');
        long typed = table.digest();
        CHECK.due("restore() with a page", table.restore(), 3);
        CHECK.due("the page is no part of the image", table.digest(), typed);
        CHECK.due("see behind restore()", table.see(0, 0, true), 2);
    }

    private static void imagesOfOtherPorts() {
        TideTable table = new TideTable();
        CHECK.refused("image() without ports", table, table::image, TideTable.STATE);
        CHECK.refused("restore() without an image", table, table::restore, TideTable.STATE);
        Check.type(table, PAGE);
        table.ports();
        CHECK.refused("restore() behind ports()", table, table::restore, TideTable.STATE);
        CHECK.due("image()", table.image(), 3);
        Check.type(table, "p500016500");
        CHECK.refused("ports() of none", table, table::ports, TideTable.STATE);
        CHECK.due("restore() behind ports() of none", table.restore(), 3);
        table.letter('0');
        CHECK.due("ports() again", table.ports(), 1);
        CHECK.refused("restore() of other ports", table, table::restore, TideTable.STATE);
        CHECK.due("image() of the other ports", table.image(), 1);
        CHECK.due("restore() of the other ports' image", table.restore(), 1);
        Check.type(table, PAGE);
        CHECK.due("ports() of more", table.ports(), 3);
        CHECK.refused("restore() of fewer", table, table::restore, TideTable.STATE);
    }

    private static void counts() {
        TideTable table = Check.read(PAGE);
        CHECK.row("count(i)", table::count, 3, 3, 1, table.height(0, 0), 0, 0, 1);
        table.see(0, 0, true);
        table.letter('x');
        table.letter('y');
        table.add(1, 16, 99, 0);
        table.be(2, 3);
        CHECK.row("count(i) later", table::count, 3, 4, 2, table.height(0, 0), 1, 2, 1);
        table.be(2, 1);
        table.mark(2, 99);
        table.mean(0, 1);
        CHECK.due("count(3) of the last port", table.count(3), 990);
        table.blank();
        Check.type(table, PAGE);
        table.ports();
        CHECK.due("count(6) behind two", table.count(6), 2);
        for (int what : new int[] {-1, 7, Integer.MIN_VALUE, Integer.MAX_VALUE}) {
            CHECK.refused("count(" + what + ")", table, () -> table.count(what), TideTable.OUTSIDE);
        }
        // Turn -1000 at tick 0 and greatest at tick 143: angle 655, step 40 and 15 of 16.
        TideTable below = Check.read("p0000019932");
        CHECK.due("count(3) below 0", below.count(3), below.height(0, 143));
        CHECK.due("it is below 0", below.count(3), -633);
        // The greatest at tick 144 is not of day 0.
        TideTable after = Check.read("t5099010000");
        CHECK.due("count(3) of day 0 alone", after.count(3), 500);
        // The first and the last tick of the day count.
        CHECK.due("count(3) at tick 0", Check.read("p0000019900").count(3), 990);
        CHECK.due("count(3) at tick 0 of port 1", Check.read("p0000010000,p0000019900").count(3), 990);
        TideTable rising = Check.read("p0000011032");
        CHECK.due("count(3) at tick 143", rising.count(3), rising.height(0, 143));
        CHECK.due("it is more than at tick 142", rising.height(0, 143) > rising.height(0, 142) ? 1 : 0, 1);
    }

    private static long hash(long h, int... numbers) {
        for (int number : numbers) {
            h = 31 * h + number;
        }
        return h;
    }

    private static void digests() {
        // A silled port without a wave that moves: its sums are 120, its heights 340.
        TideTable table = Check.typed("s1234010063,f010250");
        table.ports();
        table.see(0, 0, true);
        table.letter('p');
        table.letter('~');
        long h = hash(1423, 1, 12, 34, 50, 1, 6, 1);
        h = hash(h, 1, 0, 63);
        h = hash(h, 120, 340, 120, 340, 120, 340, 120, 340, 120, 340, 120, 340);
        h = hash(h, 3, 1, 2, 50, 0, 31, 0);
        h = hash(h, 10, 180, 10, 180, 10, 180, 10, 180, 10, 180, 10, 180);
        h = hash(h, 'p', '~');
        h = hash(h, 2, 1, 1, 340, 1, 2, 1);
        CHECK.due("digest()", table.digest(), h);
        CHECK.due("digest() again", table.digest(), h);
        TideTable steps = Check.read("p5000165000");
        long s = hash(1423, 0, 50, 0, 50, 1, 31, 0, 16, 50, 0);
        for (int tick : new int[] {0, 7, 50, 144, 400, 1439}) {
            s = hash(s, steps.sum(0, tick), steps.height(0, tick));
        }
        CHECK.due("digest() of one", steps.digest(), hash(s, 1, 1, 0, 1000, 0, 0, 1));
    }
}
