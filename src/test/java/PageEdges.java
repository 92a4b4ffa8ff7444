/** The boundary cases of promises 1 to 5, and of the ports as a text. */
final class PageEdges {
    private static final String WAVE = "010000";
    private static final String PORT = "p0000" + WAVE;
    private static final String LONGEST = PORT + WAVE + WAVE;
    private static final String FOLLOWER = "f000000";
    private static final String FIGURES = "0123456789";

    private final Edge edge;

    PageEdges(Edge edge) {
        this.edge = edge;
    }

    void all() {
        newObject();
        howManyPorts();
        howManyWaves();
        lettersOfKinds();
        numbersOfText();
        numbersTooGreat();
        textOfFollowers();
        letters();
        fullPage();
        blanks();
        faults();
        portsRead();
        othersAreGone();
        portsThatAreNone();
    }

    private void newObject() {
        edge.says(1, "No PORTS.");
        TideTable table = new TideTable();
        edge.due("count(0)", table.count(0), 0);
        edge.due("image()", table.image(), TideTable.STATE);
        edge.due("restore()", table.restore(), TideTable.STATE);
        edge.due("drawn(1, 0, 0)", table.drawn(1, 0, 0), TideTable.STATE);
        edge.says(Edge.TERMS, "At first there is none.");
        edge.due("port(0, 0)", table.port(0, 0), TideTable.UNKNOWN);
        edge.due("height(0, 0)", table.height(0, 0), TideTable.UNKNOWN);
        edge.due("ports()", table.ports(), TideTable.STATE);
    }

    private void fault(String page, int want) {
        edge.due("fault() of " + page, Check.typed(page).fault(), want);
    }

    private void ports(String page, int want) {
        edge.due("ports() of " + page, Check.typed(page).ports(), want);
    }

    /** Of all letters behind those of a page, these alone are right. */
    private void rightBehind(String ahead, String letters) {
        for (int code = 32; code <= 126; code++) {
            String page = ahead + (char) code;
            fault(page, letters.indexOf(code) < 0 ? ahead.length() : page.length());
        }
    }

    private static String list(String port, int times) {
        return (port + ",").repeat(times - 1) + port;
    }

    private void howManyPorts() {
        edge.says(Edge.TERMS, "There are up to four PORTS (numbered from 0).");
        for (int many = 1; many <= 4; many++) {
            TideTable table = Check.read(list(PORT, many));
            edge.due("count(0)", table.count(0), many);
            edge.due("the first port", table.port(0, 4), 1);
            edge.due("the last port", table.port(many - 1, 4), 1);
            edge.due("a port behind the last", table.port(many, 4), TideTable.UNKNOWN);
            edge.due("a port ahead of the first", table.port(-1, 4), TideTable.UNKNOWN);
        }
        edge.says(Edge.TERMS, "one to four with \",\" between");
        ports("", TideTable.STATE);
        for (int many = 1; many <= 4; many++) {
            ports(list(PORT, many), many);
            ports(list(PORT, many) + ",", TideTable.STATE);
            ports("," + list(PORT, many), TideTable.STATE);
        }
        ports(list(PORT, 5), TideTable.STATE);
        ports(list(LONGEST, 4), 4);
        rightBehind(list(PORT, 3), "," + FIGURES);
        rightBehind(list(PORT, 4), FIGURES);
        rightBehind(list(LONGEST, 3), ",");
        rightBehind(list(LONGEST, 4), "");
        rightBehind(PORT + "," + list(FOLLOWER, 2), ",");
        rightBehind(PORT + "," + list(FOLLOWER, 3), "");
        fault(PORT + ",,", PORT.length() + 1);
        fault("," + PORT, 0);
    }

    private void howManyWaves() {
        edge.says(Edge.TERMS, "one to three WAVES");
        ports("p0000", TideTable.STATE);
        rightBehind("p0000", FIGURES);
        for (int many = 1; many <= 3; many++) {
            TideTable table = Check.read("p0000" + WAVE.repeat(many));
            edge.due("how many waves", table.port(0, 4), many);
            edge.due("the last wave", table.wave(0, many - 1, 0), 1);
            edge.due("a wave behind the last", table.wave(0, many, 0), TideTable.UNKNOWN);
        }
        ports("p0000" + WAVE.repeat(4), TideTable.STATE);
        rightBehind(PORT, "," + FIGURES);
        rightBehind(PORT + WAVE, "," + FIGURES);
        rightBehind(LONGEST, ",");
        for (int letters = 1; letters < WAVE.length(); letters++) {
            ports(PORT + WAVE.substring(0, letters), TideTable.STATE);
        }
    }

    private void lettersOfKinds() {
        edge.says(Edge.TERMS, "KINDS are told by the letter: 0 PORT \"p\", 1 SILLED \"s\", 2 BASIN \"b\", "
                + "3 FOLLOWER \"f\", 4 STORMY \"t\".");
        rightBehind("", "psbt");
        rightBehind(PORT + ",", "psbft");
        rightBehind(list(LONGEST, 3) + ",", "psbft");
        TideTable first = Check.read("s0000" + WAVE + ",b0000" + WAVE + ",f000000,t0000" + WAVE);
        edge.row("kind of port i", i -> first.port(i, 0), 1, 2, 3, 4);
        edge.due("kind of a plain port", Check.read(PORT).port(0, 0), 0);
        edge.says(Edge.TERMS, "The first PORT is no FOLLOWER.");
        fault("f", 0);
        ports(FOLLOWER, TideTable.STATE);
        ports(FOLLOWER + "," + PORT, TideTable.STATE);
        ports(PORT + "," + list(FOLLOWER, 3), 4);
    }

    private void numbersOfText() {
        edge.says(Edge.TERMS, "then numbers of two figures each");
        for (int place = 1; place < 9; place++) {
            rightBehind("p123456789".substring(0, place), FIGURES);
        }
        edge.says(Edge.TERMS, "A PORT has a KIND, a MEAN (0 to 99), a MARK (0 to 99), a RATIO (0 to 99)");
        TideTable table = Check.read("p0099" + WAVE + ",s9900" + WAVE + ",f000099,f999900");
        edge.row("mean of port i", i -> table.port(i, 1), 0, 99, 0, 99);
        edge.row("mark of port i", i -> table.port(i, 2), 99, 0, 0, 99);
        edge.row("ratio of port i", i -> table.port(i, 3), 50, 50, 99, 0);
        edge.says(Edge.TERMS, "each of a SPEED (1 to 99), a SIZE (0 to 99), a START (0 to 63)");
        TideTable waves = Check.read("p0000010063999900100963");
        edge.row("speed of wave i", i -> waves.wave(0, i, 0), 1, 99, 10);
        edge.row("size of wave i", i -> waves.wave(0, i, 1), 0, 99, 9);
        edge.row("start of wave i", i -> waves.wave(0, i, 2), 63, 0, 63);
    }

    private void numbersTooGreat() {
        edge.says(4, "(A number that may not be as great is wrong at the figure by which it can be none that may");
        String[] heads = {"p0000", PORT, PORT + WAVE, "t9999", LONGEST + ",b0000", list(LONGEST, 3) + ",s9999999963"};
        for (String head : heads) {
            rightBehind(head + "0100", "0123456");
            for (char tens = '0'; tens <= '5'; tens++) {
                rightBehind(head + "0100" + tens, FIGURES);
            }
            rightBehind(head + "01006", "0123");
            fault(head + "010070", head.length() + 4);
            fault(head + "010099", head.length() + 4);
        }
        edge.says(4, "00 as a SPEED is wrong at its second figure.)");
        for (String head : heads) {
            fault(head + "0", head.length() + 1);
            rightBehind(head + "0", "123456789");
            rightBehind(head + "1", FIGURES);
            rightBehind(head + "9", FIGURES);
            fault(head + "00", head.length() + 1);
            fault(head + "010000", head.length() + 6);
        }
    }

    private void textOfFollowers() {
        edge.says(Edge.TERMS, "MEAN, MARK, then of a FOLLOWER the RATIO");
        for (int letters = 1; letters < FOLLOWER.length(); letters++) {
            String ahead = PORT + "," + FOLLOWER.substring(0, letters);
            ports(ahead, TideTable.STATE);
            rightBehind(ahead, FIGURES);
        }
        rightBehind(PORT + "," + FOLLOWER, ",");
        rightBehind(PORT + ",f999999", ",");
        ports(PORT + "," + FOLLOWER + WAVE, TideTable.STATE);
        edge.says(Edge.TERMS, "(A FOLLOWER has no WAVES then; the RATIO of others is 50.)");
        TideTable table = Check.read(PORT + "," + LONGEST);
        table.ratio(0, 7);
        table.ratio(1, 8);
        Check.type(table, PORT + "," + FOLLOWER);
        table.ports();
        edge.due("waves of a follower where a port with three was", table.port(1, 4), 0);
        edge.due("ratio of a follower", table.port(1, 3), 0);
        edge.due("ratio of a port that had another one", table.port(0, 3), 50);
        table.add(1, 1, 1, 1);
        Check.type(table, PORT + "," + PORT);
        table.ports();
        edge.due("waves of a port where a follower with one was", table.port(1, 4), 1);
        edge.due("ratio of a port where a follower was", table.port(1, 3), 50);
    }

    private void letters() {
        edge.says(2, "OUTSIDE: code (32 to 126)");
        for (int code = 32; code <= 126; code++) {
            edge.due("letter(" + code + ")", new TideTable().letter(code), 1);
        }
        TideTable table = Check.read(PORT);
        for (int code : new int[] {31, 127, 0, -1, 128, 255, 256 + 48, 65536 + 48, Integer.MIN_VALUE,
                Integer.MAX_VALUE}) {
            edge.refused("letter(" + code + ")", table, () -> table.letter(code), TideTable.OUTSIDE);
        }
        edge.says(2, "A letter comes behind THE PAGE, told by its code: how many THE PAGE has.");
        TideTable typed = new TideTable();
        edge.due("the first letter", typed.letter('p'), 1);
        edge.due("the second letter", typed.letter('x'), 2);
        edge.due("the second letter is wrong", typed.fault(), 1);
        edge.due("a refused letter", typed.letter(31), TideTable.OUTSIDE);
        edge.due("the third letter", typed.letter('y'), 3);
    }

    private void fullPage() {
        edge.says(2, "FULL: above 96.");
        TideTable table = new TideTable();
        for (int many = 1; many <= 96; many++) {
            edge.due("letter number " + many, table.letter(many == 1 ? 'p' : '0'), many);
        }
        edge.refused("letter number 97", table, () -> table.letter('p'), TideTable.FULL);
        edge.refused("letter number 97 again", table, () -> table.letter(' '), TideTable.FULL);
        edge.due("the letters are those that came first", table.fault(), 6);
        edge.refused("a code that is outside, on a full page", table, () -> table.letter(127), TideTable.OUTSIDE);
        edge.due("how many there are", table.count(5), 96);
        edge.due("blank() of a full page", table.blank(), 96);
        edge.due("a letter behind that", table.letter('p'), 1);
        TideTable longest = Check.typed(list(LONGEST, 4));
        edge.due("the longest ports have 95 letters", longest.count(5), 95);
        edge.due("a letter behind the longest ports", longest.letter('0'), 96);
        edge.due("it is wrong", longest.fault(), 95);
        edge.due("no ports", longest.ports(), TideTable.STATE);
    }

    private void blanks() {
        edge.says(3, "THE PAGE is empty: how many letters it had.");
        TideTable table = new TideTable();
        edge.due("blank() of an empty page", table.blank(), 0);
        table.letter('x');
        edge.due("blank() of one letter", table.blank(), 1);
        edge.due("blank() again", table.blank(), 0);
        edge.due("count(5)", table.count(5), 0);
        edge.due("fault()", table.fault(), 0);
        edge.due("ports()", table.ports(), TideTable.STATE);
        TideTable full = Check.typed("x".repeat(96));
        edge.due("blank() of 96 letters", full.blank(), 96);
        TideTable read = Check.read(LONGEST + "," + FOLLOWER);
        read.see(1, 2, true);
        read.image();
        long before = read.digest();
        read.letter('x');
        edge.due("blank() with ports", read.blank(), 1);
        edge.due("the rest is as it was", read.digest(), before);
        edge.due("the image too", read.restore(), 2);
    }

    private void faults() {
        edge.says(4, "The place (from 0) of the first letter of THE PAGE that no PORTS have there, "
                + "behind those ahead of it");
        fault("x", 0);
        fault("xx", 0);
        fault("px", 1);
        fault("pxp", 1);
        fault("p0000" + WAVE + "x" + PORT, 11);
        fault(PORT + ",x,x", 12);
        fault("~".repeat(96), 0);
        fault(list(LONGEST, 4) + "~", 95);
        TideTable table = Check.typed("p5x");
        edge.due("fault()", table.fault(), 2);
        edge.due("fault() again", table.fault(), 2);
        table.letter('0');
        edge.due("a letter behind a wrong one", table.fault(), 2);
        edge.says(4, "how many letters it has, if there is none.");
        String page = list(LONGEST, 4);
        for (int many = 0; many <= page.length(); many++) {
            fault(page.substring(0, many), many);
        }
        TideTable older = Check.typed("xxxx");
        older.blank();
        edge.due("fault() where wrong letters were", older.fault(), 0);
        older.letter('p');
        edge.due("fault() ahead of older letters", older.fault(), 1);
        TideTable comma = Check.typed(PORT + ",");
        comma.blank();
        Check.type(comma, PORT);
        edge.due("fault() ahead of an older comma", comma.fault(), 11);
        edge.due("ports() ahead of an older comma", comma.ports(), 1);
    }

    private void portsRead() {
        edge.says(5, "how many; THE PAGE is empty then.");
        for (int many = 1; many <= 4; many++) {
            TideTable table = Check.typed(list(LONGEST, many));
            edge.due("ports()", table.ports(), many);
            edge.due("letters behind ports()", table.count(5), 0);
            edge.due("blank() behind ports()", table.blank(), 0);
            edge.due("ports() of the empty page", table.ports(), TideTable.STATE);
            edge.due("ports stay", table.count(0), many);
            edge.due("the next letter is the first", table.letter('p'), 1);
        }
    }

    private void othersAreGone() {
        edge.says(5, "(others are gone, with all that was)");
        TideTable table = Check.read(list(LONGEST, 2) + ",f010203," + LONGEST);
        for (int port = 0; port < 4; port++) {
            table.see(port, 0, true);
        }
        table.image();
        Check.type(table, PORT);
        edge.due("ports()", table.ports(), 1);
        edge.due("count(0)", table.count(0), 1);
        edge.due("count(1)", table.count(1), 1);
        edge.due("count(2)", table.count(2), 0);
        edge.due("count(4)", table.count(4), 0);
        edge.due("sorts", table.port(0, 5), 31);
        edge.due("port 1", table.port(1, 0), TideTable.UNKNOWN);
        edge.due("wave 1", table.wave(0, 1, 0), TideTable.UNKNOWN);
        edge.due("restore()", table.restore(), TideTable.STATE);
        edge.due("a first see", table.see(0, 1, true), 1);
        Check.type(table, list(PORT, 4));
        edge.due("ports() of four", table.ports(), 4);
        for (int port = 0; port < 4; port++) {
            edge.due("sorts of port " + port, table.port(port, 5), 31);
            edge.due("waves of port " + port, table.port(port, 4), 1);
        }
    }

    private void portsThatAreNone() {
        edge.says(5, "STATE: it is none.");
        String whole = PORT + ",f010203," + LONGEST;
        for (int many = 0; many <= whole.length(); many++) {
            boolean ends = many == 11 || many == 19 || many == 31 || many == 37 || many == 43;
            TideTable table = Check.read(LONGEST);
            table.see(0, 0, true);
            table.image();
            table.mean(0, 98);
            Check.type(table, whole.substring(0, many));
            if (ends) {
                edge.due("ports() of " + many, table.ports(), many == 11 ? 1 : many == 19 ? 2 : 3);
            } else {
                edge.refused("ports() of " + many, table, table::ports, TideTable.STATE);
                edge.due("the page stays", table.count(5), many);
                edge.due("restore() behind it", table.restore(), 1);
                edge.due("the image is the same", table.port(0, 1), 0);
            }
        }
        TideTable wrong = Check.typed(PORT + "x");
        edge.refused("ports() of a wrong letter", wrong, wrong::ports, TideTable.STATE);
        edge.due("count(6)", wrong.count(6), 0);
    }
}
