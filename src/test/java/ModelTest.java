import java.util.Random;

/** Runs of calls by a seed, right and wrong ones, on a TideTable and on the Model: all answers are alike. */
public final class ModelTest {
    private static final int RUNS = 400;
    private static final int CALLS = 512;
    private static final int[] FAR = {Integer.MIN_VALUE, -65536, -1, 0, 1, 127, 256, 65536, Integer.MAX_VALUE};

    private final Random random;
    private final Check check;
    private final int run;
    private final TideTable table = new TideTable();
    private final Model model = new Model();
    private int calls;

    private ModelTest(int run, Check check) {
        this.run = run;
        this.check = check;
        this.random = new Random(run);
    }

    public static void main(String[] args) {
        Check check = new Check("ModelTest");
        for (int run = 0; run < RUNS; run++) {
            new ModelTest(run, check).go();
        }
        check.end();
    }

    private void go() {
        while (calls < CALLS - 100) {
            if (random.nextInt(30) == 0 || model.count(0) == 0 && random.nextInt(3) > 0) {
                typePage();
            } else {
                ask(random.nextInt(32));
            }
        }
        due("digest()", table.digest(), model.digest());
    }

    private void due(String call, long got, long want) {
        calls++;
        check.due("run " + run + ", call " + calls + ": " + call, got, want);
    }

    private String two(int least, int most) {
        int number = least + random.nextInt(most - least + 1);
        return "" + number / 10 + number % 10;
    }

    private String page() {
        StringBuilder text = new StringBuilder();
        int ports = 1 + random.nextInt(4);
        for (int port = 0; port < ports; port++) {
            char kind = (port == 0 ? "psbt" : "psbtffff").charAt(random.nextInt(port == 0 ? 4 : 8));
            text.append(port == 0 ? "" : ",").append(kind).append(two(0, 99)).append(two(0, 99));
            if (kind == 'f') {
                text.append(two(0, 99));
                continue;
            }
            for (int waves = 1 + random.nextInt(3); waves > 0; waves--) {
                text.append(two(1, random.nextBoolean() ? 99 : 5)).append(two(0, 99)).append(two(0, 63));
            }
        }
        if (random.nextInt(3) == 0) {
            String letters = "psbft,0123456789 x";
            char letter = letters.charAt(random.nextInt(letters.length()));
            int place = random.nextInt(text.length());
            switch (random.nextInt(4)) {
                case 0 -> text.setCharAt(place, letter);
                case 1 -> text.insert(place, letter);
                case 2 -> text.deleteCharAt(place);
                default -> text.setLength(place);
            }
        }
        return text.toString();
    }

    private void typePage() {
        if (random.nextInt(4) > 0) {
            due("blank()", table.blank(), model.blank());
        }
        String text = page();
        for (int i = 0; i < text.length(); i++) {
            int code = text.charAt(i);
            due("letter(" + code + ")", table.letter(code), model.letter(code));
            if (random.nextInt(10) == 0) {
                due("fault()", table.fault(), model.fault());
            }
        }
        due("fault()", table.fault(), model.fault());
        due("ports()", table.ports(), model.ports());
    }

    /** Mostly a number from least to most, now and then one beside or far from them. */
    private int some(int least, int most) {
        int sort = random.nextInt(24);
        if (sort == 0) {
            return FAR[random.nextInt(FAR.length)];
        }
        if (sort == 1) {
            return random.nextBoolean() ? least - 1 : most + 1;
        }
        if (sort == 2) {
            return random.nextBoolean() ? least : most;
        }
        return least + random.nextInt(most - least + 1);
    }

    private int somePort() {
        return some(0, Math.max(0, model.count(0) - 1));
    }

    private void ask(int which) {
        int p = somePort();
        int o = somePort();
        switch (which) {
            case 0, 1, 2, 3, 4, 5 -> askOfPorts(which, p);
            case 6, 7, 8, 9, 10, 11, 12 -> askHeights(which, p);
            case 13, 14, 15, 16, 17 -> askStreams(which, p, o);
            case 18, 19, 20, 21, 22, 23 -> change(which, p);
            default -> askRest(which, p);
        }
    }

    private void askOfPorts(int which, int p) {
        int a = some(0, 6);
        int b = some(0, 2);
        int code = some(32, 126);
        switch (which) {
            case 0 -> due("letter(" + code + ")", table.letter(code), model.letter(code));
            case 1 -> due("fault()", table.fault(), model.fault());
            case 2 -> due("port(" + p + ", " + a + ")", table.port(p, a), model.port(p, a));
            case 3 -> due("wave(" + p + ", " + b + ", " + a + ")", table.wave(p, b, a), model.wave(p, b, a));
            case 4 -> due("as(" + p + ", " + a + ")", table.as(p, a), model.as(p, a));
            default -> due("ports()", table.ports(), model.ports());
        }
    }

    private void askHeights(int which, int p) {
        int tick = some(0, 1439);
        int day = random.nextInt(3) == 0 ? 0 : some(0, 9);
        int need = random.nextBoolean() ? some(0, 1200) : some(-2000, 4000);
        int number = random.nextBoolean() ? some(0, 1) : some(0, 12);
        int what = some(0, 2);
        String of = "(" + p + ", " + day + ", ";
        switch (which) {
            case 6 -> due("round(" + tick % 70 + ")", table.round(tick % 70), model.round(tick % 70));
            case 7 -> due("sum(" + p + ", " + tick + ")", table.sum(p, tick), model.sum(p, tick));
            case 8 -> due("height(" + p + ", " + tick + ")", table.height(p, tick), model.height(p, tick));
            case 9, 10 -> due("tide" + of + number + ", " + what + ")",
                    table.tide(p, day, number, what), model.tide(p, day, number, what));
            case 11 -> due("gate" + of + need + ", " + number + ", " + what + ")",
                    table.gate(p, day, need, number, what), model.gate(p, day, need, number, what));
            default -> due("dry" + of + need + ")", table.dry(p, day, need), model.dry(p, day, need));
        }
    }

    private void askStreams(int which, int p, int o) {
        int tick = random.nextInt(4) == 0 ? some(0, 3) : some(0, 1439);
        int day = some(0, 9);
        int pace = some(1, 30);
        int need = random.nextBoolean() ? some(0, 1500) : some(-2000, 4000);
        String of = "(" + p + ", " + o + ", ";
        switch (which) {
            case 13 -> due("stream" + of + tick + ")", table.stream(p, o, tick), model.stream(p, o, tick));
            case 14 -> due("slack" + of + tick + ")", table.slack(p, o, tick), model.slack(p, o, tick));
            case 15 -> due("trip" + of + tick + ", " + pace + ")",
                    table.trip(p, o, tick, pace), model.trip(p, o, tick, pace));
            default -> due("leave" + of + day + ", " + pace + ", " + need + ")",
                    table.leave(p, o, day, pace, need), model.leave(p, o, day, pace, need));
        }
    }

    private void change(int which, int p) {
        int a = some(0, 99);
        int speed = some(1, 99);
        int start = some(0, 63);
        int wave = some(0, 2);
        int kind = some(0, 4);
        switch (which) {
            case 18 -> due("mean(" + p + ", " + a + ")", table.mean(p, a), model.mean(p, a));
            case 19 -> due("mark(" + p + ", " + a + ")", table.mark(p, a), model.mark(p, a));
            case 20 -> due("ratio(" + p + ", " + a + ")", table.ratio(p, a), model.ratio(p, a));
            case 21 -> due("add(" + p + ", " + speed + ", " + a + ", " + start + ")",
                    table.add(p, speed, a, start), model.add(p, speed, a, start));
            case 22 -> due("take(" + p + ", " + wave + ")", table.take(p, wave), model.take(p, wave));
            default -> due("be(" + p + ", " + kind + ")", table.be(p, kind), model.be(p, kind));
        }
    }

    private void askRest(int which, int p) {
        int what = some(0, 3);
        boolean could = random.nextInt(3) == 0;
        int times = some(1, 50);
        int seed = random.nextInt(5) == 0 ? some(0, 9) : random.nextInt(Integer.MAX_VALUE);
        int counted = some(0, 6);
        switch (which) {
            case 24, 25 -> due("see(" + p + ", " + what + ", " + could + ")",
                    table.see(p, what, could), model.see(p, what, could));
            case 26 -> {
                if (random.nextInt(3) == 0) {
                    due("forget()", table.forget(), model.forget());
                }
            }
            case 27 -> due("drawn(" + times + ", " + seed + ", " + what + ")",
                    table.drawn(times, seed, what), model.drawn(times, seed, what));
            case 28 -> due("image()", table.image(), model.image());
            case 29 -> due("restore()", table.restore(), model.restore());
            case 30 -> due("count(" + counted + ")", table.count(counted), model.count(counted));
            default -> due("digest()", table.digest(), model.digest());
        }
    }
}
