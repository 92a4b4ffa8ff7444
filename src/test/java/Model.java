import java.util.ArrayList;
import java.util.List;
import java.util.regex.Matcher;
import java.util.regex.Pattern;

/** The document told once more, as literally and as slowly as it can be: what ModelTest compares with. */
final class Model {
    static final int NONE = -10001, UNKNOWN = -10101, OUTSIDE = -10102, STATE = -10103, FULL = -10104;

    private static final String WAVE = "(?:0[1-9]|[1-9][0-9])[0-9]{2}(?:[0-5][0-9]|6[0-3])";
    private static final String OTHER = "[psbt][0-9]{4}(?:" + WAVE + "){1,3}";
    private static final String FOLLOWER = "f[0-9]{6}";
    private static final Pattern PORTS =
            Pattern.compile(OTHER + "(?:,(?:" + OTHER + "|" + FOLLOWER + ")){0,3}");

    private record Wave(int speed, int size, int start) {
    }

    private record Seen(int port, int what, boolean could) {
    }

    private static final class Port {
        char kind;
        int mean;
        int mark;
        int ratio = 50;
        List<Wave> waves = new ArrayList<>();

        Port copy() {
            Port it = new Port();
            it.kind = kind;
            it.mean = mean;
            it.mark = mark;
            it.ratio = ratio;
            it.waves = new ArrayList<>(waves);
            return it;
        }
    }

    private String page = "";
    private List<Port> ports = new ArrayList<>();
    private List<Seen> seen = new ArrayList<>();
    private List<Port> imagePorts;
    private List<Seen> imageSeen;
    private int readings;

    private static boolean in(int x, int least, int most) {
        return least <= x && x <= most;
    }

    private boolean no(int port) {
        return !in(port, 0, ports.size() - 1);
    }

    int letter(int code) {
        if (!in(code, 32, 126)) {
            return OUTSIDE;
        }
        if (page.length() == 96) {
            return FULL;
        }
        page += (char) code;
        return page.length();
    }

    int blank() {
        int had = page.length();
        page = "";
        return had;
    }

    int fault() {
        for (int i = 0; i < page.length(); i++) {
            Matcher matcher = PORTS.matcher(page.substring(0, i + 1));
            if (!matcher.matches() && !matcher.hitEnd()) {
                return i;
            }
        }
        return page.length();
    }

    int ports() {
        if (!PORTS.matcher(page).matches()) {
            return STATE;
        }
        ports = new ArrayList<>();
        seen = new ArrayList<>();
        imagePorts = null;
        readings++;
        for (String text : page.split(",")) {
            Port it = new Port();
            it.kind = text.charAt(0);
            it.mean = Integer.parseInt(text.substring(1, 3));
            it.mark = Integer.parseInt(text.substring(3, 5));
            if (it.kind == 'f') {
                it.ratio = Integer.parseInt(text.substring(5, 7));
            } else {
                for (int i = 5; i < text.length(); i += 6) {
                    it.waves.add(new Wave(Integer.parseInt(text.substring(i, i + 2)),
                            Integer.parseInt(text.substring(i + 2, i + 4)),
                            Integer.parseInt(text.substring(i + 4, i + 6))));
                }
            }
            ports.add(it);
        }
        page = "";
        return ports.size();
    }

    private static boolean could(int kind, int what) {
        return switch (what) {
            case 0 -> kind == 1 || kind == 2;
            case 1 -> kind == 2;
            case 2 -> kind == 3;
            default -> kind == 4;
        };
    }

    private List<Integer> sorts(int port) {
        List<Integer> left = new ArrayList<>(List.of(0, 1, 2, 3, 4));
        for (Seen it : seen) {
            if (it.port == port) {
                left.removeIf(kind -> could(kind, it.what) != it.could);
            }
        }
        return left;
    }

    private int ask(int port) {
        List<Integer> left = sorts(port);
        if (left.isEmpty()) {
            return NONE;
        }
        int best = -1;
        long fewest = 99;
        for (int i = 0; i < 4; i++) {
            int what = i;
            long yes = left.stream().filter(kind -> could(kind, what)).count();
            long worst = Math.max(yes, left.size() - yes);
            if (worst < fewest) {
                fewest = worst;
                best = what;
            }
        }
        return best;
    }

    int port(int port, int what) {
        if (no(port)) {
            return UNKNOWN;
        }
        Port it = ports.get(port);
        return switch (what) {
            case 0 -> "psbft".indexOf(it.kind);
            case 1 -> it.mean;
            case 2 -> it.mark;
            case 3 -> it.ratio;
            case 4 -> it.waves.size();
            case 5 -> sorts(port).stream().mapToInt(kind -> 1 << kind).sum();
            case 6 -> ask(port);
            default -> OUTSIDE;
        };
    }

    int wave(int port, int wave, int what) {
        if (no(port) || !in(wave, 0, ports.get(port).waves.size() - 1)) {
            return UNKNOWN;
        }
        Wave it = ports.get(port).waves.get(wave);
        return what == 0 ? it.speed : what == 1 ? it.size : what == 2 ? it.start : OUTSIDE;
    }

    int as(int port, int kind) {
        if (no(port)) {
            return UNKNOWN;
        }
        if (!in(kind, 0, 4)) {
            return OUTSIDE;
        }
        String such = new String[] {"psbft", "sb", "b", "f", "t"}[kind];
        return such.indexOf(ports.get(port).kind) >= 0 ? port : NONE;
    }

    int round(int step) {
        int[] quarter = {1000, 995, 981, 957, 924, 882, 831, 773, 707, 634, 556, 471, 383, 290, 195, 98, 0};
        if (!in(step, 0, 64)) {
            return OUTSIDE;
        }
        if (step > 32) {
            return round(64 - step);
        }
        return step > 16 ? -round(32 - step) : quarter[step];
    }

    private int sumOf(Port port, int tick) {
        double sum = 10 * port.mean;
        for (Wave wave : port.waves) {
            int angle = Math.floorMod(wave.speed * tick + 16 * wave.start, 1024);
            int n = angle / 16;
            int r = angle % 16;
            double turn = Math.floor((round(n) * (16 - r) + round(n + 1) * r) / 16.0);
            sum += Math.floorDiv((int) (wave.size * turn), 100);
        }
        return (int) sum;
    }

    private int heightOf(int number, int tick) {
        Port port = ports.get(number);
        int sum = sumOf(port, tick);
        switch (port.kind) {
            case 's':
                return Math.max(sum, 10 * port.mark);
            case 'b':
                int greatest = Integer.MIN_VALUE;
                for (int t = tick - 6; t <= tick; t++) {
                    greatest = Math.max(greatest, Math.max(sumOf(port, t), 10 * port.mark));
                }
                return greatest;
            case 'f':
                return Math.floorDiv(heightOf(0, tick - port.mark) * port.ratio, 100) + 10 * port.mean;
            case 't':
                return Math.floorMod(Math.floorDiv(tick, 144), 2) == 1 ? sum + port.mark : sum;
            default:
                return sum;
        }
    }

    int sum(int port, int tick) {
        return no(port) ? UNKNOWN : !in(tick, 0, 1439) ? OUTSIDE : sumOf(ports.get(port), tick);
    }

    int height(int port, int tick) {
        return no(port) ? UNKNOWN : !in(tick, 0, 1439) ? OUTSIDE : heightOf(port, tick);
    }

    private boolean turns(int port, int tick, int sign) {
        int here = sign * heightOf(port, tick);
        if (sign * heightOf(port, tick - 1) >= here) {
            return false;
        }
        for (int t = tick + 1; t <= tick + 144; t++) {
            int there = sign * heightOf(port, t);
            if (there != here) {
                return there < here;
            }
        }
        return false;
    }

    int tide(int port, int day, int number, int what) {
        if (no(port)) {
            return UNKNOWN;
        }
        if (!in(day, 0, 9)) {
            return OUTSIDE;
        }
        List<int[]> tides = new ArrayList<>();
        for (int tick = 144 * day; tick < 144 * day + 144; tick++) {
            if (turns(port, tick, 1)) {
                tides.add(new int[] {tick, 1, heightOf(port, tick)});
            }
            if (turns(port, tick, -1)) {
                tides.add(new int[] {tick, 0, heightOf(port, tick)});
            }
        }
        if (!in(number, 0, tides.size() - 1)) {
            return UNKNOWN;
        }
        return in(what, 0, 2) ? tides.get(number)[what] : OUTSIDE;
    }

    int gate(int port, int day, int need, int number, int what) {
        if (no(port)) {
            return UNKNOWN;
        }
        if (!in(day, 0, 9) || !in(need, -2000, 4000)) {
            return OUTSIDE;
        }
        List<int[]> gates = new ArrayList<>();
        boolean open = false;
        for (int tick = 144 * day; tick < 144 * day + 144; tick++) {
            boolean can = heightOf(port, tick) >= need;
            if (can && !open) {
                gates.add(new int[] {tick, tick});
            } else if (can) {
                gates.get(gates.size() - 1)[1] = tick;
            }
            open = can;
        }
        if (!in(number, 0, gates.size() - 1)) {
            return UNKNOWN;
        }
        return in(what, 0, 1) ? gates.get(number)[what] : OUTSIDE;
    }

    int dry(int port, int day, int rock) {
        if (no(port)) {
            return UNKNOWN;
        }
        if (!in(day, 0, 9) || !in(rock, -2000, 4000)) {
            return OUTSIDE;
        }
        int ticks = 0;
        for (int tick = 144 * day; tick < 144 * day + 144; tick++) {
            ticks += heightOf(port, tick) < rock ? 1 : 0;
        }
        return ticks;
    }

    private int streamOf(int one, int other, int tick) {
        return heightOf(one, tick) - heightOf(other, tick);
    }

    int stream(int one, int other, int tick) {
        return no(one) || no(other) ? UNKNOWN : !in(tick, 0, 1439) ? OUTSIDE : streamOf(one, other, tick);
    }

    int slack(int one, int other, int tick) {
        if (no(one) || no(other)) {
            return UNKNOWN;
        }
        if (!in(tick, 0, 1439)) {
            return OUTSIDE;
        }
        for (int t = tick; t <= tick + 143; t++) {
            int now = Integer.signum(streamOf(one, other, t));
            if (now == 0 || now * Integer.signum(streamOf(one, other, t - 1)) < 0) {
                return t;
            }
        }
        return NONE;
    }

    private int lasts(int one, int other, int tick, int pace) {
        int far = 0;
        int ticks = 0;
        while (far < 300) {
            if (ticks == 200) {
                return NONE;
            }
            int more = (int) (pace + Math.floor(streamOf(one, other, tick + ticks) / 20.0));
            far += more < 0 ? 0 : more;
            ticks++;
        }
        return ticks;
    }

    int trip(int one, int other, int tick, int pace) {
        if (no(one) || no(other)) {
            return UNKNOWN;
        }
        return !in(tick, 0, 1439) || !in(pace, 1, 30) ? OUTSIDE : lasts(one, other, tick, pace);
    }

    int leave(int one, int other, int day, int pace, int need) {
        if (no(one) || no(other)) {
            return UNKNOWN;
        }
        if (!in(day, 0, 9) || !in(pace, 1, 30) || !in(need, -2000, 4000)) {
            return OUTSIDE;
        }
        for (int tick = 144 * day; tick < 144 * day + 144; tick++) {
            int lasts = lasts(one, other, tick, pace);
            if (lasts != NONE && heightOf(other, tick + lasts) >= need) {
                return tick;
            }
        }
        return NONE;
    }

    int mean(int port, int mean) {
        if (no(port) || !in(mean, 0, 99)) {
            return no(port) ? UNKNOWN : OUTSIDE;
        }
        int was = ports.get(port).mean;
        ports.get(port).mean = mean;
        return was;
    }

    int mark(int port, int mark) {
        if (no(port) || !in(mark, 0, 99)) {
            return no(port) ? UNKNOWN : OUTSIDE;
        }
        int was = ports.get(port).mark;
        ports.get(port).mark = mark;
        return was;
    }

    int ratio(int port, int ratio) {
        if (no(port) || !in(ratio, 0, 99)) {
            return no(port) ? UNKNOWN : OUTSIDE;
        }
        int was = ports.get(port).ratio;
        ports.get(port).ratio = ratio;
        return was;
    }

    int add(int port, int speed, int size, int start) {
        if (no(port)) {
            return UNKNOWN;
        }
        if (!in(speed, 1, 99) || !in(size, 0, 99) || !in(start, 0, 63)) {
            return OUTSIDE;
        }
        List<Wave> waves = ports.get(port).waves;
        if (waves.size() == 3) {
            return FULL;
        }
        waves.add(new Wave(speed, size, start));
        return waves.size();
    }

    int take(int port, int wave) {
        if (no(port) || !in(wave, 0, ports.get(port).waves.size() - 1)) {
            return UNKNOWN;
        }
        ports.get(port).waves.remove(wave);
        return ports.get(port).waves.size();
    }

    int be(int port, int kind) {
        if (no(port)) {
            return UNKNOWN;
        }
        if (!in(kind, 0, 4) || port == 0 && kind == 3) {
            return OUTSIDE;
        }
        int was = "psbft".indexOf(ports.get(port).kind);
        ports.get(port).kind = "psbft".charAt(kind);
        return was;
    }

    int see(int port, int what, boolean could) {
        if (no(port)) {
            return UNKNOWN;
        }
        if (!in(what, 0, 3)) {
            return OUTSIDE;
        }
        if (seen.size() == 6) {
            return FULL;
        }
        seen.add(new Seen(port, what, could));
        return seen.size();
    }

    int forget() {
        int was = seen.size();
        seen.clear();
        return was;
    }

    int drawn(int times, int seed, int what) {
        if (!in(times, 1, 50) || seed < 0 || !in(what, 0, 2)) {
            return OUTSIDE;
        }
        if (ports.isEmpty()) {
            return STATE;
        }
        int often = 0;
        int sum = 0;
        long s = seed;
        for (int i = 0; i < times; i++) {
            s = (1103515245L * s + 12345L) % (1L << 31);
            int port = (int) (s / 65536 % ports.size());
            s = (1103515245L * s + 12345L) % (1L << 31);
            int tick = (int) (s / 65536 % 1440);
            often += heightOf(port, tick) >= 10 * ports.get(port).mean ? 1 : 0;
            sum += heightOf(port, tick);
        }
        return what == 0 ? often : what == 1 ? sum : (int) s;
    }

    private static List<Port> copies(List<Port> those) {
        return new ArrayList<>(those.stream().map(Port::copy).toList());
    }

    int image() {
        if (ports.isEmpty()) {
            return STATE;
        }
        imagePorts = copies(ports);
        imageSeen = new ArrayList<>(seen);
        return ports.size();
    }

    int restore() {
        if (imagePorts == null) {
            return STATE;
        }
        ports = copies(imagePorts);
        seen = new ArrayList<>(imageSeen);
        return ports.size();
    }

    private int greatest() {
        List<Integer> heights = new ArrayList<>();
        for (int port = 0; port < ports.size(); port++) {
            for (int tick = 0; tick < 144; tick++) {
                heights.add(heightOf(port, tick));
            }
        }
        return heights.stream().mapToInt(Integer::intValue).max().orElse(0);
    }

    int count(int what) {
        return switch (what) {
            case 0 -> ports.size();
            case 1 -> ports.stream().mapToInt(port -> port.waves.size()).sum();
            case 2 -> (int) ports.stream().filter(port -> port.kind == 'f').count();
            case 3 -> greatest();
            case 4 -> seen.size();
            case 5 -> page.length();
            case 6 -> readings;
            default -> OUTSIDE;
        };
    }

    long digest() {
        List<Integer> all = new ArrayList<>();
        for (int port = 0; port < ports.size(); port++) {
            for (int what = 0; what <= 6; what++) {
                all.add(port(port, what));
            }
            for (int wave = 0; wave < ports.get(port).waves.size(); wave++) {
                for (int what = 0; what <= 2; what++) {
                    all.add(wave(port, wave, what));
                }
            }
            for (int tick : new int[] {0, 7, 50, 144, 400, 1439}) {
                all.add(sum(port, tick));
                all.add(height(port, tick));
            }
        }
        page.chars().forEach(all::add);
        for (int what = 0; what <= 6; what++) {
            all.add(count(what));
        }
        long h = 1423;
        for (int number : all) {
            h = 31 * h + number;
        }
        return h;
    }
}
