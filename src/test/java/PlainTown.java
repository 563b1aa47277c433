import java.util.ArrayList;
import java.util.Arrays;
import java.util.HashMap;
import java.util.HashSet;
import java.util.List;
import java.util.Map;
import java.util.NoSuchElementException;
import java.util.Set;
import java.util.regex.Matcher;
import java.util.regex.Pattern;

/**
 * The document once more, as slow and plain as can be: RandomTest holds NoseTown against it.
 * It shares no code with NoseTown and takes no short cut.
 */
final class PlainTown {
    record Sort(int strength, int week0, int week1, int hour0, int hour1, int liking, boolean herb) {}

    record Plant(int sort, int cell, int garden, int how) {}

    record Mask(int masking, int masked, int part) {}

    record Nosed(int gate, int hour, int sort, int much) {}

    record Case(int number, int wind, Plant more) {}

    private static final class Fault extends Exception {
        private static final long serialVersionUID = 1L;
        final int code;
        final int place;

        Fault(int code, int place) {
            this.code = code;
            this.place = place;
        }
    }

    private static final class Told {
        int w = 6;
        int h = 6;
        int gardens;
        int fade = 5;
        int gain = 2;
        int against = 2;
        int cold;
        int[] weights = {1, 1, 1, 1, 1};
        List<Sort> sorts = new ArrayList<>();
        List<Plant> plants = new ArrayList<>();
        List<Integer> gates = new ArrayList<>();
        List<Mask> masks = new ArrayList<>();
    }

    private Told t = new Told();
    private String tape = "";
    private int faultPlace = -1;
    private List<Integer> row = new ArrayList<>();
    private int begin = 12;
    private int week;
    private List<Nosed> nosed = new ArrayList<>();
    private int[] status = new int[3];
    private Object[] image;

    // ---- the text

    private String text;
    private Matcher tokens;
    private String token;
    private int place;

    private void go() {
        if (tokens.find()) {
            token = tokens.group(1);
            place = tokens.start(1);
        } else {
            token = "";
            place = text.length();
        }
    }

    private int number(int least, int most) throws Fault {
        if (!token.matches("[0-9]+")) {
            throw new Fault(1, place);
        }
        if (token.length() > 4 || Integer.parseInt(token) < least || Integer.parseInt(token) > most) {
            throw new Fault(2, place);
        }
        return Integer.parseInt(token);
    }

    private int nextNumber(int least, int most) throws Fault {
        go();
        return number(least, most);
    }

    private int nextKnown(int count) throws Fault {
        int value = nextNumber(0, 9999);
        if (value >= count) {
            throw new Fault(3, place);
        }
        return value;
    }

    private void want(String sign) throws Fault {
        if (!token.equals(sign)) {
            throw new Fault(1, place);
        }
    }

    private static void limit(boolean full, int place) throws Fault {
        if (full) {
            throw new Fault(2, place);
        }
    }

    private Told read(String bytes) throws Fault {
        text = bytes;
        tokens = Pattern.compile("[ \n]*([a-z]+|[0-9]+|[^ \n])", Pattern.DOTALL).matcher(text);
        Told d = new Told();
        Set<String> once = new HashSet<>();
        boolean first = true;
        for (go(); !token.isEmpty(); go()) {
            String word = token;
            if (List.of("fade", "gain", "against", "cold", "winds").contains(word) && !once.add(word)) {
                throw new Fault(4, place);
            }
            switch (word) {
                case "town" -> {
                    if (!first) {
                        throw new Fault(4, place);
                    }
                    d.w = nextNumber(2, 8);
                    d.h = nextNumber(2, 8);
                    go();
                }
                case "sort", "herb" -> {
                    limit(d.sorts.size() == 6, place);
                    int s = nextNumber(1, 99);
                    int w0 = nextNumber(0, 51);
                    int w1 = nextNumber(w0, 51);
                    int h0 = nextNumber(0, 23);
                    int h1 = nextNumber(h0, 23);
                    go();
                    int sign = 1;
                    if (token.equals("-")) {
                        sign = -1;
                        go();
                    }
                    d.sorts.add(new Sort(s, w0, w1, h0, h1, sign * number(0, 9), word.equals("herb")));
                    go();
                }
                case "garden" -> {
                    limit(d.gardens == 5, place);
                    d.gardens++;
                    go();
                }
                case "plant" -> {
                    limit(d.plants.size() == 12, place);
                    int sort = nextKnown(d.sorts.size());
                    int x = nextNumber(0, d.w - 1);
                    int y = nextNumber(0, d.h - 1);
                    int cell = x + y * d.w;
                    for (Plant p : d.plants) {
                        if (p.cell == cell) {
                            throw new Fault(5, place);
                        }
                    }
                    go();
                    int garden = -1;
                    if (token.equals("of")) {
                        garden = nextKnown(d.gardens);
                        go();
                    }
                    d.plants.add(new Plant(sort, cell, garden, 0));
                }
                case "gate" -> {
                    limit(d.gates.size() == 5, place);
                    int x = nextNumber(0, d.w - 1);
                    int y = nextNumber(0, d.h - 1);
                    d.gates.add(x + y * d.w);
                    go();
                }
                case "mask" -> {
                    int a = nextKnown(d.sorts.size());
                    int b = nextKnown(d.sorts.size());
                    for (Mask m : d.masks) {
                        if (m.masking == a && m.masked == b) {
                            throw new Fault(5, place);
                        }
                    }
                    if (a == b) {
                        throw new Fault(5, place);
                    }
                    d.masks.add(new Mask(a, b, nextNumber(1, 100)));
                    go();
                }
                case "fade" -> { d.fade = nextNumber(0, 20); go(); }
                case "gain" -> { d.gain = nextNumber(0, 9); go(); }
                case "against" -> { d.against = nextNumber(0, 14); go(); }
                case "cold" -> { d.cold = nextNumber(0, 99); go(); }
                case "winds" -> {
                    for (int i = 0; i < 5; i++) {
                        d.weights[i] = nextNumber(0, 99);
                    }
                    go();
                }
                default -> throw new Fault(1, place);
            }
            want(";");
            first = false;
        }
        return d;
    }

    public int feed(int a, int b, int c, int d, int e) {
        if (tape.length() > 680) {
            return -1;
        }
        for (int n : new int[] {a, b, c, d, e}) {
            tape += "" + (char) (n >> 24 & 255) + (char) (n >> 16 & 255) + (char) (n >> 8 & 255) + (char) (n & 255);
        }
        return tape.length();
    }

    public int town(int n) {
        if (n < 0 || n > tape.length()) {
            throw new IllegalArgumentException();
        }
        String bytes = tape.substring(0, n);
        tape = "";
        faultPlace = -1;
        try {
            t = read(bytes);
        } catch (Fault f) {
            faultPlace = f.place;
            status[0]++;
            return f.code;
        }
        row = new ArrayList<>();
        for (int i = 0; i < t.gates.size(); i++) {
            row.add(i);
        }
        begin = 12;
        week = 0;
        nosed = new ArrayList<>();
        image = null;
        return 0;
    }

    public int fault() {
        return faultPlace;
    }

    // ---- small things

    private static void need(boolean there) {
        if (!there) {
            throw new NoSuchElementException();
        }
    }

    private void needGarden(int g) {
        need(g >= 0 && g < t.gardens);
    }

    private static void needWind(int w) {
        need(w >= 0 && w <= 4);
    }

    private static void needHour(int h) {
        need(h >= 0 && h <= 23);
    }

    private void needCell(int c) {
        need(c >= 0 && c < t.w * t.h);
    }

    private static void needWhat(int what, int most) {
        need(what >= 0 && what <= most);
    }

    public int count(int what) {
        Map<Integer, Integer> all = new HashMap<>();
        int[] first = {t.w, t.h, t.sorts.size(), t.gardens, t.plants.size(), t.gates.size(), t.fade, t.gain,
            t.against, t.cold, begin, week, nosed.size(), tape.length(), status[0], status[1], status[2]};
        for (int i = 0; i < first.length; i++) {
            all.put(i, first[i]);
        }
        for (int i = 0; i < 5; i++) {
            all.put(20 + i, t.weights[i]);
        }
        need(all.containsKey(what));
        return all.get(what);
    }

    public int plant(int plant, int what) {
        need(plant >= 0 && plant < t.plants.size());
        needWhat(what, 3);
        Plant p = t.plants.get(plant);
        return new int[] {p.sort, p.cell, p.garden, p.how}[what];
    }

    private static List<Plant> turned(List<Plant> plants, int plant, int to) {
        List<Plant> all = new ArrayList<>(plants);
        Plant p = all.get(plant);
        all.set(plant, new Plant(p.sort, p.cell, p.garden, to));
        return all;
    }

    public int turn(int plant, int to) {
        need(plant >= 0 && plant < t.plants.size());
        Plant p = t.plants.get(plant);
        if (to < 0 || to > 2 || to == 2 && !t.sorts.get(p.sort).herb) {
            status[1]++;
            return -1;
        }
        t.plants = turned(t.plants, plant, to);
        return p.how;
    }

    public boolean week(int w) {
        if (w < 0 || w > 51) {
            return false;
        }
        week = w;
        return true;
    }

    private static int code(List<Integer> gates) {
        int n = 0;
        for (int i = gates.size() - 1; i >= 0; i--) {
            n = n * 8 + gates.get(i);
        }
        return n;
    }

    /** All orders, the first as a row first. */
    private static List<List<Integer>> orders(int n, List<Integer> sofar) {
        List<List<Integer>> all = new ArrayList<>();
        if (sofar.size() == n) {
            all.add(sofar);
        }
        for (int g = 0; g < n; g++) {
            if (!sofar.contains(g)) {
                List<Integer> more = new ArrayList<>(sofar);
                more.add(g);
                all.addAll(orders(n, more));
            }
        }
        return all;
    }

    public boolean walk(int order, int b) {
        if (b < 0 || b > 23) {
            return false;
        }
        for (List<Integer> r : orders(t.gates.size(), List.of())) {
            if (code(r) == order) {
                row = r;
                begin = b;
                return true;
            }
        }
        return false;
    }

    public int order() {
        return code(row);
    }

    // ---- smells

    private int smellOf(Plant p, int cell, int hour, int wind) {
        Sort s = t.sorts.get(p.sort);
        if (p.how == 1 || week < s.week0 || week > s.week1 || hour < s.hour0 || hour > s.hour1) {
            return 0;
        }
        int east = cell % t.w - p.cell % t.w;
        int south = cell / t.w - p.cell / t.w;
        int[] along = {0, -south, east, south, -east};
        if (along[wind] < -t.against) {
            return 0;
        }
        int strength = p.how == 2 ? 3 * s.strength : s.strength;
        int steps = Math.abs(east) + Math.abs(south);
        return Math.max(0, strength - t.fade * steps + t.gain * along[wind]);
    }

    private int raw(List<Plant> plants, int sort, int garden, int cell, int hour, int wind) {
        int all = 0;
        for (Plant p : plants) {
            if (p.sort == sort && (garden == -1 || p.garden == garden)) {
                all += smellOf(p, cell, hour, wind);
            }
        }
        return all;
    }

    private int masked(List<Plant> plants, int sort, int cell, int hour, int wind) {
        int left = raw(plants, sort, -1, cell, hour, wind);
        for (Mask m : t.masks) {
            if (m.masked == sort) {
                left -= m.part * raw(plants, m.masking, -1, cell, hour, wind) / 100;
            }
        }
        return Math.max(0, left);
    }

    private int smeltOf(List<Plant> plants, int sort, int cell, int hour, int wind) {
        int m = masked(plants, sort, cell, hour, wind);
        return m < t.cold ? 0 : m;
    }

    private int markOf(List<Plant> plants, int garden, int cell, int hour, int wind) {
        int all = 0;
        for (int s = 0; s < t.sorts.size(); s++) {
            int r = raw(plants, s, -1, cell, hour, wind);
            if (r > 0) {
                int own = raw(plants, s, garden, cell, hour, wind);
                all += t.sorts.get(s).liking * (smeltOf(plants, s, cell, hour, wind) * own / r);
            }
        }
        return all;
    }

    public int smell(int plant, int cell, int hour, int wind) {
        need(plant >= 0 && plant < t.plants.size());
        needCell(cell);
        needHour(hour);
        needWind(wind);
        return smellOf(t.plants.get(plant), cell, hour, wind);
    }

    public int smelt(int sort, int cell, int hour, int wind, int what) {
        need(sort >= 0 && sort < t.sorts.size());
        needCell(cell);
        needHour(hour);
        needWind(wind);
        needWhat(what, 2);
        return new int[] {raw(t.plants, sort, -1, cell, hour, wind),
            masked(t.plants, sort, cell, hour, wind), smeltOf(t.plants, sort, cell, hour, wind)}[what];
    }

    public int mark(int garden, int cell, int hour, int wind) {
        needGarden(garden);
        needCell(cell);
        needHour(hour);
        needWind(wind);
        return markOf(t.plants, garden, cell, hour, wind);
    }

    // ---- the walk

    private int sumOf(List<Plant> plants, List<Integer> order, int garden, int wind) {
        int all = 0;
        for (int i = 0; i < order.size(); i++) {
            all += markOf(plants, garden, t.gates.get(order.get(i)), (begin + i) % 24, wind);
        }
        return all;
    }

    private int[] sumsOf(List<Plant> plants, List<Integer> order, int wind) {
        int[] all = new int[t.gardens];
        for (int g = 0; g < t.gardens; g++) {
            all[g] = sumOf(plants, order, g, wind);
        }
        return all;
    }

    private int winnerOf(List<Plant> plants, int wind) {
        int[] sums = sumsOf(plants, row, wind);
        int most = Arrays.stream(sums).max().getAsInt();
        for (int g = 0; g < sums.length; g++) {
            if (sums[g] == most) {
                return g;
            }
        }
        return -1;
    }

    private int weightsOf(List<Plant> plants, int garden) {
        int all = 0;
        for (int wind = 0; wind < 5; wind++) {
            if (t.weights[wind] > 0 && winnerOf(plants, wind) == garden) {
                all += t.weights[wind];
            }
        }
        return all;
    }

    private int allWeights() {
        return Arrays.stream(t.weights).sum();
    }

    public int sum(int garden, int wind) {
        needGarden(garden);
        needWind(wind);
        return sumOf(t.plants, row, garden, wind);
    }

    public int winner(int wind, int what) {
        needWind(wind);
        needWhat(what, 1);
        if (t.gardens == 0) {
            return -1;
        }
        if (what == 0) {
            return winnerOf(t.plants, wind);
        }
        int[] sums = sumsOf(t.plants, row, wind);
        Arrays.sort(sums);
        return sums.length == 1 ? 0 : sums[sums.length - 1] - sums[sums.length - 2];
    }

    public int prize(int garden, int wind, int prize) {
        needGarden(garden);
        needWind(wind);
        if (prize < 0 || prize > 9999) {
            throw new IllegalArgumentException();
        }
        int[] sums = sumsOf(t.plants, row, wind);
        long all = Arrays.stream(sums).filter(s -> s > 0).asLongStream().sum();
        long[] parts = new long[sums.length];
        for (int g = 0; g < sums.length; g++) {
            parts[g] = sums[g] > 0 ? (long) prize * sums[g] / all : 0;
        }
        parts[winnerOf(t.plants, wind)] += prize - Arrays.stream(parts).sum();
        return (int) parts[garden];
    }

    public int odds(int garden, int what) {
        needGarden(garden);
        needWhat(what, 1);
        int up = weightsOf(t.plants, garden);
        int low = allWeights();
        if (low == 0) {
            return what;
        }
        for (int d = low; d > 1; d--) {
            if (up % d == 0 && low % d == 0) {
                up /= d;
                low /= d;
            }
        }
        return what == 0 ? up : low;
    }

    // ---- best, rest, grow, fair

    private static List<Integer> plantsOf(List<Plant> plants, int garden) {
        List<Integer> all = new ArrayList<>();
        for (int p = 0; p < plants.size(); p++) {
            if (plants.get(p).garden == garden) {
                all.add(p);
            }
        }
        return all;
    }

    /** All ways of a garden's plants, the first as a row first. */
    private List<List<Plant>> ways(List<Plant> plants, List<Integer> own, int from) {
        if (from == own.size()) {
            return List.of(plants);
        }
        List<List<Plant>> all = new ArrayList<>();
        int plant = own.get(from);
        for (int to = 0; to < (t.sorts.get(plants.get(plant).sort).herb ? 3 : 2); to++) {
            all.addAll(ways(turned(plants, plant, to), own, from + 1));
        }
        return all;
    }

    private List<Plant> bestOf(List<Plant> plants, int garden) {
        List<Plant> best = null;
        int most = -1;
        for (List<Plant> way : ways(plants, plantsOf(plants, garden), 0)) {
            int weights = weightsOf(way, garden);
            if (weights > most) {
                most = weights;
                best = way;
            }
        }
        return best;
    }

    public int best(int garden, int what) {
        needGarden(garden);
        needWhat(what, 1);
        List<Integer> own = plantsOf(t.plants, garden);
        if (own.size() > 6) {
            return -2;
        }
        List<Plant> best = bestOf(t.plants, garden);
        if (what == 0) {
            return weightsOf(best, garden);
        }
        int figures = 0;
        for (int p : own) {
            figures = figures * 3 + best.get(p).how;
        }
        return figures;
    }

    public int rest() {
        for (int g = 0; g < t.gardens; g++) {
            if (plantsOf(t.plants, g).size() > 6) {
                return -2;
            }
        }
        List<Plant> plants = t.plants;
        int turnedSomething = 0;
        while (turnedSomething < 21) {
            boolean turned = false;
            for (int g = 0; g < t.gardens; g++) {
                List<Plant> best = bestOf(plants, g);
                if (weightsOf(best, g) > weightsOf(plants, g)) {
                    plants = best;
                    turned = true;
                }
            }
            if (!turned) {
                return turnedSomething;
            }
            turnedSomething++;
        }
        return -1;
    }

    private List<Integer> freeCells() {
        List<Integer> all = new ArrayList<>();
        for (int c = 0; c < t.w * t.h; c++) {
            all.add(c);
        }
        for (Plant p : t.plants) {
            all.remove((Integer) p.cell);
        }
        return all;
    }

    private static List<Plant> with(List<Plant> plants, Plant more) {
        List<Plant> all = new ArrayList<>(plants);
        if (more != null) {
            all.add(more);
        }
        return all;
    }

    public int grow(int garden, int what) {
        needGarden(garden);
        needWhat(what, 1);
        int most = -1;
        int number = -1;
        for (int s = 0; s < t.sorts.size() && t.plants.size() < 12; s++) {
            for (int c : freeCells()) {
                int weights = weightsOf(with(t.plants, new Plant(s, c, garden, 0)), garden);
                if (weights > most) {
                    most = weights;
                    number = s * 64 + c;
                }
            }
        }
        return what == 0 ? number : Math.max(0, most);
    }

    public int fair(int what) {
        needWhat(what, 1);
        if (t.gates.isEmpty() || t.gardens == 0 || allWeights() == 0) {
            return -1;
        }
        int least = Integer.MAX_VALUE;
        List<Integer> fairest = null;
        for (List<Integer> r : orders(t.gates.size(), List.of())) {
            int greatest = 0;
            for (int wind = 0; wind < 5; wind++) {
                if (t.weights[wind] > 0) {
                    int[] sums = sumsOf(t.plants, r, wind);
                    Arrays.sort(sums);
                    greatest = Math.max(greatest, sums[sums.length - 1] - sums[0]);
                }
            }
            if (greatest < least) {
                least = greatest;
                fairest = r;
            }
        }
        return what == 0 ? code(fairest) : least;
    }

    // ---- the nose

    public int nose(int gate, int hour, int sort, int much) {
        need(gate >= 0 && gate < t.gates.size());
        needHour(hour);
        need(sort >= 0 && sort < t.sorts.size());
        if (nosed.size() == 12 || much < 0 || much > 9999) {
            status[2]++;
            return -1;
        }
        nosed.add(new Nosed(gate, hour, sort, much));
        return nosed.size();
    }

    public int forget() {
        if (nosed.isEmpty()) {
            return -1;
        }
        nosed.remove(nosed.size() - 1);
        return nosed.size();
    }

    private boolean fits(Case c) {
        List<Plant> plants = with(t.plants, c.more);
        for (Nosed n : nosed) {
            if (smeltOf(plants, n.sort, t.gates.get(n.gate), n.hour, c.wind) != n.much) {
                return false;
            }
        }
        return true;
    }

    private List<Case> fitting() {
        List<Case> all = new ArrayList<>();
        for (int wind = 0; wind < 5; wind++) {
            if (t.weights[wind] > 0) {
                all.add(new Case(1000 * wind, wind, null));
                for (int s = 0; s < t.sorts.size(); s++) {
                    for (int c : freeCells()) {
                        int number = 1000 * wind + 1 + t.w * t.h * s + c;
                        all.add(new Case(number, wind, new Plant(s, c, -1, 0)));
                    }
                }
            }
        }
        all.removeIf(c -> !fits(c));
        return all;
    }

    public int cases(int i) {
        List<Case> all = fitting();
        if (i == -1) {
            return all.size();
        }
        need(i >= 0 && i < all.size());
        return all.get(i).number;
    }

    public int next(int hour, int what) {
        needHour(hour);
        needWhat(what, 1);
        List<Case> all = fitting();
        if (all.isEmpty()) {
            return -1;
        }
        int least = Integer.MAX_VALUE;
        int chosen = -1;
        for (int gate = 0; gate < t.gates.size(); gate++) {
            Map<List<Integer>, Integer> groups = new HashMap<>();
            for (Case c : all) {
                List<Integer> alike = new ArrayList<>();
                for (int s = 0; s < t.sorts.size(); s++) {
                    alike.add(smeltOf(with(t.plants, c.more), s, t.gates.get(gate), hour, c.wind));
                }
                groups.merge(alike, 1, Integer::sum);
            }
            int greatest = groups.values().stream().mapToInt(n -> n).max().getAsInt();
            if (greatest < least) {
                least = greatest;
                chosen = gate;
            }
        }
        return chosen == -1 || what == 0 ? chosen : least;
    }

    public int days(int garden, int seed, int days) {
        needGarden(garden);
        if (days < 0 || days > 100) {
            throw new IllegalArgumentException();
        }
        List<Integer> urn = new ArrayList<>();
        for (int wind = 0; wind < 5; wind++) {
            for (int i = 0; i < t.weights[wind]; i++) {
                urn.add(wind);
            }
        }
        int won = 0;
        for (int day = 0; day < days; day++) {
            int wind = 0;
            if (!urn.isEmpty()) {
                seed = (int) (seed * 1103515245L + 12345L);
                wind = urn.get((int) ((seed & 0x7fff0000L) >> 16) % urn.size());
            }
            if (winnerOf(t.plants, wind) == garden) {
                won++;
            }
        }
        return won;
    }

    public void image() {
        image = new Object[] {t.plants, row, begin, week, new ArrayList<>(nosed), status.clone()};
    }

    @SuppressWarnings("unchecked")
    public boolean restore() {
        if (image == null) {
            return false;
        }
        t.plants = (List<Plant>) image[0];
        row = (List<Integer>) image[1];
        begin = (Integer) image[2];
        week = (Integer) image[3];
        nosed = new ArrayList<>((List<Nosed>) image[4]);
        status = ((int[]) image[5]).clone();
        return true;
    }
}
