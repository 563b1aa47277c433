import java.lang.reflect.InvocationTargetException;
import java.lang.reflect.Method;
import java.util.ArrayList;
import java.util.Arrays;
import java.util.HashMap;
import java.util.List;
import java.util.Map;
import java.util.Random;

/** Drawn towns and calls (the same ones each time): NoseTown must answer as PlainTown does. */
public final class RandomTest {
    private static final Map<String, Method> REAL = methods(NoseTown.class);
    private static final Map<String, Method> PLAIN = methods(PlainTown.class);
    private static final String[] CHEAP = {"count", "plant", "turn", "week", "walk", "order", "smell", "smelt",
        "mark", "sum", "winner", "prize", "odds", "nose", "forget", "image", "restore", "fault"};
    private static final String[] DEAR = {"best", "rest", "grow", "fair", "cases", "next", "days"};

    private final Random random;
    private final NoseTown real = new NoseTown();
    private final PlainTown plain = new PlainTown();
    private final List<String> log = new ArrayList<>();
    private int sorts;
    private int gardens;
    private int plants;
    private int gates;
    private int cells = 36;

    private RandomTest(long seed) {
        random = new Random(seed);
    }

    private static Map<String, Method> methods(Class<?> from) {
        Map<String, Method> all = new HashMap<>();
        for (Method m : from.getDeclaredMethods()) {
            if (java.lang.reflect.Modifier.isPublic(m.getModifiers())) {
                m.setAccessible(true);
                all.put(m.getName(), m);
            }
        }
        return all;
    }

    private static String answer(Object on, Method method, Object[] args) {
        try {
            return String.valueOf(method.invoke(on, args));
        } catch (InvocationTargetException e) {
            return e.getCause().getClass().getName();
        } catch (IllegalAccessException e) {
            throw new IllegalStateException(e);
        }
    }

    private String ask(String name, int... numbers) {
        Object[] args = Arrays.stream(numbers).boxed().toArray();
        String got = answer(real, REAL.get(name), args);
        String due = answer(plain, PLAIN.get(name), args);
        log.add(name + Arrays.toString(numbers) + " " + got);
        if (!got.equals(due)) {
            log.forEach(System.out::println);
            System.out.println("the last one: due is " + due);
            System.exit(1);
        }
        return got;
    }

    private int draw(int least, int most) {
        return least + random.nextInt(most - least + 1);
    }

    private boolean oneIn(int n) {
        return random.nextInt(n) == 0;
    }

    // ---- texts

    private String drawText() {
        StringBuilder text = new StringBuilder();
        int w = 6;
        int h = 6;
        if (!oneIn(4)) {
            w = draw(2, oneIn(3) ? 8 : 4);
            h = draw(2, oneIn(3) ? 8 : 4);
            text.append("town ").append(w).append(' ').append(h).append(';');
        }
        int manySorts = oneIn(30) ? 0 : draw(1, oneIn(4) ? 6 : 3);
        for (int i = 0; i < manySorts; i++) {
            int w0 = oneIn(3) ? draw(0, 51) : 0;
            int h0 = oneIn(2) ? draw(0, 13) : 0;
            text.append(oneIn(2) ? "herb " : "sort ").append(draw(1, oneIn(3) ? 99 : 40)).append(' ')
                .append(w0).append(' ').append(draw(w0, 51)).append(' ').append(h0).append(' ')
                .append(oneIn(2) ? 23 : draw(h0, 23)).append(' ')
                .append(oneIn(4) ? "-" : "").append(draw(0, 9)).append(';');
        }
        int manyGardens = oneIn(20) ? 0 : draw(1, oneIn(4) ? 5 : 3);
        text.append("garden;".repeat(manyGardens));
        List<Integer> free = new ArrayList<>();
        for (int c = 0; c < w * h; c++) {
            free.add(c);
        }
        int manyPlants = manySorts == 0 ? 0 : Math.min(draw(0, oneIn(4) ? 12 : 7), w * h);
        for (int i = 0; i < manyPlants; i++) {
            int cell = free.remove(draw(0, free.size() - 1));
            text.append("plant ").append(draw(0, manySorts - 1)).append(' ').append(cell % w).append(' ')
                .append(cell / w);
            if (manyGardens > 0 && !oneIn(6)) {
                text.append(" of ").append(oneIn(6) ? 0 : draw(0, manyGardens - 1));
            }
            text.append(';');
        }
        int manyGates = oneIn(15) ? 0 : draw(1, oneIn(4) ? 5 : 3);
        for (int i = 0; i < manyGates; i++) {
            text.append("gate ").append(draw(0, w - 1)).append(' ').append(draw(0, h - 1)).append(';');
        }
        List<String> masks = new ArrayList<>();
        for (int i = draw(0, 4); i > 0 && manySorts > 1; i--) {
            int a = draw(0, manySorts - 1);
            int b = draw(0, manySorts - 1);
            String mask = "mask " + a + " " + b + " ";
            if (a != b && !masks.contains(mask)) {
                masks.add(mask);
                text.append(mask).append(draw(1, 100)).append(';');
            }
        }
        drawSettings(text);
        return text.toString();
    }

    /** All at most: six sorts, five gardens, twelve plants or eleven, five gates, 8 by 8 cells. */
    private String drawLargest() {
        StringBuilder text = new StringBuilder("town 8 8;" + "garden;".repeat(5));
        for (int i = 0; i < 6; i++) {
            text.append(oneIn(3) ? "herb " : "sort ").append(draw(1, 99)).append(" 0 ").append(oneIn(9) ? 0 : 51).append(" 0 ")
                .append(draw(11, 23)).append(' ').append(oneIn(4) ? "-" : "").append(draw(0, 9)).append(';');
        }
        int first = draw(0, 63);
        for (int i = draw(11, 12); i > 0; i--) {
            first = (first + 5) % 64;
            text.append("plant ").append(draw(0, 5)).append(' ').append(first % 8).append(' ').append(first / 8);
            text.append(oneIn(6) ? "" : " of " + i % 5).append(';');
        }
        for (int i = 0; i < 5; i++) {
            text.append("gate ").append(draw(0, 7)).append(' ').append(draw(0, 7)).append(';');
        }
        for (int i = 0; i < draw(0, 6); i++) {
            text.append("mask ").append(i).append(' ').append((i + draw(1, 5)) % 6).append(' ').append(draw(1, 100)).append(';');
        }
        drawSettings(text);
        return text.toString();
    }

    /** Small gardens of herbs side by side: some answer one another for ever. */
    private String drawDuel() {
        StringBuilder text = new StringBuilder("town 4 4;");
        int manySorts = draw(1, 2);
        for (int i = 0; i < manySorts; i++) {
            text.append(oneIn(5) ? "sort " : "herb ").append(draw(5, 50)).append(" 0 51 0 23 ").append(draw(1, 9))
                .append(';');
        }
        int manyGardens = draw(2, 3);
        text.append("garden;".repeat(manyGardens));
        for (int i = 0; i < draw(2, 3) * manyGardens; i++) {
            text.append("plant ").append(draw(0, manySorts - 1)).append(' ').append(i % 4).append(' ')
                .append(i / 4 + draw(0, 1) * 2).append(" of ").append(i % manyGardens).append(';');
        }
        for (int i = draw(1, 2); i > 0; i--) {
            text.append("gate ").append(draw(0, 3)).append(' ').append(draw(0, 3)).append(';');
        }
        if (manySorts == 2) {
            text.append(oneIn(2) ? "mask 1 0 " : "mask 0 1 ").append(draw(20, 100)).append(';');
        }
        text.append("fade ").append(draw(0, 7)).append(";gain ").append(draw(0, 9)).append(';');
        return oneIn(3) ? text.append("cold ").append(draw(0, 30)).append(';').toString() : text.toString();
    }

    private void drawSettings(StringBuilder text) {
        if (oneIn(2)) {
            text.append("fade ").append(draw(0, oneIn(3) ? 20 : 6)).append(';');
        }
        if (oneIn(2)) {
            text.append("gain ").append(draw(0, 9)).append(';');
        }
        if (oneIn(2)) {
            text.append("against ").append(draw(0, oneIn(3) ? 14 : 3)).append(';');
        }
        if (oneIn(3)) {
            text.append("cold ").append(draw(0, oneIn(3) ? 99 : 15)).append(';');
        }
        if (oneIn(3)) {
            text.append("winds");
            for (int i = 0; i < 5; i++) {
                text.append(' ').append(oneIn(3) ? 0 : draw(0, oneIn(2) ? 99 : 3));
            }
            text.append(';');
        }
    }

    /** Another number somewhere: its line still reads like one. */
    private String misnumber(String text) {
        String[] tokens = text.split("(?<=[ ;])|(?=[ ;])");
        int at = draw(0, tokens.length - 1);
        for (int i = 0; i < tokens.length && !tokens[at].matches("[0-9]+"); i++) {
            at = (at + 1) % tokens.length;
        }
        tokens[at] = String.valueOf(draw(0, oneIn(3) ? 110 : 9));
        return String.join("", tokens);
    }

    /** Breaks a text somewhere: most such texts have a fault. */
    private String spoil(String text) {
        String[] bits = {"town", "sort", "herb", "garden", "plant", "gate", "mask", "of", "fade", "gain", "against",
            "cold", "winds", ";", "-", "0", "1", "5", "7", "10", "99", "100", "9999", "12345", "00003", "x", "X",
            "\u0000", "\u00ff", " ", "\n", "\t", "town 3 3;", "fade 5;", "cold 1;", "winds 1 1 1 1 1;", "garden;",
            "sort 5 0 51 0 23 -3;", "plant 0 0 0;", "plant 0 1 1 of 0;", "gate 0 0;", "mask 0 1 5;", "sort 9 7 3 0 1 1;"};
        StringBuilder spoilt = new StringBuilder(text);
        for (int i = draw(1, oneIn(3) ? 3 : 1); i > 0; i--) {
            int at = draw(0, spoilt.length());
            int end = Math.min(spoilt.length(), at + draw(0, oneIn(2) ? 0 : 4));
            if (oneIn(3)) {
                spoilt.setLength(at);
            } else {
                // at a line's or token's edge more often than amid one
                while (at > 0 && oneIn(3) && " ;".indexOf(spoilt.charAt(at - 1)) < 0) {
                    at--;
                }
                spoilt.replace(at, Math.max(at, end), bits[draw(0, bits.length - 1)]);
            }
        }
        return spoilt.toString();
    }

    private void tellTown() {
        boolean isDuel = oneIn(8);
        boolean isLargest = !isDuel && oneIn(8);
        String text = isDuel ? drawDuel() : isLargest ? drawLargest() : drawText();
        if (!isLargest && oneIn(3)) {
            text = oneIn(2) ? misnumber(text) : spoil(text);
        }
        if (oneIn(5)) {
            text = text.replace(" ", oneIn(2) ? "\n" : "  ").replace(";", " ; ");
        }
        int length = Math.min(text.length(), 700);
        feedText(text.substring(0, length));
        if (oneIn(20)) {
            ask("town", oneIn(2) ? -draw(1, 5) : 701);
        }
        String answer = ask("town", oneIn(20) ? draw(0, length) : length);
        ask("fault");
        if (answer.equals("0")) {
            cells = real.count(0) * real.count(1);
            sorts = real.count(2);
            gardens = real.count(3);
            plants = real.count(4);
            gates = real.count(5);
        }
        for (int what = 0; what <= 24; what++) {
            ask("count", what);
        }
        if (isDuel) {
            ask("rest");
        }
    }

    private void feedText(String text) {
        StringBuilder padded = new StringBuilder(text);
        while (padded.length() % 20 != 0) {
            padded.append(oneIn(2) ? ' ' : ';');
        }
        for (int i = 0; i < padded.length(); i += 20) {
            int[] numbers = new int[5];
            for (int j = 0; j < 20; j++) {
                numbers[j / 4] = numbers[j / 4] << 8 | padded.charAt(i + j) & 255;
            }
            ask("feed", numbers);
        }
    }

    // ---- calls

    /** A number below a count, now and then just beside it, rarely anything. */
    private int below(int count) {
        if (oneIn(40)) {
            int[] odd = {-1, count, count + 1, -2, Integer.MIN_VALUE, Integer.MAX_VALUE, 1 << 20};
            return odd[draw(0, odd.length - 1)];
        }
        return count == 0 ? 0 : draw(0, count - 1);
    }

    private int drawOrder() {
        List<Integer> left = new ArrayList<>();
        for (int i = 0; i < gates; i++) {
            left.add(i);
        }
        int order = 0;
        for (int i = 0; i < gates; i++) {
            order = order * 8 + left.remove(draw(0, left.size() - 1));
        }
        return oneIn(10) ? order ^ 1 << draw(0, 31) : order;
    }

    private void noseWhatIsSmelt() {
        int gate = below(gates);
        int hour = oneIn(3) ? below(24) : 12;
        int sort = below(sorts);
        int much = oneIn(20) ? draw(-1, 10001) : draw(0, 40);
        if (gate >= 0 && gate < gates && sort >= 0 && sort < sorts && hour >= 0 && hour < 24 && !oneIn(4)) {
            int wind = draw(0, 4);
            // a gate's cell is not told by any call: any cell's smell is likely enough
            much = real.smelt(sort, draw(0, cells - 1), hour, wind, 2);
        }
        ask("nose", gate, hour, sort, much);
    }

    private void call(String name) {
        int hour = oneIn(3) ? below(24) : 12;
        switch (name) {
            case "count" -> ask(name, oneIn(5) ? below(30) : below(25));
            case "plant" -> ask(name, below(plants), below(4));
            case "turn" -> ask(name, below(plants), below(3));
            case "week" -> ask(name, oneIn(2) ? 0 : below(52));
            case "walk" -> ask(name, drawOrder(), below(24));
            case "smell" -> ask(name, below(plants), below(cells), hour, below(5));
            case "smelt" -> ask(name, below(sorts), below(cells), hour, below(5), below(3));
            case "mark" -> ask(name, below(gardens), below(cells), hour, below(5));
            case "sum" -> ask(name, below(gardens), below(5));
            case "winner" -> ask(name, below(5), below(2));
            case "prize" -> ask(name, below(gardens), below(5), oneIn(2) ? below(10000) : below(100));
            case "odds", "best", "grow" -> ask(name, below(gardens), below(2));
            case "fair" -> ask(name, below(2));
            case "nose" -> noseWhatIsSmelt();
            case "cases" -> ask(name, oneIn(2) ? -1 : below(oneIn(2) ? 10 : 400));
            case "next" -> ask(name, hour, below(2));
            case "days" -> ask(name, below(gardens), random.nextInt(), below(101));
            default -> ask(name);
        }
    }

    private void run() {
        for (int town = draw(1, 3); town > 0; town--) {
            if (!oneIn(10)) {
                tellTown();
            }
            for (int i = 0; i < 60; i++) {
                call(CHEAP[draw(0, CHEAP.length - 1)]);
                if (oneIn(8)) {
                    call(DEAR[draw(0, DEAR.length - 1)]);
                }
            }
        }
    }

    public static void main(String[] args) {
        int runs = args.length > 0 ? Integer.parseInt(args[0]) : 400;
        int from = args.length > 1 ? Integer.parseInt(args[1]) : 0;
        for (int seed = from; seed < from + runs; seed++) {
            new RandomTest(seed).run();
        }
        System.out.println(runs + " drawn runs answered alike");
    }
}
