import java.util.function.Supplier;

/** Every call that is refused, by each of its numbers alone: how it is told, and that nothing else changes by it. */
public final class RefusedTest extends TownChecks {
    private static final int MIN = Integer.MIN_VALUE;
    private static final int MAX = Integer.MAX_VALUE;
    private static final int WINDS = 5;
    private static final int HOURS = 24;
    private static final int CELLS = 6;
    private static final int SORTS = 2;
    private static final int GARDENS = 2;
    private static final int PLANTS = 3;
    private static final int GATES = 4;

    private interface ByNumbers {
        long of(NoseTown x, int[] numbers);
    }

    private static NoseTown busyTown() {
        return busyTown(new NoseTown());
    }

    private static NoseTown busyTown(NoseTown x) {
        tell(x, "town 3 2;herb 20 0 51 0 23 3;sort 10 0 51 0 23 -1;garden;garden;plant 0 0 0 of 0;"
            + "plant 1 2 0 of 1;plant 0 1 1;gate 2 0;gate 0 1;gate 1 1;gate 0 0;mask 1 0 50;cold 2;fade 9;");
        x.walk(00123, 7);
        x.week(3);
        x.turn(0, 2);
        x.turn(1, 2);
        x.nose(0, 1, 1, x.smelt(1, 2, 1, 0, 2));
        x.nose(0, 1, 1, -1);
        x.image();
        x.turn(2, 1);
        x.turn(1, 4);
        x.week(4);
        x.nose(1, 2, 0, x.smelt(0, 3, 2, 0, 2));
        x.nose(1, 2, 0, 10000);
        feedText(x, "garden;");
        return x;
    }

    private static NoseTown emptyTown() {
        return new NoseTown();
    }

    /** Each number counts from 0 up to below its bound: the last one of each is there, those beside it are not. */
    private static void noSuch(String name, int[] bounds, ByNumbers call) {
        for (int place = 0; place < bounds.length; place++) {
            int[] last = new int[bounds.length];
            last[place] = bounds[place] - 1;
            due(name + " with the last one there", 0, () -> call.of(busyTown(), last) == NO_SUCH ? 1 : 0);
            for (int number : beyond(bounds[place])) {
                int[] numbers = new int[bounds.length];
                numbers[place] = number;
                changesNothing(name + " with " + number + " at " + place, RefusedTest::busyTown, NO_SUCH,
                    x -> call.of(x, numbers));
            }
        }
        int[] all = new int[bounds.length];
        java.util.Arrays.fill(all, -1);
        changesNothing(name + " with nothing there", RefusedTest::emptyTown, NO_SUCH, x -> call.of(x, all));
    }

    private static void count() {
        sentence("5", "NoSuchElementException: another what.");
        for (int what : new int[] {MIN, -2, -1, 17, 18, 19, 25, 26, 1 << 16, MAX}) {
            changesNothing("count(" + what + ")", RefusedTest::busyTown, NO_SUCH, x -> x.count(what));
            changesNothing("count(" + what + ")", RefusedTest::emptyTown, NO_SUCH, x -> x.count(what));
        }
        for (int what : new int[] {0, 16, 20, 24}) {
            due("count(" + what + ")", 0, () -> new NoseTown().count(what) < 0 ? 1 : 0);
        }
    }

    private static void plants() {
        sentence("6", "NoSuchElementException: no such PLANT (as everywhere), what.");
        noSuch("plant", new int[] {PLANTS, 4}, (x, n) -> x.plant(n[0], n[1]));
        sentence("7", "no such PLANT (as everywhere)");
        for (int to : new int[] {0, 1, 2, 3, -1}) {
            for (int plant : beyond(PLANTS)) {
                changesNothing("turn(" + plant + ", " + to + ")", RefusedTest::busyTown, NO_SUCH, x -> x.turn(plant, to));
            }
            changesNothing("turn(0, " + to + ")", RefusedTest::emptyTown, NO_SUCH, x -> x.turn(0, to));
        }
    }

    private static void smells() {
        sentence("11", "NoSuchElementException: also no such CELL, HOUR, WIND (as everywhere).");
        noSuch("smell", new int[] {PLANTS, CELLS, HOURS, WINDS}, (x, n) -> x.smell(n[0], n[1], n[2], n[3]));
        sentence("12", "NoSuchElementException: also no such sort (as everywhere), another what.");
        noSuch("smelt", new int[] {SORTS, CELLS, HOURS, WINDS, 3}, (x, n) -> x.smelt(n[0], n[1], n[2], n[3], n[4]));
        sentence("13", "NoSuchElementException: also no such garden (as everywhere).");
        noSuch("mark", new int[] {GARDENS, CELLS, HOURS, WINDS}, (x, n) -> x.mark(n[0], n[1], n[2], n[3]));
    }

    private static void contests() {
        sentence("14", "SUM of a GARDEN.");
        noSuch("sum", new int[] {GARDENS, WINDS}, (x, n) -> x.sum(n[0], n[1]));
        sentence("15", "NoSuchElementException: also another what.");
        noSuch("winner", new int[] {WINDS, 2}, (x, n) -> x.winner(n[0], n[1]));
        sentence("17", "NoSuchElementException: also another what.");
        noSuch("odds", new int[] {GARDENS, 2}, (x, n) -> x.odds(n[0], n[1]));
        sentence("18", "NoSuchElementException: also another what.");
        noSuch("best", new int[] {GARDENS, 2}, (x, n) -> x.best(n[0], n[1]));
        sentence("20", "NoSuchElementException: also another what.");
        noSuch("grow", new int[] {GARDENS, 2}, (x, n) -> x.grow(n[0], n[1]));
        sentence("21", "NoSuchElementException: another what.");
        noSuch("fair", new int[] {2}, (x, n) -> x.fair(n[0]));
        sentence("25", "NoSuchElementException: also no such HOUR, another what.");
        noSuch("next", new int[] {HOURS, 2}, (x, n) -> x.next(n[0], n[1]));
    }

    private static void prizes() {
        sentence("16", "What a GARDEN has of a PRIZE.");
        noSuch("prize", new int[] {GARDENS, WINDS}, (x, n) -> x.prize(n[0], n[1], 9999));
        noSuch("prize", new int[] {GARDENS, WINDS}, (x, n) -> x.prize(n[0], n[1], 0));
        sentence("16", "IllegalArgumentException (behind NoSuchElementException): the PRIZE.");
        for (int prize : new int[] {MIN, -1, 10000, MAX}) {
            changesNothing("prize " + prize, RefusedTest::busyTown, ILLEGAL, x -> x.prize(0, 0, prize));
            changesNothing("prize " + prize, RefusedTest::busyTown, ILLEGAL, x -> x.prize(1, 4, prize));
            for (int garden : beyond(GARDENS)) {
                changesNothing("no garden ahead of " + prize, RefusedTest::busyTown, NO_SUCH,
                    x -> x.prize(garden, 0, prize));
            }
            for (int wind : beyond(WINDS)) {
                changesNothing("no wind ahead of " + prize, RefusedTest::busyTown, NO_SUCH, x -> x.prize(0, wind, prize));
            }
            changesNothing("no gardens", RefusedTest::emptyTown, NO_SUCH, x -> x.prize(0, 0, prize));
        }
    }

    private static void days() {
        sentence("26", "no such GARDEN (as everywhere)");
        noSuch("days", new int[] {GARDENS}, (x, n) -> x.days(n[0], 1, 100));
        noSuch("days", new int[] {GARDENS}, (x, n) -> x.days(n[0], 1, 0));
        sentence("26", "IllegalArgumentException (behind NoSuchElementException): how many.");
        for (int many : new int[] {MIN, -1, 101, MAX}) {
            changesNothing("days " + many, RefusedTest::busyTown, ILLEGAL, x -> x.days(1, 1, many));
            for (int garden : beyond(GARDENS)) {
                changesNothing("no garden ahead of " + many, RefusedTest::busyTown, NO_SUCH,
                    x -> x.days(garden, 1, many));
            }
            changesNothing("no gardens", RefusedTest::emptyTown, NO_SUCH, x -> x.days(0, 1, many));
        }
    }

    private static void turns() {
        sentence("7", "NONE (STATUS 1): another number, it is no HERB.");
        for (int to : new int[] {MIN, -1, 3, 4, MAX}) {
            refusedTurn(0, to);
            refusedTurn(1, to);
        }
        refusedTurn(1, 2);
        NoseTown x = busyTown();
        due("once more", x.count(15) + 2, () -> {
            x.turn(1, 2);
            x.turn(1, 2);
            return x.count(15);
        });
    }

    private static void refusedTurn(int plant, int to) {
        String what = "turn(" + plant + ", " + to + ")";
        changesNothing(what, RefusedTest::busyTown, -1, x -> x.turn(plant, to), 15);
        NoseTown x = busyTown();
        int before = x.count(15);
        x.turn(plant, to);
        due(what + " is counted", before + 1, () -> x.count(15));
    }

    private static void weeks() {
        sentence("8", "False: it is not 0 to 51.");
        for (int week : new int[] {MIN, -1, 52, 53, MAX}) {
            changesNothing("week(" + week + ")", RefusedTest::busyTown, 0, x -> bit(x.week(week)));
        }
        sentence("8", "The WEEK is told: true.");
        for (int week : new int[] {0, 1, 50, 51}) {
            NoseTown x = busyTown();
            due("week(" + week + ")", 1, () -> bit(x.week(week)));
            due("week(" + week + ") told", week, () -> x.count(11));
        }
    }

    private static void walks() {
        sentence("9", "False: they are not as told.");
        for (int begin : new int[] {MIN, -1, 24, 25, MAX}) {
            changesNothing("begin " + begin, RefusedTest::busyTown, 0, x -> bit(x.walk(03210, begin)));
        }
        for (int order : new int[] {MIN, -1, 0, 0221, 0322, 03211, 03200, 03214, 07210, 013210, 043210, 0200003210,
            03210 | MIN, MAX}) {
            changesNothing("order " + order, RefusedTest::busyTown, 0, x -> bit(x.walk(order, 0)));
        }
        sentence("9", "and BEGIN (0 to 23) are told: true.");
        for (int begin : new int[] {0, 1, 22, 23}) {
            NoseTown x = busyTown();
            due("begin " + begin, 1, () -> bit(x.walk(03210, begin)));
            due("begin " + begin + " told", begin, () -> x.count(10));
            due("the order told", 03210, x::order);
        }
    }

    /** All numbers that could be orders of three gates and many beside: just six of them are. */
    private static void ordersOfThree() {
        sentence("9", "(GATES as figures of a number to the base 8, the first one lowest; each once)");
        String orders = " 136 80 129 17 66 10 ";
        for (int order = -8; order < 1024; order++) {
            int asked = order;
            NoseTown x = townOf("gate 0 0;gate 1 0;gate 2 0;");
            boolean is = orders.contains(" " + order + " ");
            due("order " + order, bit(is), () -> bit(x.walk(asked, 3)));
            sentence("10", "The ORDER as told.");
            due("the order behind " + order, is ? order : 0210, x::order);
            due("begin behind " + order, is ? 3 : 12, () -> x.count(10));
        }
    }

    private static void ordersOfFewAndMany() {
        sentence("9", "each once");
        for (int order = -2; order < 70; order++) {
            int asked = order;
            due("no gates, order " + order, bit(order == 0), () -> bit(new NoseTown().walk(asked, 0)));
            due("one gate, order " + order, bit(order == 0), () -> bit(townOf("gate 1 1;").walk(asked, 0)));
            due("two gates, order " + order, bit(order == 1 || order == 8),
                () -> bit(townOf("gate 1 1;gate 1 1;").walk(asked, 0)));
        }
        String five = "gate 0 0;".repeat(5);
        for (int order : new int[] {043210, 001234, 010432, 043201, 034012}) {
            NoseTown x = townOf(five);
            due("five gates, order " + order, 1, () -> bit(x.walk(order, 23)));
            due("five gates, told " + order, order, x::order);
        }
        for (int order : new int[] {053210, 033210, 0143210, 0643210, 043210 | 1 << 30, 043210 | MIN, 03210, 04320}) {
            NoseTown x = townOf(five);
            due("five gates, no order " + order, 0, () -> bit(x.walk(order, 23)));
            due("five gates, as before " + order, 043210, x::order);
        }
    }

    private static void noses() {
        sentence("22", "NONE (STATUS 2): there are 12, it is not 0 to 9999.");
        for (int much : new int[] {MIN, -1, 10000, MAX}) {
            changesNothing("nosed " + much, RefusedTest::busyTown, -1, x -> x.nose(0, 0, 0, much), 16);
            due("nosed " + much + " is counted", busyTown().count(16) + 1, () -> {
                NoseTown x = busyTown();
                x.nose(0, 0, 0, much);
                return x.count(16);
            });
        }
        for (int much : new int[] {0, 9999}) {
            due("nosed " + much, 3, () -> busyTown().nose(3, 23, 1, much));
            changesNothing("nosed a 13th " + much, RefusedTest::nosedTown, -1, x -> x.nose(3, 23, 1, much), 16);
        }
        NoseTown full = nosedTown();
        int before = full.count(16);
        full.nose(0, 0, 0, 5);
        full.nose(0, 0, 0, -5);
        due("both are counted", before + 2, () -> full.count(16));
        sentence("22", "NoSuchElementException (ahead): no such GATE, HOUR, SORT.");
        noSuch("nose", new int[] {GATES, HOURS, SORTS}, (x, n) -> x.nose(n[0], n[1], n[2], 0));
        noSuch("nose too much", new int[] {GATES, HOURS, SORTS}, (x, n) -> x.nose(n[0], n[1], n[2], 10000));
        changesNothing("no gate of 12 nosed", RefusedTest::nosedTown, NO_SUCH, x -> x.nose(GATES, 0, 0, 0));
        changesNothing("no hour of 12 nosed", RefusedTest::nosedTown, NO_SUCH, x -> x.nose(0, HOURS, 0, -1));
        changesNothing("no sort of 12 nosed", RefusedTest::nosedTown, NO_SUCH, x -> x.nose(0, 0, SORTS, 0));
    }

    private static NoseTown nosedTown() {
        NoseTown x = busyTown();
        for (int many = 3; many <= 12; many++) {
            int want = many;
            due("nosed", want, () -> x.nose(want % GATES, want, 0, 0));
        }
        return x;
    }

    private static void nothingThere() {
        Supplier<NoseTown> bare = RefusedTest::emptyTown;
        sentence("23", "NONE: there are none.");
        changesNothing("forget()", bare, -1, NoseTown::forget);
        sentence("28", "False: there is none.");
        changesNothing("restore()", bare, 0, x -> bit(x.restore()));
        sentence("15", "NONE: there are no GARDENS.");
        changesNothing("winner", bare, -1, x -> x.winner(0, 0));
        changesNothing("by how much", bare, -1, x -> x.winner(4, 1));
        sentence("21", "NONE: no GATES, no GARDENS, or all WEIGHTS are 0.");
        changesNothing("fair", bare, -1, x -> x.fair(0));
        sentence("25", "NONE: no GATES, or none FIT.");
        changesNothing("next", bare, -1, x -> x.next(0, 0));
        sentence("19", "REST: rounds that turned something");
        changesNothing("rest", bare, 0, NoseTown::rest);
        sentence("24", "CASES that FIT: how many (i NONE)");
        changesNothing("cases", bare, 5, x -> x.cases(-1));
        sentence("2", "NONE, and none come, if it would have more than 700.");
        changesNothing("feed", RefusedTest::fullTape, -1, x -> x.feed(-1, -1, -1, -1, -1));
    }

    private static NoseTown fullTape() {
        NoseTown x = new NoseTown();
        feedText(x, " ".repeat(FULL_TAPE));
        return x;
    }

    /** Questions leave all as it is: what they try is tried aside. */
    private static void questions() {
        sentence("19", "(Behind it PLANTS are as they were.)");
        changesNothing("rest", RefusedTest::busyTown, busyTown().rest(), NoseTown::rest);
        sentence("Not promised", "Nothing is promised beyond the answers and state changes described above");
        for (int what = 0; what < 2; what++) {
            int asked = what;
            changesNothing("best", RefusedTest::busyTown, busyTown().best(1, what), x -> x.best(1, asked));
            changesNothing("grow", RefusedTest::busyTown, busyTown().grow(1, what), x -> x.grow(1, asked));
            changesNothing("fair", RefusedTest::busyTown, busyTown().fair(what), x -> x.fair(asked));
            changesNothing("next", RefusedTest::busyTown, busyTown().next(3, what), x -> x.next(3, asked));
            changesNothing("odds", RefusedTest::busyTown, busyTown().odds(1, what), x -> x.odds(1, asked));
            changesNothing("winner", RefusedTest::busyTown, busyTown().winner(1, what), x -> x.winner(1, asked));
        }
        changesNothing("cases", RefusedTest::busyTown, busyTown().cases(-1), x -> x.cases(-1));
        changesNothing("days", RefusedTest::busyTown, busyTown().days(1, 5, 9), x -> x.days(1, 5, 9));
        changesNothing("prize", RefusedTest::busyTown, busyTown().prize(1, 2, 99), x -> x.prize(1, 2, 99));
        changesNothing("sum", RefusedTest::busyTown, busyTown().sum(1, 2), x -> x.sum(1, 2));
    }

    private static final ToCall[] QUESTIONS = {
        x -> x.order(), x -> x.smell(0, 3, 5, 3), x -> x.smelt(1, 3, 5, 3, 0), x -> x.smelt(0, 3, 5, 3, 1),
        x -> x.smelt(0, 3, 5, 3, 2), x -> x.mark(0, 3, 5, 3), x -> x.mark(1, 5, 23, 4), x -> x.sum(0, 4), x -> x.sum(1, 1),
        x -> x.winner(1, 0), x -> x.winner(4, 1), x -> x.prize(0, 3, 9999), x -> x.prize(1, 0, 9999), x -> x.odds(0, 0),
        x -> x.odds(1, 1), x -> x.best(0, 0), x -> x.best(1, 1), x -> x.rest(), x -> x.grow(0, 0), x -> x.grow(1, 0),
        x -> x.grow(1, 1), x -> x.fair(0), x -> x.fair(1), x -> x.cases(-1), x -> x.cases(0), x -> x.next(2, 0),
        x -> x.next(12, 1), x -> x.days(0, 5, 100), x -> x.days(1, -5, 100)};

    /** Each question is answered alike on an object that was asked nothing, any other one, or all of another town. */
    private static void askedAhead() {
        sentence("Not promised", "the answers and state changes described above");
        for (int i = 0; i < QUESTIONS.length; i++) {
            ToCall question = QUESTIONS[i];
            long want = answerOf(() -> question.of(busyTown()));
            for (int j = 0; j < QUESTIONS.length; j++) {
                ToCall ahead = QUESTIONS[j];
                due("question " + i + " behind " + j, want, () -> {
                    NoseTown x = busyTown();
                    ahead.of(x);
                    return question.of(x);
                });
            }
            due("question " + i + " behind another town", want, () -> question.of(busyTown(askedMuch())));
            for (String text : QUIET) {
                due("question " + i + " behind another town, of " + text, answerOf(() -> question.of(townOf(text))), () -> {
                    NoseTown x = askedMuch();
                    tell(x, text);
                    return question.of(x);
                });
            }
        }
    }

    /** Few winds have a weight, few gates are walked, little grows: what a greater town left must not be told of. */
    private static final String[] QUIET = {
        "town 3 2;sort 9 0 0 0 23 1;sort 5 0 0 0 23 2;garden;garden;plant 0 0 1 of 0;gate 1 1;winds 0 0 3 0 0;",
        "town 3 2;sort 9 0 0 0 23 1;sort 5 0 0 0 23 2;garden;garden;plant 0 0 1 of 1;gate 1 1;winds 0 2 0 0 0;",
        "town 8 8;sort 9 0 0 0 23 1;sort 5 0 0 0 23 2;garden;garden;plant 0 7 7 of 1;gate 7 7;gate 6 7;winds 0 0 0 0 0;",
        "town 8 8;sort 9 0 0 0 23 -1;sort 5 0 0 0 23 2;garden;garden;plant 0 7 7 of 0;plant 1 7 6 of 1;gate 7 7;gate 6 7;fade 3;"};

    /** A town with all at most, asked all questions by it. */
    private static NoseTown askedMuch() {
        StringBuilder text = new StringBuilder("town 8 8;garden;garden;garden;garden;garden;");
        for (int sort = 0; sort < 6; sort++) {
            text.append("herb ").append(50 + sort).append(" 0 51 0 23 ").append(9 - sort).append(';');
        }
        for (int plant = 0; plant < 11; plant++) {
            text.append("plant ").append(plant < 6 ? plant % 2 : plant % 6).append(' ').append(plant % 8).append(' ')
                .append(plant / 8).append(" of ").append(plant < 6 ? plant % 2 : plant % 5).append(';');
        }
        text.append("gate 0 0;gate 7 7;gate 3 3;gate 4 1;gate 1 4;mask 5 0 9;mask 0 5 9;against 14;fade 1;");
        NoseTown x = townOf(text.toString());
        x.walk(001234, 22);
        for (int plant = 0; plant < 11; plant++) {
            x.turn(plant, plant % 3);
        }
        for (int many = 0; many < 11; many++) {
            x.nose(many % 5, 12, many % 6, x.smelt(many % 6, new int[] {0, 63, 27, 12, 33}[many % 5], 12, 4, 2));
        }
        for (ToCall question : QUESTIONS) {
            question.of(x);
        }
        return x;
    }

    private static void noCase() {
        sentence("24", "NoSuchElementException: there is none.");
        int many = busyTown().cases(-1);
        due("some of " + many, 1, () -> bit(many > 1));
        for (int i : new int[] {MIN, -3, -2, many, many + 1, MAX}) {
            changesNothing("cases(" + i + ")", RefusedTest::busyTown, NO_SUCH, x -> x.cases(i));
        }
        due("the first", 0, () -> busyTown().cases(0) < 0 ? 1 : 0);
        due("the last", 0, () -> busyTown().cases(many - 1) < 0 ? 1 : 0);
        for (int i : new int[] {-2, 5, 6}) {
            changesNothing("cases(" + i + ")", RefusedTest::emptyTown, NO_SUCH, x -> x.cases(i));
        }
    }

    public static void main(String[] args) {
        count();
        plants();
        smells();
        contests();
        prizes();
        days();
        turns();
        weeks();
        walks();
        ordersOfThree();
        ordersOfFewAndMany();
        noses();
        nothingThere();
        questions();
        askedAhead();
        noCase();
        end("what is refused changes nothing else");
    }
}
