/** Section 4 and promises 22 to 28, sentence by sentence: what is nosed, drawn and kept, at its bounds. */
public final class NoseEdgesTest extends TownChecks {
    private static final String ALL_YEAR = " 0 51 0 23 ";
    /** One more plant is smelt as 20, 15, 10 from the cells 0, 1, 2, and as 15, 10, 5 from those south of them. */
    private static final String STREET = "town 3 2;sort 20" + ALL_YEAR + "1;gate 0 0;winds 1 0 0 0 0;";
    private static final int MOST_NOSED = 12;

    private static void cases(String what, NoseTown x, int... want) {
        due(what + ", how many", want.length, () -> x.cases(-1));
        for (int i = 0; i < want.length; i++) {
            int asked = i;
            due(what + ", case " + i, want[i], () -> x.cases(asked));
        }
        due(what + ", none behind", NO_SUCH, () -> x.cases(want.length));
    }

    private static void next(String what, NoseTown x, int hour, int gate, int group) {
        due(what, gate, () -> x.next(hour, 0));
        due(what + ", the group", group, () -> x.next(hour, 1));
    }

    private static void noses() {
        sentence("22", "NOSED: how many there are. NONE (STATUS 2): there are 12, it is not 0 to 9999.");
        NoseTown x = townOf(STREET);
        for (int many = 1; many <= MOST_NOSED; many++) {
            int want = many;
            due("nosed", want, () -> x.nose(0, want, 0, want % 2 == 0 ? 0 : 9999));
            due("count", want, () -> x.count(12));
        }
        due("a 13th", -1, () -> x.nose(0, 0, 0, 0));
        due("a 14th", -1, () -> x.nose(0, 0, 0, 9999));
        due("as many as before", MOST_NOSED, () -> x.count(12));
        due("refused", 2, () -> x.count(16));
        sentence("23", "What was NOSED last is forgotten: how many are left. NONE: there are none.");
        due("forgotten", 11, x::forget);
        due("a 12th again", MOST_NOSED, () -> x.nose(0, 0, 0, 0));
        for (int left = 11; left >= 0; left--) {
            due("left", left, x::forget);
        }
        due("none left", -1, x::forget);
        due("none left again", -1, x::forget);
        due("none", 0, () -> x.count(12));
        due("not counted as refused", 2, () -> x.count(16));
        due("the first again", 1, () -> x.nose(0, 0, 0, 9999));
        due("the last one that can be", 0, x::forget);
    }

    private static void allOfTwelveFit() {
        sentence("Terms", "It FITS, if just so much would be SMELT each time.");
        for (int other = -1; other < MOST_NOSED; other++) {
            NoseTown x = townOf(STREET);
            for (int i = 0; i < MOST_NOSED; i++) {
                x.nose(0, i, 0, i == other ? 11 : 10);
            }
            if (other < 0) {
                cases("all of twelve alike", x, 3, 5);
            } else {
                cases("the one at " + other + " not", x);
                next("none fit", x, 0, -1, -1);
            }
        }
        NoseTown x = townOf(STREET);
        cases("nothing nosed", x, 0, 1, 2, 3, 4, 5, 6);
        int[][] fit = {{20, 1}, {15, 2, 4}, {10, 3, 5}, {5, 6}, {0, 0}, {9}, {11}, {19}, {21}, {1}, {9999}};
        for (int[] each : fit) {
            x.nose(0, 12, 0, each[0]);
            cases("nosed " + each[0], x, java.util.Arrays.copyOfRange(each, 1, each.length));
            x.forget();
        }
    }

    private static void coldFits() {
        sentence("Terms", "a SORT was SMELT so much");
        NoseTown ten = townOf(STREET + "cold 10;");
        ten.nose(0, 0, 0, 0);
        cases("below a cold of 10", ten, 0, 6);
        ten.forget();
        ten.nose(0, 0, 0, 10);
        cases("just a cold of 10", ten, 3, 5);
        NoseTown eleven = townOf(STREET + "cold 11;");
        eleven.nose(0, 0, 0, 0);
        cases("below a cold of 11", eleven, 0, 3, 5, 6);
        eleven.forget();
        eleven.nose(0, 0, 0, 10);
        cases("smelt with a cold of 11", eleven);
        NoseTown masked = townOf("town 2 2;sort 20" + ALL_YEAR + "1;sort 10" + ALL_YEAR + "1;plant 0 0 0;gate 0 0;mask 1 0 50;"
            + "winds 1 0 0 0 0;");
        masked.nose(0, 0, 0, 18);
        cases("masked by what grows unseen", masked, 1 + 4 + 1, 1 + 4 + 2);
        masked.nose(0, 0, 1, 5);
        cases("smelt itself, too", masked, 1 + 4 + 1, 1 + 4 + 2);
        masked.nose(0, 0, 1, 4);
        cases("not so", masked);
    }

    private static void numbers() {
        sentence("Terms", "CASES are numbered 1000 by the WIND, and 0, or 1 and W by H by the SORT and the CELL.");
        NoseTown x = townOf("town 8 8;" + ("sort 9" + ALL_YEAR + "1;").repeat(6));
        due("the most", 5 * (1 + 6 * 64), () -> x.cases(-1));
        for (int i = 0; i < 1925; i += i % 385 == 0 ? 1 : 16) {
            int asked = i;
            due("case " + i, i / 385 * 1000 + i % 385, () -> x.cases(asked));
        }
        due("the last one", 4384, () -> x.cases(1924));
        due("none behind", NO_SUCH, () -> x.cases(1925));
        NoseTown narrow = townOf("town 2 3;" + SORT + SORT + "plant 0 0 0;plant 1 1 2;winds 0 1 0 0 1;");
        cases("without the cells of plants", narrow, 1000, 1002, 1003, 1004, 1005, 1008, 1009, 1010, 1011, 4000, 4002, 4003,
            4004, 4005, 4008, 4009, 4010, 4011);
        NoseTown full = townOf("town 2 2;" + SORT + "plant 0 0 0;plant 0 1 0;plant 0 0 1;plant 0 1 1;");
        cases("no cell without a plant", full, 0, 1000, 2000, 3000, 4000);
        NoseTown one = townOf("town 2 2;" + SORT + "plant 0 0 0;plant 0 1 0;plant 0 0 1;winds 0 0 1 0 0;");
        cases("one cell without a plant", one, 2000, 2004);
        cases("no sorts", townOf("garden;winds 9 0 0 9 0;"), 0, 3000);
        sentence("Terms", "by one of the WINDS with a WEIGHT");
        cases("no weights", townOf("town 2 2;" + SORT + "winds 0 0 0 0 0;"));
        for (int wind = 0; wind < 5; wind++) {
            String weights = "winds" + " 0".repeat(wind) + " 1" + " 0".repeat(4 - wind) + ";";
            cases("wind " + wind, townOf("town 2 2;" + weights), wind * 1000);
        }
    }

    private static void grownCases() {
        sentence("Terms", "one more PLANT (OPEN, of no GARDEN), of a SORT, in a cell without one");
        String herb = "town 2 2;herb 9" + ALL_YEAR + "1;garden;gate 0 0;winds 1 0 0 0 0;";
        NoseTown x = townOf(herb);
        x.nose(0, 0, 0, 27);
        cases("not burned", x);
        x.forget();
        x.nose(0, 0, 0, 9);
        cases("open", x, 1);
        NoseTown beside = townOf(herb + "plant 0 1 0;");
        beside.nose(0, 0, 0, 4);
        cases("nothing more beside an open one", beside, 0, 4);
        beside.turn(0, 1);
        cases("one more beside one that is shut", beside, 3);
        beside.turn(0, 2);
        cases("none beside one that is burned", beside);
        beside.forget();
        beside.nose(0, 0, 0, 22);
        cases("nothing more beside a burned one", beside, 0, 4);
        beside.forget();
        beside.nose(0, 0, 0, 31);
        cases("at the gate beside a burned one", beside, 1);
    }

    private static void weekAndHour() {
        sentence("Terms", "at a GATE, in the WEEK as it is now, at an HOUR");
        NoseTown x = townOf("town 2 2;sort 9 3 4 5 6 1;gate 0 0;gate 1 1;winds 1 0 0 0 0;fade 9;");
        int[][] times = {{2, 5, 0}, {3, 4, 0}, {3, 5, 1}, {4, 6, 1}, {4, 7, 0}, {5, 6, 0}, {51, 23, 0}, {0, 0, 0}};
        for (int[] time : times) {
            x.week(time[0]);
            x.nose(0, time[1], 0, 9);
            due("week " + time[0] + ", hour " + time[1], time[2], () -> x.cases(-1));
            x.forget();
            next("what comes next", x, time[1], 0, time[2] == 1 ? 4 : 5);
        }
        x.week(0);
        x.nose(1, 5, 0, 9);
        cases("nosed in another week", x);
        x.week(3);
        cases("the week as it is now", x, 4);
        x.week(4);
        cases("the week as it is now, the last one", x, 4);
        x.week(5);
        cases("a week behind", x);
        due("none fits", -1, () -> x.next(5, 0));
        due("nosed still", 1, () -> x.count(12));
    }

    private static void nextGate() {
        sentence("Terms", "the GATE at which the greatest group of CASES that FIT and by which each SORT would be SMELT alike is "
            + "least; of like ones the least");
        String text = "town 3 2;sort 20 0 51 6 6 1;winds 1 0 0 0 0;";
        next("the corner", townOf(text + "gate 0 0;"), 6, 0, 2);
        next("the middle", townOf(text + "gate 1 0;"), 6, 0, 3);
        next("the better one is the last", townOf(text + "gate 1 0;gate 1 1;gate 1 0;gate 1 1;gate 2 1;"), 6, 4, 2);
        next("the better one is the first", townOf(text + "gate 0 0;gate 1 1;gate 1 0;"), 6, 0, 2);
        next("like ones", townOf(text + "gate 1 0;gate 2 1;gate 0 0;gate 2 0;"), 6, 1, 2);
        next("all alike", townOf(text + "gate 1 0;gate 2 1;"), 5, 0, 7);
        next("all alike an hour behind", townOf(text + "gate 1 0;gate 2 1;"), 7, 0, 7);
        next("too cold", townOf(text + "gate 1 0;gate 2 1;cold 21;"), 6, 0, 7);
        NoseTown nosed = townOf(text + "gate 1 0;gate 0 0;");
        nosed.nose(0, 6, 0, 15);
        cases("three fit", nosed, 1, 3, 5);
        next("two of them are alike at the other gate", nosed, 6, 1, 2);
        nosed.nose(1, 6, 0, 20);
        next("one fits", nosed, 6, 0, 1);
        next("one fits, at any hour", nosed, 0, 0, 1);
        nosed.nose(1, 6, 0, 19);
        next("none fits", nosed, 6, -1, -1);
        sentence("25", "NONE: no GATES, or none FIT.");
        next("no gates", townOf(text), 6, -1, -1);
        next("no weights", townOf("winds 0 0 0 0 0;gate 0 0;"), 6, -1, -1);
        next("nothing but winds", townOf("gate 0 0;"), 23, 0, 5);
    }

    /** In a town of 2 by 2 two cells lie alike to a gate: a sort left out would make a group of five. */
    private static void everySortAlike() {
        sentence("Terms", "by which each SORT would be SMELT alike");
        for (int sorts = 1; sorts <= 6; sorts++) {
            NoseTown x = townOf("town 2 2;" + ("sort 20" + ALL_YEAR + "1;").repeat(sorts) + "gate 1 1;winds 1 0 0 0 0;");
            next(sorts + " sorts", x, 0, 0, 2);
        }
        for (int sort = 0; sort < 6; sort++) {
            // three cells lie a step from the first gate; two of them lie alike to the second one
            NoseTown x = townOf("town 3 2;" + ("sort 20" + ALL_YEAR + "1;").repeat(6) + "gate 1 0;gate 0 0;winds 1 0 0 0 0;");
            x.nose(0, 0, sort, 15);
            cases("a step off, sort " + sort, x, 1 + 6 * sort, 3 + 6 * sort, 5 + 6 * sort);
            next("a step off, sort " + sort, x, 0, 1, 2);
            x.nose(1, 0, sort, 10);
            cases("two steps off, too", x, 3 + 6 * sort, 5 + 6 * sort);
        }
        NoseTown seen = townOf("town 2 2;" + ("sort 20" + ALL_YEAR + "1;").repeat(6) + "plant 5 0 0;plant 0 1 1;gate 0 0;"
            + "winds 0 1 1 0 0;");
        seen.nose(0, 0, 5, 20 + 17);
        cases("the last sort beside one that is seen", seen, 1000 + 1 + 4 * 5 + 2);
        seen.nose(0, 0, 0, 12);
        cases("beside another one that is seen", seen, 1000 + 1 + 4 * 5 + 2);
        NoseTown winds = townOf("town 2 2;sort 20" + ALL_YEAR + "1;gate 0 0;gain 9;fade 9;against 0;winds 1 0 1 0 0;");
        // calm 20, 11, 11, 2 and nothing; by east 20, 0, 11, 0 and nothing
        next("by two winds", winds, 0, 0, 4);
        // twelve burned plants are smelt as more than 4096; one more of the first sort as 8 by its x, less its y, and more
        StringBuilder most = new StringBuilder("town 8 8;sort 20" + ALL_YEAR + "1;herb 99" + ALL_YEAR
            + "1;gate 7 0;fade 1;gain 9;winds 0 0 1 0 0;");
        for (int i = 0; i < 12; i++) {
            most.append("plant 1 ").append(i / 8).append(' ').append(i % 8).append(';');
        }
        NoseTown x = townOf(most.toString());
        for (int plant = 0; plant < 12; plant++) {
            x.turn(plant, 2);
        }
        due("smelt the most", 12 * 297 + 8 * 56 - 28 + 4 * 48 - 6, () -> x.smelt(1, 7, 0, 2, 2));
        next("each case another smell", x, 0, 0, 1);
        NoseTown all = townOf("town 8 8;" + ("sort 99" + ALL_YEAR + "1;").repeat(6) + "gate 0 0;gate 7 7;".repeat(2)
            + "gate 3 3;fade 20;");
        due("the most cases", 1925, () -> all.cases(-1));
        due("amid the town most of them are smelt", 4, () -> all.next(12, 0));
    }

    /** Nothing is seen, so one more plant is smelt alone: groups are counted here by its sort and smell. */
    private static void manyGroups() {
        sentence("Terms", "the greatest group of CASES that FIT and by which each SORT would be SMELT alike");
        for (int kind = 0; kind < 60; kind++) {
            int fade = kind % 4;
            int gain = kind % 10;
            int gate = kind * 37 % 64;
            int many = 1 + kind % 6;
            StringBuilder text = new StringBuilder("town 8 8;against 14;fade " + fade + ";gain " + gain + ";gate " + gate % 8 + " "
                + gate / 8 + ";");
            for (int sort = 0; sort < many; sort++) {
                text.append("sort ").append(60 + sort * kind % 40).append(ALL_YEAR).append("1;");
            }
            next("many groups, " + text, townOf(text.toString()), 12, 0, greatestGroup(kind, many, gate, fade, gain));
        }
    }

    private static int greatestGroup(int kind, int many, int gate, int fade, int gain) {
        java.util.Map<Integer, Integer> groups = new java.util.HashMap<>();
        groups.put(0, 5);
        for (int i = 0; i < 5 * many * 64; i++) {
            int east = gate % 8 - i % 8;
            int south = gate / 8 - i / 8 % 8;
            int sort = i / 64 % many;
            int along = new int[] {0, -south, east, south, -east}[i / 64 / many];
            int smell = 60 + sort * kind % 40 - fade * (Math.abs(east) + Math.abs(south)) + gain * along;
            groups.merge(smell <= 0 ? 0 : 1000 * (sort + 1) + smell, 1, Integer::sum);
        }
        return java.util.Collections.max(groups.values());
    }

    /** One herb is seen, and one more plant of its sort smells by its steps to the gate alone: a group for each smell. */
    private static void groupsBesideOne() {
        sentence("Terms", "the greatest group of CASES that FIT and by which each SORT would be SMELT alike");
        for (int strength = 1; strength <= 99; strength++) {
            for (int fade = 0; fade <= 20; fade++) {
                int seen = 1 + (strength + fade) % 7;
                String text = "town 8 8;herb " + strength + ALL_YEAR + "1;plant 0 " + seen + " 0;gate 0 0;fade " + fade
                    + ";winds 1 0 0 0 0;";
                NoseTown x = townOf(text);
                next("open, " + text, x, 0, 0, greatestBeside(seen, strength, strength, fade));
                x.turn(0, 2);
                next("burned, " + text, x, 0, 0, greatestBeside(seen, 3 * strength, strength, fade));
                x.turn(0, 1);
                next("shut, " + text, x, 0, 0, greatestBeside(seen, 0, strength, fade));
            }
        }
    }

    private static int greatestBeside(int seen, int strengthSeen, int strength, int fade) {
        java.util.Map<Integer, Integer> groups = new java.util.HashMap<>();
        int smell = Math.max(0, strengthSeen - fade * seen);
        groups.put(smell, 1);
        for (int cell = 0; cell < 64; cell++) {
            if (cell != seen) {
                groups.merge(smell + Math.max(0, strength - fade * (cell % 8 + cell / 8)), 1, Integer::sum);
            }
        }
        return java.util.Collections.max(groups.values());
    }

    /** What grows stands beside what is seen, by each wind: 3 by 2 cells, one of them seen, the gate amid the long side. */
    private static void beside() {
        sentence("Terms", "A CASE: nothing more grows, or one more PLANT (OPEN, of no GARDEN), of a SORT, in a cell without one; "
            + "by one of the WINDS with a WEIGHT");
        // seen at the gate: calm 15, north 13, east 17, south 13, west 13; a step against the wind counts, two don't
        String seen = "town 3 2;sort 20" + ALL_YEAR + "1;plant 0 0 0;gate 1 0;gain 2;fade 5;against 1;winds ";
        cases("calm", nosed(seen + "1 0 0 0 0;", 15), 0);
        cases("calm, one more", nosed(seen + "1 0 0 0 0;", 15 + 20), 2);
        cases("calm, one more a step off", nosed(seen + "1 0 0 0 0;", 15 + 15), 3, 5);
        cases("east", nosed(seen + "0 0 1 0 0;", 17), 2000);
        cases("east, one more against it", nosed(seen + "0 0 1 0 0;", 17 + 13), 2003);
        cases("west", nosed(seen + "0 0 0 0 1;", 13), 4000);
        cases("west, one more with it", nosed(seen + "0 0 0 0 1;", 13 + 17), 4003);
        cases("north", nosed(seen + "0 1 0 0 0;", 15 + 17), 1005);
        cases("south", nosed(seen + "0 0 0 1 0;", 15 + 13), 3005);
        cases("any", nosed(seen + "9 9 9 9 9;", 30), 3, 5, 1003, 2003, 3003, 4003);
        sentence("Terms", "each SORT would be SMELT alike");
        // calm 15, 35, 30, 25, 30, 25; east 17, 37, 30, 29, 32, 25; by any wind 30 if it grows a step east of the gate
        next("calm", townOf(seen + "1 0 0 0 0;"), 0, 0, 2);
        next("east", townOf(seen + "0 0 1 0 0;"), 0, 0, 1);
        next("calm and east", townOf(seen + "1 0 1 0 0;"), 0, 0, 3);
        next("any", townOf(seen + "1 2 3 4 5;"), 0, 0, 6);
    }

    private static NoseTown nosed(String text, int much) {
        NoseTown x = townOf(text);
        x.nose(0, 0, 0, much);
        return x;
    }

    /** By each wind the garden of its number wins: calm the one at the gate, else the one from which it blows. */
    private static NoseTown fiveWinds(int... weights) {
        StringBuilder text = new StringBuilder("town 3 3;sort 21" + ALL_YEAR + "1;sort 20" + ALL_YEAR + "1;garden;garden;garden;"
            + "garden;garden;plant 0 1 1 of 0;plant 1 1 2 of 1;plant 1 0 1 of 2;plant 1 1 0 of 3;plant 1 2 1 of 4;gate 1 1;"
            + "fade 1;gain 9;against 0;winds");
        for (int weight : weights) {
            text.append(' ').append(weight);
        }
        String all = text.append(';').toString();
        for (int wind = 0; wind < 5; wind++) {
            int asked = wind;
            due("wins by wind " + wind, wind, () -> townOf(all).winner(asked, 0));
        }
        return townOf(all);
    }

    /** The document's draws, by long numbers that never wrap. */
    private static int[] daysByWinds(int seed, int days, int... weights) {
        int[] by = new int[5];
        int all = 0;
        for (int weight : weights) {
            all += weight;
        }
        long now = Math.floorMod((long) seed, 1L << 32);
        for (int day = 0; day < days; day++) {
            int wind = 0;
            if (all > 0) {
                now = (now * 1103515245L + 12345L) % (1L << 32);
                long draw = now / 65536 % 32768 % all;
                while (draw >= weights[wind]) {
                    draw -= weights[wind];
                    wind++;
                }
            }
            by[wind]++;
        }
        return by;
    }

    private static void days() {
        sentence("Terms", "each DAY a WIND is drawn by WEIGHTS (a DRAW of all together: the first by which WEIGHTS together are "
            + "more; calm, if all are 0, without it)");
        int[][] weights = {{1, 1, 1, 1, 1}, {99, 99, 99, 99, 99}, {1, 0, 0, 0, 0}, {0, 0, 0, 0, 1}, {0, 0, 5, 0, 0},
            {0, 1, 0, 99, 0}, {2, 0, 0, 0, 1}, {0, 0, 0, 0, 0}, {7, 1, 0, 31, 60}};
        int[] seeds = {0, 1, 7, -1, 12345, 1 << 30, Integer.MIN_VALUE, Integer.MAX_VALUE, 0x7fff0000, -65536};
        for (int[] each : weights) {
            for (int seed : seeds) {
                NoseTown x = fiveWinds(each);
                for (int many : new int[] {0, 1, 2, 3, 99, 100}) {
                    int[] want = daysByWinds(seed, many, each);
                    for (int garden = 0; garden < 5; garden++) {
                        int asked = garden;
                        due(many + " days of seed " + seed + " for " + garden + " by " + java.util.Arrays.toString(each),
                            want[garden], () -> x.days(asked, seed, many));
                    }
                }
            }
        }
        sentence("26", "DAYS (0 to 100)");
        NoseTown calm = fiveWinds(0, 0, 0, 0, 0);
        due("none", 0, () -> calm.days(0, 1, 0));
        due("a hundred", 100, () -> calm.days(0, 1, 100));
        due("a hundred and one", ILLEGAL, () -> calm.days(0, 1, 101));
        due("one less than none", ILLEGAL, () -> calm.days(0, 1, -1));
        sentence("Terms", "(as all is now)");
        calm.turn(0, 1);
        due("the first one is shut, of like ones the least", 100, () -> calm.days(1, 1, 100));
        calm.walk(0, 23);
        calm.turn(0, 0);
        due("open again, at another hour", 100, () -> calm.days(0, 1, 100));
    }

    private static NoseTown turnedTown() {
        return townOf("town 5 2;herb 20" + ALL_YEAR + "3;garden;garden;plant 0 0 0 of 0;plant 0 4 0 of 1;gate 2 0;gate 3 1;");
    }

    private static void image() {
        sentence("Terms", "AN IMAGE keeps how PLANTS are, the ORDER, BEGIN, the WEEK, NOSED, STATUS.");
        NoseTown x = turnedTown();
        x.image();
        NoseTown first = turnedTown();
        feedText(x, "?");
        x.town(1);
        x.turn(0, 2);
        x.turn(1, 1);
        x.turn(1, 3);
        x.walk(1, 23);
        x.week(51);
        for (int many = 0; many < 13; many++) {
            x.nose(many % 2, 23, 0, 0);
        }
        due("restored", 1, () -> bit(x.restore()));
        dueText("the first image", told(first).replace("fault -1", "fault 0"), told(x));
        for (int many = 1; many <= MOST_NOSED; many++) {
            x.nose(0, many, 0, many);
        }
        x.turn(0, 2);
        x.turn(0, -1);
        x.walk(1, 0);
        x.week(51);
        sentence("27", "AN IMAGE is kept, in place of another one.");
        x.image();
        String kept = told(x);
        x.restore();
        dueText("the image as it is", kept, told(x));
        x.turn(0, 0);
        x.walk(8, 12);
        x.week(0);
        for (int many = 0; many < MOST_NOSED; many++) {
            x.forget();
        }
        for (int again = 0; again < 2; again++) {
            sentence("28", "It is as the IMAGE again: true. False: there is none.");
            due("restored", 1, () -> bit(x.restore()));
            dueText("the second image", kept, told(x));
            x.forget();
            x.turn(1, 2);
        }
    }

    /** All that an image keeps, at most: the last plant, the last gate, the last that was nosed. */
    private static void imageOfTheMost() {
        sentence("Terms", "AN IMAGE keeps how PLANTS are, the ORDER, BEGIN, the WEEK, NOSED, STATUS.");
        StringBuilder text = new StringBuilder("town 8 2;" + ("herb 9" + ALL_YEAR + "1;").repeat(6) + "fade 9;gain 0;");
        for (int i = 0; i < 12; i++) {
            text.append("plant ").append(i % 6).append(' ').append(i % 6).append(' ').append(i / 6).append(';');
        }
        for (int i = 0; i < 5; i++) {
            text.append("gate ").append(i).append(" 0;");
        }
        NoseTown x = townOf(text.toString());
        for (int plant = 0; plant < 12; plant++) {
            x.turn(plant, 2 - plant % 3);
        }
        x.walk(001234, 21);
        x.week(50);
        for (int i = 0; i < 11; i++) {
            x.nose(0, 0, 5, 0);
        }
        x.nose(4, 23, 3, 18 + 9);
        int fitting = x.cases(-1);
        due("some fit", 1, () -> bit(fitting > 0));
        x.image();
        String kept = told(x);
        for (int plant = 0; plant < 12; plant++) {
            x.turn(plant, plant % 2);
        }
        x.walk(043210, 0);
        x.week(0);
        for (int i = 0; i < 12; i++) {
            x.forget();
        }
        for (int i = 0; i < 12; i++) {
            x.nose(1, 1, 1, 9999);
        }
        due("none fits", 0, () -> x.cases(-1));
        x.restore();
        dueText("as the image", kept, told(x));
        x.forget();
        x.nose(4, 23, 3, 19 + 9);
        due("another one nosed at last", 0, () -> x.cases(-1));
        x.restore();
        due("nosed as kept", fitting, () -> x.cases(-1));
    }

    private static void hoursOfNosed() {
        sentence("Terms", "AN IMAGE keeps how PLANTS are, the ORDER, BEGIN, the WEEK, NOSED, STATUS.");
        NoseTown x = townOf("town 2 2;sort 9 0 51 5 5 1;gate 0 0;winds 1 0 0 0 0;fade 9;");
        for (int last = 1; last <= MOST_NOSED; last++) {
            for (int left = x.count(12); left > 0; left--) {
                x.forget();
            }
            for (int i = 1; i <= last; i++) {
                x.nose(0, i == last ? 5 : 4, 0, i == last ? 9 : 0);
            }
            cases("the one at its hour", x, 1);
            x.image();
            x.forget();
            x.nose(0, 4, 0, 9);
            cases("at another hour", x);
            x.restore();
            cases("at its hour again", x, 1);
        }
    }

    private static void imageOfNosed() {
        sentence("Terms", "AN IMAGE keeps how PLANTS are, the ORDER, BEGIN, the WEEK, NOSED, STATUS.");
        NoseTown x = townOf(STREET + "gate 2 1;sort 9" + ALL_YEAR + "1;");
        x.nose(0, 3, 0, 5);
        x.image();
        cases("nosed", x, 6);
        x.forget();
        int[][] others = {{1, 3, 0, 5}, {0, 3, 1, 5}, {0, 3, 0, 15}};
        for (int[] other : others) {
            x.nose(other[0], other[1], other[2], other[3]);
            due("another one nosed", 0, () -> bit(x.cases(-1) == 1 && x.cases(0) == 6));
            x.restore();
            cases("nosed as kept", x, 6);
            x.forget();
        }
        sentence("28", "False: there is none.");
        due("no image of a new object", 0, () -> bit(new NoseTown().restore()));
        due("no image behind a town", 0, () -> bit(townOf(STREET).restore()));
        NoseTown kept = new NoseTown();
        kept.image();
        due("an image of a new object", 1, () -> bit(kept.restore()));
        kept.town(0);
        due("it is gone with a town", 0, () -> bit(kept.restore()));
        due("it is gone still", 0, () -> bit(kept.restore()));
        kept.image();
        due("another one", 1, () -> bit(kept.restore()));
        feedText(kept, "?");
        kept.town(1);
        due("it stays with a fault", 1, () -> bit(kept.restore()));
    }

    private static void status() {
        sentence("Terms", "STATUS: how many calls were refused: 0 TEXTS with a FAULT, 1 turns of PLANTS, 2 NOSED "
            + "(not counted where an exception tells it).");
        NoseTown x = turnedTown();
        for (int many = 1; many <= 3; many++) {
            int want = many;
            feedText(x, "garden");
            x.town(6);
            due("texts", want, () -> x.count(14));
            x.turn(0, 3);
            due("turns", want, () -> x.count(15));
            x.nose(0, 0, 0, -1);
            due("nosed", want, () -> x.count(16));
        }
        due("thrown", ILLEGAL, () -> x.town(1));
        due("thrown", NO_SUCH, () -> x.turn(2, 0));
        due("thrown", NO_SUCH, () -> x.nose(2, 0, 0, -1));
        x.week(52);
        x.walk(0, 0);
        x.forget();
        x.best(1, 1);
        each(new int[] {14, 15, 16}, what -> due("count " + what, 3, () -> x.count(what)));
        x.image();
        x.turn(0, 3);
        x.restore();
        each(new int[] {14, 15, 16}, what -> due("count " + what + ", restored", 3, () -> x.count(what)));
        x.town(0);
        each(new int[] {14, 15, 16}, what -> due("count " + what + ", another town", 3, () -> x.count(what)));
    }

    private static void manyCalls() {
        sentence("What it is", "An object is used for at most 512 calls after it has been made");
        NoseTown x = new NoseTown();
        String text = "town 8 8;" + ("herb 99" + ALL_YEAR + "1;").repeat(6) + "garden;garden;gate 0 0;gate 7 7;plant 0 0 1 of 0;"
            + "plant 5 7 6 of 1;        ";
        feedText(x, text);
        due("a town", 0, () -> x.town(text.length()));
        int made = (text.length() + 19) / 20 + 1;
        int most = x.cases(-1);
        int group = x.next(12, 1);
        made += 2;
        for (int call = made; call < 510; call += 3) {
            due("cases, call " + call, most, () -> x.cases(-1));
            due("next, call " + call, group, () -> x.next(12, 1));
            due("nosed, call " + call, NO_SUCH, () -> x.nose(2, 0, 0, 0));
        }
        due("at last", 2, () -> x.count(4));
    }

    public static void main(String[] args) {
        noses();
        allOfTwelveFit();
        coldFits();
        numbers();
        grownCases();
        weekAndHour();
        nextGate();
        everySortAlike();
        manyGroups();
        groupsBesideOne();
        beside();
        days();
        image();
        imageOfTheMost();
        hoursOfNosed();
        imageOfNosed();
        status();
        manyCalls();
        end("what is nosed, drawn and kept holds at its edges");
    }
}
