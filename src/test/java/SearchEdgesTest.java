/** Section 3 and promises 18 to 21, sentence by sentence: what a garden best does, and the fairest order. */
public final class SearchEdgesTest extends TownChecks {
    private static final String ALL_YEAR = " 0 51 0 23 ";
    private static final String CALM = "fade 0;gain 0;winds 1 0 0 0 0;";

    /** Plants of one sort and garden in a line of a town 8 wide. */
    private static String line(int many, int sort, int y, int garden) {
        StringBuilder all = new StringBuilder();
        for (int x = 0; x < many; x++) {
            all.append("plant ").append(sort).append(' ').append(x).append(' ').append(y).append(" of ").append(garden)
                .append(';');
        }
        return all.toString();
    }

    private static void best(String what, NoseTown x, int garden, int weights, int row) {
        due(what, weights, () -> x.best(garden, 0));
        due(what + ", the row", row, () -> x.best(garden, 1));
    }

    private static void allWays() {
        sentence("Terms", "of all ways that its PLANTS are OPEN, SHUT or BURNED (all others as they are)");
        String six = "town 8 2;garden;garden;herb 5" + ALL_YEAR + "1;" + line(6, 0, 0, 0) + "sort ";
        String rival = ALL_YEAR + "1;plant 1 7 1 of 1;gate 7 0;" + CALM;
        best("all open", townOf(six + 30 + rival), 0, 1, 0);
        best("the last one burned", townOf(six + 31 + rival), 0, 1, 2);
        best("the last one burned, just as much", townOf(six + 40 + rival), 0, 1, 2);
        best("the last two burned", townOf(six + 41 + rival), 0, 1, 2 * 3 + 2);
        best("five burned", townOf(six + 80 + rival), 0, 1, 242);
        best("all burned", townOf(six + 81 + rival), 0, 1, 728);
        best("all burned, just as much", townOf(six + 90 + rival), 0, 1, 728);
        best("never", townOf(six + 91 + rival), 0, 0, 0);
        NoseTown turned = townOf(six + 91 + rival);
        turned.turn(6, 1);
        best("another one is shut", turned, 0, 1, 0);
        turned.turn(6, 0);
        turned.turn(0, 2);
        best("its own ones all ways", turned, 0, 0, 0);
        String bad = "town 8 2;garden;garden;herb 5" + ALL_YEAR + "-1;" + line(6, 0, 0, 0) + "sort ";
        best("all shut", townOf(bad + 1 + ALL_YEAR + "1;gate 7 0;" + CALM), 0, 1, 364);
        best("all shut but one", townOf(bad + 5 + ALL_YEAR + "-1;plant 1 7 1 of 1;gate 7 0;" + CALM), 0, 1, 121);
        String sorts = "town 8 2;garden;garden;sort 5" + ALL_YEAR + "-1;" + line(6, 0, 0, 0) + "gate 7 0;" + CALM;
        best("no herbs, all shut", townOf(sorts), 0, 1, 364);
    }

    private static void noHerbs() {
        sentence("Terms", "or, of a HERB, BURNED");
        String text = "town 8 2;garden;garden;sort 5" + ALL_YEAR + "1;sort 6" + ALL_YEAR + "1;plant 0 0 0 of 0;"
            + "plant 1 1 0 of 1;gate 7 0;" + CALM;
        best("a sort isn't burned", townOf(text), 0, 0, 0);
        best("a herb is", townOf(text.replaceFirst("sort", "herb")), 0, 1, 2);
        NoseTown mixed = townOf("town 8 2;garden;garden;herb 5" + ALL_YEAR + "1;sort 5" + ALL_YEAR + "-1;sort 20" + ALL_YEAR
            + "1;sort 15" + ALL_YEAR + "1;plant 1 0 0 of 0;plant 0 1 0 of 0;plant 1 2 0 of 0;plant 2 3 0 of 1;"
            + "plant 3 4 0 of 1;gate 7 0;" + CALM);
        mixed.turn(3, 1);
        best("a herb among sorts, burned, they are shut", mixed, 0, 1, 1 * 9 + 2 * 3 + 1);
        mixed.turn(3, 0);
        mixed.turn(4, 1);
        best("a herb among sorts is not enough", mixed, 0, 0, 0);
    }

    private static void likeOnes() {
        sentence("Terms", "of like ones the first as a row of its PLANTS (OPEN 0, SHUT 1, BURNED 2)");
        String text = "town 8 2;garden;garden;herb 5" + ALL_YEAR + "1;plant 0 0 0 of 0;plant 0 1 0 of 0;gate 7 0;";
        NoseTown x = townOf(text + CALM);
        x.turn(0, 1);
        x.turn(1, 2);
        best("as they are or not", x, 0, 1, 0);
        best("without plants", x, 1, 0, 0);
        NoseTown bad = townOf(text.replace("23 1;", "23 -1;") + CALM);
        best("without plants, ahead", bad, 1, 1, 0);
        best("behind none, but of like ones the first", bad, 0, 1, 1 * 3 + 1);
        NoseTown no = townOf(text + "winds 0 0 0 0 0;");
        no.turn(0, 1);
        best("no weights", no, 0, 0, 0);
        NoseTown gateless = townOf(text.replace("gate 7 0;", "") + "winds 3 0 0 0 0;");
        best("no gates", gateless, 0, 3, 0);
        best("no gates, the other", gateless, 1, 0, 0);
        NoseTown faint = townOf("town 3 2;herb 7" + ALL_YEAR + "1;garden;garden;plant 0 1 0 of 1;gate 0 0;fade 20;winds 1 0 0 0 0;");
        best("smelt as 1 if burned alone", faint, 1, 1, 2);
        for (int wind = 0; wind < 5; wind++) {
            String weights = "winds" + " 0".repeat(wind) + " 9" + " 0".repeat(4 - wind) + ";";
            NoseTown west = townOf("town 3 3;herb 5" + ALL_YEAR + "1;sort 10" + ALL_YEAR + "1;garden;garden;plant 0 1 1 of 1;"
                + "plant 1 1 0 of 0;gate 0 1;gate 2 1;against 0;fade 1;gain 1;" + weights);
            best("by wind " + wind, west, 1, 9, wind == 1 ? 0 : 2);
        }
        NoseTown far = townOf("town 8 8;herb 7" + ALL_YEAR + "1;garden;garden;plant 0 7 7 of 0;plant 0 0 7 of 1;" + "gate 0 0;".repeat(5)
            + "fade 20;winds 1 1 1 1 1;");
        far.turn(0, 1);
        best("never smelt at five gates", far, 0, 5, 0);
        best("never smelt at five gates, the other", far, 1, 0, 0);
        NoseTown asleep = townOf("town 8 2;garden;garden;herb 5 1 51 0 23 -1;plant 0 0 0 of 0;plant 0 1 0 of 1;gate 7 0;" + CALM);
        best("out of season", asleep, 0, 1, 0);
        asleep.week(1);
        best("in season", asleep, 1, 1, 1);
    }

    private static void mostWeights() {
        sentence("Terms", "that by which WEIGHTS of WINDS by which it is THE WINNER are most");
        // the second garden's plant stands a step north of the gate, the first one's at it
        String text = "town 2 3;garden;garden;herb 9" + ALL_YEAR + "1;sort 10" + ALL_YEAR + "1;plant 0 0 0 of 1;plant 1 0 1 of 0;"
            + "gate 0 1;fade 1;gain 1;against 0;winds ";
        NoseTown x = townOf(text + "99 98 97 96 95;");
        best("all but by north", x, 1, 99 + 97 + 96 + 95, 2);
        NoseTown north = townOf(text + "0 99 0 0 0;");
        best("by north alone", north, 1, 0, 0);
        NoseTown south = townOf(text + "0 99 0 1 0;");
        best("by south", south, 1, 1, 2);
        NoseTown all = townOf(text + "0 0 99 0 99;");
        best("all", all, 1, 198, 2);
        NoseTown less = townOf("town 2 3;garden;garden;herb 9" + ALL_YEAR + "-1;sort 9" + ALL_YEAR + "-1;plant 0 0 0 of 1;"
            + "plant 1 0 1 of 0;gate 0 1;fade 1;gain 0;against 0;winds 1 5 1 1 1;");
        best("open it wins by all of them", less, 1, 9, 0);
    }

    private static void spent() {
        sentence("Terms", "SPENT: it has more than 6 PLANTS.");
        String text = "town 8 8;garden;garden;garden;herb 9" + ALL_YEAR + "1;gate 7 7;winds 1 0 0 0 0;";
        NoseTown seven = townOf(text + line(7, 0, 0, 1) + line(5, 0, 1, 0));
        best("seven", seven, 1, -2, -2);
        best("five beside seven", seven, 0, 1, 0);
        best("none beside seven", seven, 2, 0, 0);
        due("seven at rest", -2, seven::rest);
        NoseTown six = townOf(text + line(6, 0, 0, 0) + line(6, 0, 1, 1));
        best("six", six, 0, 1, 0);
        best("six beside six", six, 1, 0, 0);
        due("six and six", 0, six::rest);
        NoseTown twelve = townOf(text + line(7, 0, 0, 2) + line(5, 0, 1, 2));
        best("twelve", twelve, 2, -2, -2);
        due("twelve at rest", -2, twelve::rest);
        NoseTown carts = townOf(text + line(7, 0, 0, 0).replace(" of 0", "") + line(5, 0, 1, 1).replace(" of 1", ""));
        best("carts", carts, 0, 1, 0);
        due("carts at rest", 0, carts::rest);
        sentence("Terms", "(A TOWN in which some GARDEN has more than 6 PLANTS: SPENT.)");
        for (int garden = 0; garden < 3; garden++) {
            NoseTown some = townOf(text + line(7, 0, 0, garden) + line(1, 0, 1, (garden + 1) % 3));
            due("garden " + garden, -2, some::rest);
        }
        NoseTown shut = townOf(text + line(7, 0, 0, 1));
        for (int plant = 0; plant < 7; plant++) {
            shut.turn(plant, 1);
        }
        due("shut or not", -2, shut::rest);
    }

    /**
     * Both gardens' sums, open, are -31: the first way with more is the one with just 1 more, so they outbid one
     * another by 1, the second garden first, since of like ones the first one wins.
     */
    private static NoseTown bidders(int... shut) {
        StringBuilder text = new StringBuilder("town 8 2;garden;garden;");
        for (int strength = 16; strength > 0; strength /= 2) {
            text.append("sort ").append(strength).append(ALL_YEAR).append("-1;");
        }
        for (int plant = 0; plant < 10; plant++) {
            text.append("plant ").append(plant % 5).append(' ').append(plant % 5).append(' ').append(plant / 5)
                .append(" of ").append(plant / 5).append(';');
        }
        NoseTown x = townOf(text + "gate 7 0;" + CALM);
        for (int plant : shut) {
            x.turn(plant, 1);
            x.turn(plant + 5, 1);
        }
        return x;
    }

    private static void rests() {
        sentence("Terms", "at REST is the TOWN when a whole round turned nothing: how many rounds had turned something ahead "
            + "of it; none, if 21 did");
        due("from 0", 0, () -> bidders(0, 1, 2, 3, 4).rest());
        due("from -1", 2, () -> bidders(0, 1, 2, 3).rest());
        due("from -2", 3, () -> bidders(0, 1, 2, 4).rest());
        due("from -17", 18, () -> bidders(1, 2, 3).rest());
        due("from -18, 19 rounds", 19, () -> bidders(1, 2, 4).rest());
        due("from -19, 20 rounds", 20, () -> bidders(1, 2).rest());
        due("from -20, 21 rounds", -1, () -> bidders(1, 3, 4).rest());
        due("from -21, 22 rounds", -1, () -> bidders(1, 3).rest());
        due("from -31", -1, () -> bidders().rest());
        sentence("Terms", "GARDENS in order, one behind the other");
        NoseTown uneven = bidders(0, 1, 2);
        uneven.turn(8, 1);
        uneven.turn(9, 1);
        // the first one has -3 against 0 and turns to 0 at once
        due("the first one alone", 1, uneven::rest);
        NoseTown second = bidders(0, 1, 2, 3, 4);
        second.turn(9, 0);
        due("the second one has less and can't have more", 0, second::rest);
    }

    private static void better() {
        sentence("Terms", "each turns its PLANTS to what is BEST for it then, if that is better by WEIGHTS than as they are");
        String text = "town 5 2;herb 20" + ALL_YEAR + "1;garden;garden;plant 0 1 0 of 0;plant 0 3 0 of 1;gate 2 0;";
        NoseTown x = townOf(text + "winds 1 0 0 0 0;");
        x.turn(0, 2);
        x.turn(1, 2);
        due("as good otherwise", 0, x::rest);
        x.turn(0, 1);
        x.turn(1, 1);
        due("opened by the second one, opened and burned, burned by the first one", 3, x::rest);
        NoseTown never = townOf("town 7 7;herb 45" + ALL_YEAR + "7;herb 43" + ALL_YEAR + "2;garden;garden;plant 0 0 0 of 0;"
            + "plant 0 3 0 of 1;plant 1 2 2 of 0;plant 1 3 2 of 1;gate 3 1;gate 1 2;mask 1 0 53;fade 2;gain 5;cold 3;");
        due("one answers the other for ever", -1, never::rest);
        due("no weights", 0, () -> townOf(text + "winds 0 0 0 0 0;").rest());
        due("no gates", 0, () -> townOf(text.replace("gate 2 0;", "")).rest());
        due("no gardens", 0, () -> townOf("gate 0 0;" + SORT + "plant 0 0 0;").rest());
        due("one garden", 0, () -> townOf("gate 0 0;" + SORT + "garden;plant 0 0 0 of 0;").rest());
        NoseTown ring = townOf("town 8 2;herb 20" + ALL_YEAR + "1;herb 30" + ALL_YEAR + "1;garden;garden;plant 0 0 0 of 0;"
            + "plant 1 1 0 of 1;mask 0 1 50;mask 1 0 50;gate 7 0;" + CALM);
        due("both burned in one round", 1, ring::rest);
    }

    private static void grow(String what, NoseTown x, int garden, int number, int weights) {
        due(what, number, () -> x.grow(garden, 0));
        due(what + ", weights", weights, () -> x.grow(garden, 1));
    }

    private static void noRoom() {
        sentence("20", "NONE (what 1: 0): there are 12 PLANTS, no SORTS, no CELL.");
        String text = "town 8 8;garden;garden;herb 9" + ALL_YEAR + "1;gate 7 7;winds 1 0 0 0 0;";
        grow("12 plants", townOf(text + line(6, 0, 0, 0) + line(6, 0, 1, 1)), 0, -1, 0);
        grow("12 carts", townOf(text + line(6, 0, 0, 0).replace(" of 0", "") + line(6, 0, 1, 1)), 0, -1, 0);
        grow("11 plants", townOf(text + line(6, 0, 0, 0) + line(5, 0, 1, 1)), 0, 6, 1);
        grow("11 plants, the other", townOf(text + line(6, 0, 0, 0) + line(5, 0, 1, 1)), 1, 6 * 8 + 7, 1);
        grow("seven of a garden and one more", townOf(text + line(7, 0, 0, 0)), 0, 7, 1);
        grow("no sorts", townOf("garden;gate 0 0;"), 0, -1, 0);
        grow("no sorts, no gates", townOf("garden;garden;"), 1, -1, 0);
        String small = "town 2 2;garden;garden;" + SORT + "gate 0 0;";
        grow("no cell", townOf(small + "plant 0 0 0;plant 0 1 1;plant 0 1 0;plant 0 0 1;"), 0, -1, 0);
        grow("one cell", townOf(small + "plant 0 0 0;plant 0 1 1;plant 0 1 0;"), 0, 2, 5);
        grow("one cell, the last", townOf(small + "plant 0 0 0;plant 0 0 1;plant 0 1 0;"), 0, 3, 5);
        grow("one cell, the other garden", townOf(small + "plant 0 0 0;plant 0 0 1;plant 0 1 0;"), 1, 3, 0);
    }

    private static void planted() {
        sentence("20", "64 by the SORT and the CELL (what 0), WEIGHTS (1)");
        String text = "town 8 8;garden;garden;" + ("sort 20" + ALL_YEAR + "0;").repeat(5) + "sort 20" + ALL_YEAR + "9;fade 20;"
            + "gain 0;winds 7 0 0 0 0;";
        grow("the last sort in the last cell", townOf(text + "gate 7 7;"), 1, 5 * 64 + 63, 7);
        grow("the last sort in the first cell", townOf(text + "gate 0 0;"), 1, 5 * 64, 7);
        grow("a gate's cell with a plant", townOf(text + "gate 7 7;plant 0 7 7;"), 1, 0, 0);
        grow("in a town 3 wide", townOf(text.replace("town 8 8", "town 3 5") + "gate 2 4;"), 1, 5 * 64 + 14, 7);
        sentence("Terms", "of like ones the least SORT, then CELL");
        grow("all alike", townOf(text + "gate 7 7;"), 0, 0, 7);
        grow("all alike, the first cells with plants", townOf(text + "gate 7 7;plant 0 0 0;plant 5 1 0 of 1;"), 0, 2, 7);
        grow("no weights", townOf(text.replace("winds 7", "winds 0") + "gate 7 7;"), 1, 0, 0);
        grow("no gates", townOf(text), 1, 0, 0);
        grow("no gates, the first one", townOf(text), 0, 0, 7);
        String two = "town 2 3;garden;garden;sort 1" + ALL_YEAR + "1;sort 10" + ALL_YEAR + "1;gate 0 2;fade 1;gain 1;";
        grow("a lesser sort, a later cell", townOf(two + "winds 1 0 0 0 0;"), 1, 4, 1);
        NoseTown winds = townOf(two + "against 2;winds 1 1 2 3 1;");
        grow("most of the weights", winds, 1, 4, 8);
        grow("most of the weights, of another sort", townOf(two + "against 1;winds 9 9 9 9 9;plant 0 0 2;"), 1, 64 + 2, 45);
        sentence("Terms", "one PLANT more of a GARDEN (OPEN)");
        String rival = "town 2 2;garden;garden;herb 9" + ALL_YEAR + "1;gate 0 0;plant 0 0 0 of 0;" + CALM;
        NoseTown x = townOf(rival);
        grow("as strong", x, 1, 1, 0);
        grow("as strong, its own", x, 0, 1, 1);
        x.turn(0, 1);
        grow("against one that is shut", x, 1, 1, 1);
        x.turn(0, 2);
        grow("against one that is burned", x, 1, 1, 0);
    }

    private static void fair(String what, NoseTown x, int order, int difference) {
        due(what, order, () -> x.fair(0));
        due(what + ", the difference", difference, () -> x.fair(1));
    }

    private static void notFair() {
        sentence("21", "NONE: no GATES, no GARDENS, or all WEIGHTS are 0.");
        String planted = SORT + "plant 0 0 0;";
        fair("no gates", townOf(planted + "garden;"), -1, -1);
        fair("no gardens", townOf(planted + "gate 0 0;"), -1, -1);
        fair("no weights", townOf(planted + "garden;gate 0 0;winds 0 0 0 0 0;"), -1, -1);
        fair("nothing", new NoseTown(), -1, -1);
        for (int wind = 0; wind < 5; wind++) {
            String weights = "winds" + " 0".repeat(wind) + " 1" + " 0".repeat(4 - wind) + ";";
            fair("one wind", townOf("garden;gate 0 0;" + weights), 0, 0);
        }
        fair("no plants", townOf("garden;gate 0 0;"), 0, 0);
        fair("one garden", townOf("garden;sort 9" + ALL_YEAR + "1;plant 0 0 0 of 0;gate 0 0;gate 1 0;"), 010, 0);
    }

    private static void fairest() {
        sentence("Terms", "of like ones the first as a row");
        fair("five gates, all alike", townOf("garden;garden;" + "gate 0 0;".repeat(5)), 043210, 0);
        String hours = "sort 20 0 51 12 12 1;garden;garden;plant 0 0 0 of 0;fade 1;gain 1;against 14;gate 0 0;gate 5 0;gate 5 0;";
        NoseTown x = townOf(hours + "winds 1 0 0 0 0;");
        // by the hour the first gate alone is smelt at: 20, or 15 from afar; 1, 0, 2 comes ahead of 2, 0, 1
        fair("the first as a row, not as a number", x, 0201, 15);
        x.walk(0012, 12);
        fair("whatever the order is now", x, 0201, 15);
        x.walk(0012, 11);
        fair("by the second gate", x, 0210, 15);
        x.walk(0012, 13);
        fair("by none", x, 0210, 0);
        x.walk(0012, 12);
        x.week(51);
        fair("in the last week", x, 0201, 15);
        x.turn(0, 1);
        fair("shut", x, 0210, 0);
        sentence("Terms", "the greatest difference of SUMS (the greatest less the least of all GARDENS) by any WIND with a WEIGHT "
            + "is least");
        fair("by east the gate afar is as near", townOf(hours + "winds 1 0 1 0 0;"), 0210, 20);
        fair("by west alone", townOf(hours + "winds 0 0 0 0 1;"), 0201, 10);
        fair("by west and calm", townOf(hours + "winds 99 0 0 0 1;"), 0201, 15);
        for (int garden = 0; garden < 5; garden++) {
            String one = "sort 9" + ALL_YEAR + "-3;" + "garden;".repeat(5) + "plant 0 0 0 of " + garden + ";" + "gate 0 0;".repeat(5);
            fair("of five the least is " + garden, townOf(one), 043210, 27 * 5);
            fair("of five the greatest is " + garden, townOf(one.replace("-3", "3")), 043210, 27 * 5);
        }
        String three = "town 8 2;" + "sort 9" + ALL_YEAR + "1;sort 9" + ALL_YEAR + "-1;sort 9" + ALL_YEAR
            + "0;garden;garden;garden;plant 0 0 0 of 1;plant 1 1 0 of 2;plant 2 2 0 of 0;gate 0 0;" + CALM;
        fair("the greatest less the least", townOf(three), 0, 18);
        fair("all below 0", townOf("sort 9" + ALL_YEAR + "-1;garden;garden;plant 0 0 0 of 0;plant 0 1 0 of 1;gate 0 0;"
            + "winds 1 0 0 0 0;"), 0, 5);
        fair("all above 0", townOf("sort 9" + ALL_YEAR + "1;garden;garden;plant 0 0 0 of 0;plant 0 1 0 of 1;gate 0 0;"
            + "winds 1 0 0 0 0;"), 0, 5);
    }

    /** The first garden has 35 by all orders; the second one has 1 for each gate in its place: so each order is once the fairest. */
    private static void allOrders() {
        sentence("Terms", "of all ORDERS of GATES");
        for (int row = 0; row < 3125; row++) {
            int[] gates = {row / 625, row / 125 % 5, row / 25 % 5, row / 5 % 5, row % 5};
            int met = 0;
            int order = 0;
            for (int i = 0; i < 5; i++) {
                met |= 1 << gates[i];
                order |= gates[i] << 3 * i;
            }
            if (met == 31) {
                fair("the order " + Integer.toOctalString(order), onlyFair(gates), order, 35 - 5);
            }
        }
    }

    private static NoseTown onlyFair(int[] gates) {
        StringBuilder text = new StringBuilder("town 5 3;garden;garden;fade 1;gain 0;winds 1 0 0 0 0;");
        for (int hour = 0; hour < 5; hour++) {
            text.append("sort 1 0 51 ").append((22 + hour) % 24).append(' ').append((22 + hour) % 24).append(" 1;");
        }
        for (int i = 0; i < 5; i++) {
            text.append("gate ").append(i).append(" 0;plant ").append(i).append(' ').append(gates[i]).append(" 0 of 1;");
        }
        text.append("sort 10").append(ALL_YEAR).append("1;plant 5 0 1 of 0;");
        NoseTown x = townOf(text.toString());
        x.walk(043210, 22);
        return x;
    }

    /** Six sorts, five gardens, eleven plants, five gates, all winds: whatever a search finds must come true once it is done. */
    private static String largest(int kind) {
        StringBuilder text = new StringBuilder("town 8 8;" + "garden;".repeat(5));
        for (int sort = 0; sort < 6; sort++) {
            text.append(sort % 2 == kind % 2 ? "herb " : "sort ").append(20 + (sort * 7 + kind * 3) % 30).append(" 0 51 ")
                .append(kind % 3 == 0 ? "0 23 " : "12 16 ").append(sort == 4 ? "-" : "").append(1 + (sort * 5 + kind) % 9).append(';');
        }
        for (int plant = 0; plant < 11; plant++) {
            int cell = (plant * 23 + kind * 5) % 64;
            text.append("plant ").append(plant % 6).append(' ').append(cell % 8).append(' ').append(cell / 8).append(" of ")
                .append((plant + kind) % 5).append(';');
        }
        for (int gate = 0; gate < 5; gate++) {
            int cell = (gate * 37 + kind * 11) % 64;
            text.append("gate ").append(cell % 8).append(' ').append(cell / 8).append(';');
        }
        return text + "mask 0 1 40;mask 5 2 30;mask 3 0 20;fade 2;gain 4;against 3;cold 2;winds 7 11 13 17 19;";
    }

    private static int weightsWon(NoseTown x, int garden) {
        int all = 0;
        for (int wind = 0; wind < 5; wind++) {
            all += x.winner(wind, 0) == garden ? x.count(20 + wind) : 0;
        }
        return all;
    }

    private static int greatestDifference(NoseTown x) {
        int greatest = 0;
        for (int wind = 0; wind < 5; wind++) {
            int most = Integer.MIN_VALUE;
            int least = Integer.MAX_VALUE;
            for (int garden = 0; garden < 5; garden++) {
                most = Math.max(most, x.sum(garden, wind));
                least = Math.min(least, x.sum(garden, wind));
            }
            greatest = Math.max(greatest, most - least);
        }
        return greatest;
    }

    private static void largestTowns() {
        sentence("Terms", "PLANTS 0, 1 .. (at most 12)");
        for (int kind = 0; kind < 24; kind++) {
            String text = largest(kind);
            for (int garden = 0; garden < 5; garden++) {
                comesTrue(text, garden);
            }
            NoseTown fair = townOf(text);
            int order = fair.fair(0);
            due("the order told", 1, () -> bit(fair.walk(order, 12)));
            due("the fairest difference", greatestDifference(fair), () -> townOf(text).fair(1));
        }
    }

    private static void comesTrue(String text, int garden) {
        int now = weightsWon(townOf(text), garden);
        int divisor = java.math.BigInteger.valueOf(now).gcd(java.math.BigInteger.valueOf(67)).intValue();
        due("upper odds", now / divisor, () -> townOf(text).odds(garden, 0));
        due("lower odds", 67 / divisor, () -> townOf(text).odds(garden, 1));
        NoseTown tuned = townOf(text);
        int row = tuned.best(garden, 1);
        for (int plant = 10; plant >= 0; plant--) {
            if (tuned.plant(plant, 2) == garden) {
                tuned.turn(plant, row % 3);
                row /= 3;
            }
        }
        due("best", weightsWon(tuned, garden), () -> townOf(text).best(garden, 0));
        due("no turn was refused", 0, () -> tuned.count(15));
        int number = townOf(text).grow(garden, 0);
        NoseTown grown = townOf(text + "plant " + number / 64 + " " + number % 64 % 8 + " " + number % 64 / 8 + " of " + garden + ";");
        due("one plant more", weightsWon(grown, garden), () -> townOf(text).grow(garden, 1));
        for (int wind = 0; wind < 5; wind++) {
            String one = text.replaceAll("winds.*", "winds" + " 0".repeat(wind) + " 1" + " 0".repeat(4 - wind) + ";");
            due("days of wind " + wind, townOf(one).winner(wind, 0) == garden ? 100 : 0, () -> townOf(one).days(garden, 1, 100));
        }
    }

    public static void main(String[] args) {
        allWays();
        noHerbs();
        likeOnes();
        mostWeights();
        spent();
        rests();
        better();
        noRoom();
        planted();
        notFair();
        fairest();
        allOrders();
        largestTowns();
        end("searches go to their edges");
    }
}
