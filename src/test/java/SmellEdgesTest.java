/** Section 2 and promises 5 to 17, sentence by sentence: smells, marks, sums and who wins, at their bounds. */
public final class SmellEdgesTest extends TownChecks {
    private static final String ALL_YEAR = " 0 51 0 23 ";

    private static int smell(NoseTown x, int cell, int wind) {
        return x.smell(0, cell, 12, wind);
    }

    private static void smells(NoseTown x, int wind, int... want) {
        for (int cell = 0; cell < want.length; cell++) {
            int asked = cell;
            due("smell by wind " + wind + " in cell " + cell, want[cell], () -> smell(x, asked, wind));
        }
    }

    private static void counted() {
        sentence("5", "10 BEGIN, 11 the WEEK, 12 NOSED, 13 bytes of the tape, 14 to 16 STATUS 0 to 2, 20 to 24 WEIGHTS");
        NoseTown x = townOf("town 2 7;" + SORT + SORT + "garden;garden;garden;plant 0 0 0;plant 1 1 1;plant 0 1 6;"
            + "plant 0 0 6;gate 0 0;gate 1 6;gate 0 0;gate 0 0;gate 0 0;fade 20;gain 9;against 14;cold 99;"
            + "winds 99 0 98 1 97;");
        x.walk(043210, 23);
        x.week(51);
        for (int many = 0; many < 13; many++) {
            x.nose(0, 0, 0, 9999);
        }
        feedText(x, " ".repeat(FULL_TAPE));
        counts("the most", x, 2, 7, 2, 3, 4, 5, 20, 9, 14, 99, 23, 51, 12, 700, 0, 0, 1);
        int[] weights = {99, 0, 98, 1, 97};
        each(new int[] {0, 1, 2, 3, 4}, wind -> due("weight " + wind, weights[wind], () -> x.count(20 + wind)));
        x.town(700);
        x.feed('?' << 24, 0, 0, 0, 0);
        x.town(1);
        counts("at once", x, 6, 6, 0, 0, 0, 0, 5, 2, 2, 0, 12, 0, 0, 0, 1, 0, 1);
    }

    private static void plants() {
        sentence("6", "0 SORT, 1 CELL, 2 GARDEN (NONE), 3 how it is (0 OPEN, 1 SHUT, 2 BURNED)");
        StringBuilder text = new StringBuilder("town 8 8;" + SORT.repeat(5) + "herb 9 0 51 0 23 1;" + "garden;".repeat(5));
        for (int i = 0; i < 11; i++) {
            text.append("plant ").append(i % 6).append(' ').append(i % 8).append(' ').append(i / 8)
                .append(i % 2 == 0 ? ";" : " of " + i % 5 + ";");
        }
        NoseTown x = townOf(text + "plant 5 7 7 of 4;");
        due("the last one's sort", 5, () -> x.plant(11, 0));
        due("the last one's cell", 63, () -> x.plant(11, 1));
        due("the last one's garden", 4, () -> x.plant(11, 2));
        due("a cart", -1, () -> x.plant(0, 2));
        due("the first one's cell", 0, () -> x.plant(0, 1));
        due("the first garden's", 0, () -> x.plant(5, 2));
        sentence("Terms", "At first all are OPEN.");
        for (int plant = 0; plant < 12; plant++) {
            int asked = plant;
            due("plant " + plant, 0, () -> x.plant(asked, 3));
        }
        sentence("7", "A PLANT is turned to OPEN (0), SHUT (1), BURNED (2): how it was.");
        int[] turns = {0, 1, 1, 2, 2, 0, 2, 1, 0};
        int was = 0;
        for (int to : turns) {
            int before = was;
            due("turned to " + to, before, () -> x.turn(11, to));
            due("how it is then", to, () -> x.plant(11, 3));
            due("another one", 0, () -> x.plant(5, 3));
            was = to;
        }
        due("not refused", 0, () -> x.count(15));
        due("no herb, shut", 0, () -> x.turn(0, 1));
        due("no herb, open", 1, () -> x.turn(0, 0));
        due("no herb, burned", -1, () -> x.turn(0, 2));
        due("no herb, as it was", 0, () -> x.plant(0, 3));
    }

    private static void outOfSeason() {
        sentence("Terms", "is 0 out of its WEEKS or HOURS");
        NoseTown x = townOf("sort 20 5 9 6 18 1;plant 0 0 0;");
        int[][] seasons = {{4, 6, 0}, {5, 6, 20}, {9, 18, 20}, {10, 18, 0}, {5, 5, 0}, {9, 19, 0}, {7, 6, 20}, {7, 5, 0},
            {7, 18, 20}, {7, 19, 0}, {0, 12, 0}, {51, 12, 0}, {7, 0, 0}, {7, 23, 0}};
        for (int[] season : seasons) {
            x.week(season[0]);
            due("week " + season[0] + ", hour " + season[1], season[2], () -> x.smell(0, 0, season[1], 0));
        }
        NoseTown one = townOf("sort 20 51 51 23 23 1;plant 0 0 0;sort 9 0 0 0 0 1;plant 1 1 0;");
        due("the first week and hour", 9, () -> one.smell(1, 1, 0, 0));
        due("the last hour of the first week", 0, () -> one.smell(0, 0, 23, 0));
        one.week(51);
        due("the last week and hour", 20, () -> one.smell(0, 0, 23, 0));
        due("the last week, an hour ahead", 0, () -> one.smell(0, 0, 22, 0));
        due("the first hour of the last week", 0, () -> one.smell(1, 1, 0, 0));
        one.week(50);
        due("a week ahead", 0, () -> one.smell(0, 0, 23, 0));
    }

    private static void fading() {
        sentence("Terms", "STRENGTH less FADE by the steps between both CELLS (east and south together)");
        NoseTown x = townOf("town 8 2;sort 11" + ALL_YEAR + "1;plant 0 0 0;");
        smells(x, 0, 11, 6, 1, 0, 0, 0, 0, 0, 6, 1, 0);
        sentence("Terms", "0 at least");
        NoseTown even = townOf("town 8 2;sort 10" + ALL_YEAR + "1;plant 0 7 1;");
        smells(even, 0, 0, 0, 0, 0, 0, 0, 0, 5, 0, 0, 0, 0, 0, 0, 5, 10);
        NoseTown far = townOf("town 8 8;sort 99" + ALL_YEAR + "1;plant 0 0 0;fade 7;");
        due("the farthest cell", 99 - 7 * 14, () -> smell(far, 63, 0));
        NoseTown sharp = townOf("town 8 8;herb 99" + ALL_YEAR + "1;plant 0 7 7;fade 20;");
        due("a fade of 20", 79, () -> smell(sharp, 62, 0));
        due("below 0 by far", 0, () -> smell(sharp, 0, 0));
        sharp.turn(0, 2);
        sentence("Terms", "BURNED (its STRENGTH is three times as much)");
        due("the most", 297, () -> smell(sharp, 63, 0));
        due("from afar", 297 - 280, () -> smell(sharp, 0, 0));
        sentence("Terms", "SHUT (it doesn't smell)");
        sharp.turn(0, 1);
        due("shut", 0, () -> smell(sharp, 63, 0));
        NoseTown never = townOf("town 8 8;sort 1" + ALL_YEAR + "1;plant 0 0 0;fade 0;");
        due("without fade", 1, () -> smell(never, 63, 0));
    }

    /** A plant amid 3 by 3 cells. */
    private static void gaining() {
        sentence("Terms", "GAIN by how many steps the CELL lies from it to where WIND blows (less, if it lies the other way; "
            + "0 if calm)");
        NoseTown x = townOf("town 3 3;sort 20" + ALL_YEAR + "1;plant 0 1 1;fade 5;gain 2;");
        smells(x, 0, 10, 15, 10, 15, 20, 15, 10, 15, 10);
        smells(x, 1, 12, 17, 12, 15, 20, 15, 8, 13, 8);
        smells(x, 2, 8, 15, 12, 13, 20, 17, 8, 15, 12);
        smells(x, 3, 8, 13, 8, 15, 20, 15, 12, 17, 12);
        smells(x, 4, 12, 15, 8, 17, 20, 13, 12, 15, 8);
        NoseTown strong = townOf("town 8 8;herb 1" + ALL_YEAR + "1;plant 0 0 7;fade 5;gain 9;");
        due("0 at least, but of all together", 1 - 10 + 18, () -> smell(strong, 58, 2));
        due("the farthest", 1 - 35 + 63, () -> smell(strong, 63, 2));
        due("the farthest by north", 1 - 35 + 63, () -> smell(strong, 0, 1));
        due("the farthest across, north", 0, () -> smell(strong, 7, 1));
        NoseTown none = townOf("town 8 8;sort 99" + ALL_YEAR + "1;plant 0 0 0;fade 1;gain 0;");
        due("no gain", 92, () -> smell(none, 7, 2));
        StringBuilder six = new StringBuilder("garden;".repeat(5) + "fade 0;");
        for (int sort = 0; sort < 6; sort++) {
            six.append("sort 10").append(ALL_YEAR).append(sort + 1).append(";plant ").append(sort).append(' ').append(sort)
                .append(" 0 of ").append(sort % 5).append(';');
        }
        NoseTown sixes = townOf(six.toString());
        for (int garden = 0; garden < 5; garden++) {
            int asked = garden;
            due("of six sorts the mark of " + garden, 10 * (garden == 0 ? 1 + 6 : garden + 1), () -> sixes.mark(asked, 0, 0, 0));
        }
        NoseTown most = townOf("town 8 8;herb 99" + ALL_YEAR + "1;plant 0 0 0;fade 0;gain 9;");
        most.turn(0, 2);
        due("the most of all", 297 + 63, () -> smell(most, 7, 2));
        due("the most of all, farther", 297 + 63, () -> smell(most, 63, 3));
    }

    private static void against() {
        sentence("Terms", "0, too, if the CELL lies more than AGAINST steps the other way");
        String text = "town 8 8;sort 99" + ALL_YEAR + "1;plant 0 7 7;fade 1;gain 1;against ";
        NoseTown none = townOf(text + "0;");
        due("its own cell", 99, () -> smell(none, 63, 2));
        due("a step", 0, () -> smell(none, 62, 2));
        due("a step, calm", 98, () -> smell(none, 62, 0));
        due("a step, across", 98, () -> smell(none, 62, 1));
        due("a step, with the wind", 99, () -> smell(none, 62, 4));
        NoseTown six = townOf(text + "6;");
        due("six steps by east", 99 - 12, () -> smell(six, 57, 2));
        due("seven steps by east", 0, () -> smell(six, 56, 2));
        due("six steps by south", 99 - 12, () -> smell(six, 15, 3));
        due("seven steps by south", 0, () -> smell(six, 7, 3));
        due("six steps and seven across", 99 - 13 - 6, () -> smell(six, 8, 3));
        NoseTown seven = townOf(text + "7;");
        due("seven of seven steps", 99 - 14, () -> smell(seven, 56, 2));
        NoseTown other = townOf("town 8 8;sort 99" + ALL_YEAR + "1;plant 0 0 0;fade 1;gain 1;against 6;");
        due("six steps by west", 99 - 12, () -> smell(other, 6, 4));
        due("seven steps by west", 0, () -> smell(other, 7, 4));
        due("six steps by north", 99 - 12, () -> smell(other, 48, 1));
        due("seven steps by north", 0, () -> smell(other, 56, 1));
        NoseTown all = townOf("town 8 8;sort 99" + ALL_YEAR + "1;plant 0 0 0;fade 1;gain 1;against 14;");
        due("14 steps off, seven against", 99 - 14 - 7, () -> smell(all, 63, 4));
    }

    private static void raw() {
        sentence("Terms", "SMELLS of all its PLANTS, together");
        NoseTown x = townOf("town 4 3;herb 99" + ALL_YEAR + "1;sort 50" + ALL_YEAR + "1;garden;plant 0 0 0;plant 0 1 0 of 0;"
            + "plant 0 2 0;plant 0 3 0;plant 0 0 1;plant 0 1 1;plant 0 2 1;plant 0 3 1;plant 0 0 2;plant 0 1 2;plant 0 2 2;"
            + "plant 0 3 2;fade 0;gain 0;");
        due("no plants of it", 0, () -> x.smelt(1, 0, 0, 0, 0));
        due("no plants of it, masked", 0, () -> x.smelt(1, 0, 0, 0, 1));
        due("no plants of it, smelt", 0, () -> x.smelt(1, 0, 0, 0, 2));
        due("twelve", 12 * 99, () -> x.smelt(0, 0, 0, 0, 0));
        for (int plant = 0; plant < 12; plant++) {
            x.turn(plant, 2);
        }
        due("twelve, burned", 12 * 297, () -> x.smelt(0, 11, 0, 0, 2));
        for (int plant = 0; plant < 12; plant++) {
            x.turn(plant, 1);
        }
        due("twelve, shut", 0, () -> x.smelt(0, 11, 0, 0, 0));
        sentence("Terms", "(0 if RAW is 0)");
        due("the share of no smell", 0, () -> x.mark(0, 0, 0, 0));
    }

    private static int maskedBy(int raw, int masking, int part) {
        return townOf("sort " + raw + ALL_YEAR + "1;sort " + masking + ALL_YEAR + "1;plant 0 0 0;plant 1 1 0;"
            + "mask 1 0 " + part + ";fade 0;").smelt(0, 0, 0, 0, 1);
    }

    private static void masked() {
        sentence("Terms", "RAW less PART by RAW of each SORT that masks it, by 100, cut down, each, 0 at least");
        due("all of it", 0, () -> maskedBy(50, 50, 100));
        due("all but 1", 1, () -> maskedBy(51, 50, 100));
        due("more than all", 0, () -> maskedBy(49, 50, 100));
        due("more than all by far", 0, () -> maskedBy(1, 99, 100));
        due("just 1", 49, () -> maskedBy(50, 50, 2));
        due("not yet 1", 50, () -> maskedBy(50, 99, 1));
        due("not yet 2", 49, () -> maskedBy(50, 50, 3));
        String three = "sort 50" + ALL_YEAR + "1;sort 99" + ALL_YEAR + "1;sort 99" + ALL_YEAR + "1;plant 0 0 0;plant 1 1 0;"
            + "plant 2 2 0;fade 0;";
        due("two, each cut down to 0", 50, () -> townOf(three + "mask 1 0 1;mask 2 0 1;").smelt(0, 0, 0, 0, 1));
        due("two, each cut down to 1", 48, () -> townOf(three + "mask 1 0 2;mask 2 0 2;").smelt(0, 0, 0, 0, 1));
        NoseTown ring = townOf(three + "mask 0 1 50;mask 1 2 50;mask 2 0 50;");
        due("a ring goes by RAW", 50 - 49, () -> ring.smelt(0, 0, 0, 0, 1));
        due("a ring goes by RAW, the second", 99 - 25, () -> ring.smelt(1, 0, 0, 0, 1));
        due("a ring goes by RAW, the third", 99 - 49, () -> ring.smelt(2, 0, 0, 0, 1));
        due("RAW isn't masked", 50, () -> ring.smelt(0, 0, 0, 0, 0));
        NoseTown unsmelt = townOf(three + "mask 1 0 50;cold 99;");
        due("what masks goes by RAW, cold or not", 1, () -> unsmelt.smelt(0, 0, 0, 0, 1));
        NoseTown loud = townOf(three + "mask 1 0 1;plant 2 3 0;");
        due("by a sort that masks it alone", 50, () -> loud.smelt(0, 0, 0, 0, 1));
        NoseTown six = townOf(SORT.repeat(5) + "sort 10 0 51 0 0 1;plant 0 0 0;plant 5 1 0;mask 5 0 30;mask 0 5 20;fade 0;");
        due("by the last sort", 2, () -> six.smelt(0, 0, 0, 0, 1));
        due("the last sort", 9, () -> six.smelt(5, 0, 0, 0, 1));
    }

    private static void cold() {
        sentence("Terms", "SMELT: MASKED, but 0 if that is below COLD");
        for (int cold : new int[] {0, 1, 49, 50, 51, 99}) {
            NoseTown x = townOf("sort 50" + ALL_YEAR + "1;garden;plant 0 0 0 of 0;gate 0 0;cold " + cold + ";");
            int want = cold <= 50 ? 50 : 0;
            due("masked, cold " + cold, 50, () -> x.smelt(0, 0, 0, 0, 1));
            due("smelt, cold " + cold, want, () -> x.smelt(0, 0, 0, 0, 2));
            due("mark, cold " + cold, want, () -> x.mark(0, 0, 0, 0));
            due("sum, cold " + cold, want, () -> x.sum(0, 0));
        }
        String masked = "sort 50" + ALL_YEAR + "1;sort 10" + ALL_YEAR + "1;plant 0 0 0;plant 1 0 1;mask 1 0 100;fade 0;cold ";
        due("goes by what is masked", 0, () -> townOf(masked + "41;").smelt(0, 0, 0, 0, 2));
        due("goes by what is masked, just as much", 40, () -> townOf(masked + "40;").smelt(0, 0, 0, 0, 2));
    }

    private static void shares() {
        sentence("Terms", "SMELT by RAW of its own PLANTS of that SORT, by RAW, cut down");
        String text = "garden;garden;garden;plant 0 0 0 of 0;plant 0 1 0 of 1;plant 0 2 0;plant 1 3 0 of 0;fade 0;";
        NoseTown x = townOf("sort 10" + ALL_YEAR + "1;sort 4" + ALL_YEAR + "0;" + text + "mask 1 0 50;");
        due("28 by 10, by 30", 9, () -> x.mark(0, 0, 0, 0));
        due("28 by 10, by 30, the second", 9, () -> x.mark(1, 0, 0, 0));
        due("without plants", 0, () -> x.mark(2, 0, 0, 0));
        NoseTown all = townOf("sort 10" + ALL_YEAR + "1;sort 4" + ALL_YEAR + "0;" + text);
        due("30 by 10, by 30", 10, () -> all.mark(0, 0, 0, 0));
        sentence("Terms", "Its MARK in a CELL: LIKING by SHARE, of all SORTS, together");
        NoseTown bad = townOf("sort 10" + ALL_YEAR + "-9;sort 4" + ALL_YEAR + "9;" + text + "mask 1 0 50;");
        due("cut down, then liked", -81 + 36, () -> bad.mark(0, 0, 0, 0));
        due("cut down, then liked, the second", -81, () -> bad.mark(1, 0, 0, 0));
        StringBuilder six = new StringBuilder("garden;".repeat(5) + "fade 0;");
        for (int sort = 0; sort < 6; sort++) {
            six.append("sort 10").append(ALL_YEAR).append(sort + 1).append(";plant ").append(sort).append(' ').append(sort)
                .append(" 0 of ").append(sort % 5).append(';');
        }
        NoseTown sixes = townOf(six.toString());
        for (int garden = 0; garden < 5; garden++) {
            int asked = garden;
            due("of six sorts the mark of " + garden, 10 * (garden == 0 ? 1 + 6 : garden + 1), () -> sixes.mark(asked, 0, 0, 0));
        }
        NoseTown most = townOf("town 8 8;herb 99" + ALL_YEAR + "9;garden;garden;garden;garden;garden;plant 0 0 0 of 4;"
            + "plant 0 0 1 of 4;plant 0 0 2 of 4;plant 0 0 3 of 4;plant 0 0 4 of 4;plant 0 0 5 of 4;plant 0 0 6 of 4;"
            + "plant 0 0 7 of 4;plant 0 1 0 of 4;plant 0 1 1 of 4;plant 0 1 2 of 4;plant 0 1 3 of 4;"
            + "gate 7 0;gate 7 0;gate 7 0;gate 7 0;gate 7 0;fade 0;gain 9;");
        for (int plant = 0; plant < 12; plant++) {
            most.turn(plant, 2);
        }
        int mark = 9 * (8 * 360 + 4 * 351);
        due("the greatest mark", mark, () -> most.mark(4, 7, 0, 2));
        due("the greatest sum", 5 * mark, () -> most.sum(4, 2));
        due("the greatest prize", 9999, () -> most.prize(4, 2, 9999));
        due("the last garden wins", 4, () -> most.winner(2, 0));
        due("by how much", 5 * mark, () -> most.winner(2, 1));
    }

    private static void walks() {
        sentence("Terms", "the i-th at HOUR BEGIN and i (MOD 24)");
        String gates = "gate 0 0;gate 1 0;gate 2 0;gate 3 0;gate 4 0;";
        for (int hour = 0; hour < 24; hour++) {
            NoseTown x = townOf("sort 20 0 51 " + hour + " " + hour + " 1;garden;plant 0 0 0 of 0;fade 3;" + gates);
            for (int begin = 0; begin < 24; begin++) {
                int place = (hour - begin + 24) % 24;
                x.walk(043210, begin);
                due("hour " + hour + ", begin " + begin, place < 5 ? 20 - 3 * place : 0, () -> x.sum(0, 0));
                x.walk(001234, begin);
                due("hour " + hour + ", begin " + begin + ", the other way", place < 5 ? 20 - 3 * (4 - place) : 0,
                    () -> x.sum(0, 0));
            }
        }
        sentence("Terms", "At first the ORDER is that of the numbers, BEGIN 12, the WEEK 0.");
        due("order", 043210, () -> townOf(gates).order());
        due("begin", 12, () -> townOf(gates).count(10));
        due("week", 0, () -> townOf(gates).count(11));
        due("without gates", 0, () -> townOf("garden;").order());
        sentence("Terms", "A GARDEN's SUM: its MARKS at all of them, together.");
        StringBuilder twelve = new StringBuilder("town 8 2;sort 9" + ALL_YEAR + "0;sort 9" + ALL_YEAR + "1;garden;fade 0;gate 0 0;");
        for (int plant = 0; plant < 12; plant++) {
            twelve.append("plant ").append(plant / 11).append(' ').append(plant % 8).append(' ').append(plant / 8).append(" of 0;");
        }
        due("the 12th plant is of another sort", 9, () -> townOf(twelve.toString()).sum(0, 0));
        due("no gates", 0, () -> townOf("sort 9" + ALL_YEAR + "9;garden;plant 0 0 0 of 0;").sum(0, 0));
        due("one gate thrice", 27, () -> townOf("sort 9" + ALL_YEAR + "1;garden;plant 0 0 0 of 0;gate 0 0;gate 0 0;gate 0 0;")
            .sum(0, 0));
        due("one hour of two", 9, () -> townOf("sort 9 0 51 0 12 1;garden;plant 0 0 0 of 0;gate 0 0;gate 0 0;").sum(0, 0));
        due("two hours of two", 18, () -> townOf("sort 9 0 51 0 13 1;garden;plant 0 0 0 of 0;gate 0 0;gate 0 0;").sum(0, 0));
    }

    /** Gardens beside one another, each with a plant of its own sort; the gate lies in a corner. */
    private static NoseTown sums(int... sums) {
        StringBuilder text = new StringBuilder();
        for (int sum : sums) {
            text.append("sort ").append(Math.max(1, Math.abs(sum))).append(ALL_YEAR).append(Integer.signum(sum)).append(';');
        }
        for (int garden = 0; garden < sums.length; garden++) {
            text.append("garden;plant ").append(garden).append(' ').append(garden).append(" 0 of ").append(garden).append(';');
        }
        NoseTown x = townOf(text.append("gate 0 5;fade 0;gain 0;against 14;").toString());
        for (int garden = 0; garden < sums.length; garden++) {
            int asked = garden;
            due("sum of " + garden, sums[garden], () -> x.sum(asked, 3));
        }
        return x;
    }

    private static void wins(int winner, int lead, int... sums) {
        NoseTown x = sums(sums);
        String all = java.util.Arrays.toString(sums);
        for (int wind = 0; wind < 5; wind++) {
            int asked = wind;
            due("of " + all, winner, () -> x.winner(asked, 0));
            due("by how much of " + all, lead, () -> x.winner(asked, 1));
        }
    }

    private static void winners() {
        sentence("Terms", "the GARDEN of the greatest SUM, of like ones the least");
        wins(0, 0, 5, 5);
        wins(1, 1, 5, 6);
        wins(0, 1, 6, 5);
        wins(0, 0, 0, 0, 0, 0, 0);
        wins(0, 0, -5, -5);
        wins(1, 0, 4, 5, 5, 3);
        wins(4, 1, 1, 2, 3, 4, 5);
        wins(2, 0, -9, -9, 0, -1, 0);
        sentence("Terms", "by how much more than the next best one (0 in a TOWN of one GARDEN)");
        wins(0, 0, 7);
        wins(0, 0, -7);
        wins(0, 14, 7, -7);
        wins(1, 14, -7, 7);
        wins(0, 2, 9, -9, 7, 1);
        wins(3, 2, 9, -9, 7, 11);
        wins(0, 1, -1, -2, -3);
        wins(2, 198, -99, -99, 99, -99, -99);
    }

    private static void parts(int prize, int[] sums, int... want) {
        NoseTown x = sums(sums);
        for (int garden = 0; garden < want.length; garden++) {
            int asked = garden;
            due(prize + " among " + java.util.Arrays.toString(sums) + " for " + garden, want[garden],
                () -> x.prize(asked, 0, prize));
        }
    }

    private static void prizes() {
        sentence("Terms", "of all SUMS above 0 each its part, cut down; what is left comes to THE WINNER");
        parts(100, new int[] {1, 1, 1}, 34, 33, 33);
        parts(100, new int[] {1, 2, 1}, 25, 50, 25);
        parts(10, new int[] {3, 4, 4}, 2, 5, 3);
        parts(1, new int[] {1, 1}, 1, 0);
        parts(1, new int[] {1, 2}, 0, 1);
        parts(100, new int[] {-5, 1, 0}, 0, 100, 0);
        parts(100, new int[] {3, -5, 5}, 37, 0, 63);
        String two = "sort 3" + ALL_YEAR + "1;garden;garden;plant 0 0 0 of 0;plant 0 1 0 of 1;gate 0 0;fade 1;";
        due("3 and 2, not asked for ahead", 60, () -> townOf(two).prize(0, 0, 100));
        due("3 and 4, not asked for ahead", 58, () -> townOf(two).prize(1, 4, 100));
        parts(100, new int[] {99, -99, 1}, 99, 0, 1);
        parts(7, new int[] {9}, 7);
        parts(9999, new int[] {99, 99, 99, 99, 98}, 2007, 2003, 2003, 2003, 1983);
        sentence("Terms", "(all of it, if no SUM is above 0)");
        parts(100, new int[] {0, 0}, 100, 0);
        parts(100, new int[] {-1, 0}, 0, 100);
        parts(100, new int[] {-3, -2, -1, -2}, 0, 0, 100, 0);
        parts(9999, new int[] {-3}, 9999);
        sentence("Terms", "A PRIZE (0 to 9999)");
        parts(0, new int[] {1, 2}, 0, 0);
        parts(0, new int[] {-1, 0}, 0, 0);
        parts(9999, new int[] {-1, 0}, 0, 9999);
    }

    /** Against north the gate smells of neither garden, against east only of the first: it wins by these. */
    private static void odds(String weights, int upper, int lower) {
        String text = "town 2 2;herb 50" + ALL_YEAR + "1;herb 51" + ALL_YEAR + "1;garden;garden;plant 0 0 0 of 0;plant 1 1 0 of 1;"
            + "gate 0 1;fade 0;gain 0;against 0;winds " + weights + ";";
        NoseTown x = townOf(text);
        due("upper by " + weights, upper, () -> x.odds(1, 0));
        due("lower by " + weights, lower, () -> x.odds(1, 1));
    }

    private static void odds() {
        sentence("Terms", "WEIGHTS of WINDS by which it is THE WINNER, by all WEIGHTS, as a fraction in lowest terms");
        odds("1 1 1 1 1", 3, 5);
        odds("99 99 99 99 99", 3, 5);
        odds("99 0 0 0 0", 1, 1);
        odds("0 99 0 0 0", 0, 1);
        odds("0 99 99 0 0", 0, 1);
        odds("0 0 0 1 0", 1, 1);
        odds("0 0 0 0 1", 1, 1);
        odds("2 0 4 0 0", 1, 3);
        odds("98 0 99 0 0", 98, 197);
        odds("99 99 98 99 99", 297, 494);
        odds("6 2 2 6 6", 9, 11);
        sentence("Terms", "(0 by 1, if all are 0)");
        odds("0 0 0 0 0", 0, 1);
    }

    public static void main(String[] args) {
        counted();
        plants();
        outOfSeason();
        fading();
        gaining();
        against();
        raw();
        masked();
        cold();
        shares();
        walks();
        winners();
        prizes();
        odds();
        end("smells are right at their edges");
    }
}
