/** Section 1 and promises 1 to 4, sentence by sentence: what a text may tell, up to its bounds and just beyond. */
public final class TextEdgesTest extends TownChecks {
    private static final String SORTS = SORT + SORT;
    private static final String SIX_SORTS = SORT.repeat(6);

    /** A number from least to most stands between both parts, none else. */
    private static void bounded(String ahead, int least, int most, String behind) {
        int place = ahead.length();
        fits(ahead + least + behind);
        fits(ahead + most + behind);
        faulty(ahead + (most + 1) + behind, 2, place);
        faulty(ahead + 9999 + behind, 2, place);
        if (least > 0) {
            faulty(ahead + (least - 1) + behind, 2, place);
        } else {
            faulty(ahead + "-1" + behind, 1, place);
        }
        digits(ahead, most, behind);
        noNumber(ahead, behind);
        faulty(ahead + most, 1, place + String.valueOf(most).length());
    }

    private static void digits(String ahead, int most, String behind) {
        int place = ahead.length();
        fits(ahead + String.format("%04d", most) + behind);
        faulty(ahead + String.format("%05d", most) + behind, 2, place);
        // an int that wraps would make 'most' of it
        faulty(ahead + (4294967296L + most) + behind, 2, place);
    }

    private static void noNumber(String ahead, String behind) {
        int place = ahead.length();
        faulty(ahead + "of" + behind, 1, place);
        faulty(ahead + ";" + behind, 1, place);
        faulty(ahead + "?" + behind, 1, place);
        faulty(ahead, 1, place);
    }

    /** A number below count stands between both parts: others aren't told ahead. */
    private static void toldAhead(String ahead, int count, String behind) {
        int place = ahead.length();
        for (int told = 0; told < count; told++) {
            fits(ahead + told + behind);
        }
        faulty(ahead + count + behind, 3, place);
        faulty(ahead + 9999 + behind, 3, place);
        faulty(ahead + count, 3, place);
        faulty(ahead + "00000" + behind, 2, place);
        faulty(ahead + "10000" + behind, 2, place);
        faulty(ahead + "4294967296" + behind, 2, place);
        noNumber(ahead, behind);
    }

    private static void atFirst() {
        sentence("1", "6 by 6 CELLS, nothing in them.");
        NoseTown x = new NoseTown();
        counts("new", x, 6, 6, 0, 0, 0, 0, 5, 2, 2, 0, 12, 0, 0, 0, 0, 0, 0);
        each(new int[] {20, 21, 22, 23, 24}, what -> due("count " + what, 1, () -> x.count(what)));
        due("a plant", NO_SUCH, () -> x.plant(0, 0));
        due("a sort", NO_SUCH, () -> x.smelt(0, 0, 0, 0, 0));
        due("a garden", NO_SUCH, () -> x.sum(0, 0));
        due("a gate", NO_SUCH, () -> x.nose(0, 0, 0, 0));
        due("an order", 0, x::order);
        due("a fault", -1, x::fault);
        due("an image", 0, () -> bit(x.restore()));
        due("something nosed", -1, x::forget);
        due("a tape", ILLEGAL, () -> x.town(1));
    }

    private static void cells() {
        sentence("Terms", "W by H CELLS (2 to 8 each; 6 by 6 without)");
        bounded("town ", 2, 8, " 2;");
        bounded("town 2 ", 2, 8, ";");
        counts("least", townOf("town 2 2;"), 2, 2);
        counts("most", townOf("town 8 8;"), 8, 8);
        counts("without", townOf("garden;"), 6, 6);
        sentence("Terms", "numbered W by y and x");
        due("the last of 8 by 2", 15, () -> townOf("town 8 2;" + SORT + "plant 0 7 1;").plant(0, 1));
        due("the last of 2 by 8", 15, () -> townOf("town 2 8;" + SORT + "plant 0 1 7;").plant(0, 1));
        due("the last of 8 by 8", 63, () -> townOf("town 8 8;" + SORT + "plant 0 7 7;").plant(0, 1));
        due("the first of 8 by 8", 0, () -> townOf("town 8 8;" + SORT + "plant 0 0 0;").plant(0, 1));
    }

    private static void cellsBeyondTheTown() {
        sentence("Terms", "an X, Y beyond THE TOWN");
        for (String thing : new String[] {"plant 0 ", "gate "}) {
            bounded("town 3 7;" + SORT + thing, 0, 2, " 6;");
            bounded("town 3 7;" + SORT + thing + "2 ", 0, 6, ";");
            bounded("town 7 3;" + SORT + thing, 0, 6, " 2;");
            bounded("town 7 3;" + SORT + thing + "6 ", 0, 2, ";");
            bounded(SORT + thing, 0, 5, " 5;");
            bounded(SORT + thing + "5 ", 0, 5, ";");
        }
    }

    private static void sorts() {
        sentence("Terms", "a STRENGTH (1 to 99), WEEKS from to (0 to 51, from no more than to) and HOURS from to "
            + "(0 to 23, likewise)");
        for (String kind : new String[] {"sort ", "herb "}) {
            bounded(kind, 1, 99, " 0 51 0 23 0;");
            bounded(kind + "5 ", 0, 51, " 51 0 23 0;");
            bounded(kind + "5 0 ", 0, 51, " 0 23 0;");
            bounded(kind + "5 17 ", 17, 51, " 0 23 0;");
            bounded(kind + "5 51 ", 51, 51, " 0 23 0;");
            bounded(kind + "5 0 0 ", 0, 23, " 23 0;");
            bounded(kind + "5 0 0 0 ", 0, 23, " 0;");
            bounded(kind + "5 0 0 17 ", 17, 23, " 0;");
            bounded(kind + "5 0 0 23 ", 23, 23, " 0;");
        }
    }

    private static void likings() {
        sentence("Terms", "SIGNED: ['-'] NUMBER");
        for (String sign : new String[] {"", "-", "- ", "-\n"}) {
            String ahead = "sort 5 0 0 0 0 " + sign;
            int place = ahead.length();
            fits(ahead + "0;");
            fits(ahead + "9;");
            faulty(ahead + "10;", 2, place);
            faulty(ahead + "9999;", 2, place);
            digits(ahead, 9, ";");
            noNumber(ahead, ";");
            faulty(ahead + "9", 1, place + 1);
        }
        faulty("sort 5 0 0 0 0 --9;", 1, 16);
        faulty("sort 5 0 0 0 0 9-;", 1, 16);
        faulty("sort 5 0 0 0 0 9 9;", 1, 17);
        sentence("Terms", "a LIKING (-9 to 9)");
        String behind = ";garden;plant 0 0 0 of 0;";
        due("the least", -18, () -> townOf("sort 2 0 51 0 23 -9" + behind).mark(0, 0, 0, 0));
        due("the most", 18, () -> townOf("sort 2 0 51 0 23 9" + behind).mark(0, 0, 0, 0));
        due("none", 0, () -> townOf("sort 2 0 51 0 23 -0" + behind).mark(0, 0, 0, 0));
    }

    private static void settings() {
        sentence("Terms", "FADE (0 to 20; 5 without)");
        setting("fade ", 20, 6, 5);
        sentence("Terms", "GAIN (0 to 9; 2 without)");
        setting("gain ", 9, 7, 2);
        sentence("Terms", "AGAINST (0 to 14; 2 without)");
        setting("against ", 14, 8, 2);
        sentence("Terms", "COLD (0 to 99; 0 without)");
        setting("cold ", 99, 9, 0);
    }

    private static void setting(String word, int most, int what, int without) {
        bounded(word, 0, most, ";");
        due(word + "the least", 0, () -> townOf(word + "0;").count(what));
        due(word + "the most", most, () -> townOf(word + most + ";").count(what));
        due(word + "without", without, () -> townOf("garden;").count(what));
    }

    private static void weights() {
        sentence("Terms", "with WEIGHTS (0 to 99; 1 each without)");
        for (int wind = 0; wind < 5; wind++) {
            String ahead = "winds" + " 7".repeat(wind) + " ";
            String behind = " 8".repeat(4 - wind) + ";";
            int what = 20 + wind;
            bounded(ahead, 0, 99, behind);
            due("the least", 0, () -> townOf(ahead + 0 + behind).count(what));
            due("the most", 99, () -> townOf(ahead + 99 + behind).count(what));
            due("without", 1, () -> townOf("garden;").count(what));
        }
        faulty("winds 1 1 1 1;", 1, 13);
        faulty("winds 1 1 1 1 1 1;", 1, 16);
    }

    private static void masks() {
        sentence("Terms", "a SORT takes a PART (1 to 100 hundredths) of its smell from another SORT");
        bounded(SORTS + "mask 0 1 ", 1, 100, ";");
        StringBuilder all = new StringBuilder(SIX_SORTS);
        for (int pair = 0; pair < 36; pair++) {
            if (pair / 6 != pair % 6) {
                all.append("mask ").append(pair / 6).append(' ').append(pair % 6).append(" 1;");
            }
        }
        fits(all.toString());
        faulty(all + "mask 5 4 1;", 5, all.length() + 7);
        faulty(all + "mask 0 1 1;", 5, all.length() + 7);
    }

    private static void tokens() {
        sentence("Terms", "words (a .. z, the longest row), NUMBERS (1 to 4 digits), signs ; -");
        fits("town3 3;fade0;gate2 2;" + SORT + "plant0 0 0;garden;plant0 1 0of0;");
        fits("town 0003 0003;");
        faulty("town 00003 3;", 2, 5);
        faulty("gateof 0 0;", 1, 0);
        faulty("gates 0 0;", 1, 0);
        faulty("gat 0 0;", 1, 0);
        faulty("ga te 0 0;", 1, 0);
        faulty("fade 1 2;", 1, 7);
        faulty(SORT + "garden;plant 0 0 0 oof 0;", 1, 36);
        faulty(SORT + "garden;plant 0 0 0 o f 0;", 1, 36);
        faulty(SORT + "garden;plant 0 0 0 of0 0;", 1, 40);
    }

    /** Each word that may stand, with another letter at each place, with one more and with one less. */
    private static void words() {
        sentence("Terms", "In quotes is what stands there");
        String[] lines = {"town 2 2;", "sort 5 0 0 0 0 1;", "herb 5 0 0 0 0 1;", "garden;", "gate 0 0;", "fade 1;", "gain 1;",
            "against 1;", "cold 1;", "winds 1 1 1 1 1;"};
        for (String line : lines) {
            fits(line);
            misspelt("", line.replaceAll("[^a-z].*", ""), line.replaceAll("^[a-z]*", ""), 0);
        }
        misspelt(SORT, "plant", " 0 0 0;", SORT.length());
        misspelt(SORTS, "mask", " 0 1 5;", SORTS.length());
        String owned = SORT + "garden;plant 0 0 0 ";
        misspelt(owned, "of", " 0;", owned.length());
    }

    private static void misspelt(String ahead, String word, String behind, int place) {
        fits(ahead + word + behind);
        for (int i = 0; i < word.length(); i++) {
            char other = word.charAt(i) == 'x' ? 'y' : 'x';
            faulty(ahead + word.substring(0, i) + other + word.substring(i + 1) + behind, 1, place);
            faulty(ahead + word.substring(0, i) + word.substring(i + 1) + behind, 1, place);
            faulty(ahead + word.substring(0, i) + "x" + word.substring(i) + behind, 1, place);
            faulty(ahead + word.substring(0, i) + (char) (word.charAt(i) - 32) + word.substring(i + 1) + behind, 1, place);
        }
        faulty(ahead + word + "s" + behind, 1, place);
    }

    /** Each byte stands behind a word and ahead of a number, behind a word, behind a number, where a line may begin. */
    private static void bytes() {
        sentence("Terms", "blanks (32, 10) between them, which count for nothing");
        for (int sign = 0; sign < 256; sign++) {
            String b = String.valueOf((char) sign);
            if (sign == ' ' || sign == '\n') {
                each(new String[] {"gate" + b + "0 0;", "garden" + b + ";", "cold 7" + b + ";", "garden;" + b});
            } else if (sign >= 'a' && sign <= 'z') {
                signs(b, 1, 0, 1, 0, 1, 6);
            } else if (sign >= '0' && sign <= '9') {
                signs(b, sign == '0' ? 0 : 2, sign == '0' ? -1 : 4, 1, 6, 0, -1);
            } else if (sign == ';') {
                signs(b, 1, 4, 1, 7, 1, 7);
            } else {
                signs(b, 1, 4, 1, 6, 1, 6);
            }
        }
    }

    private static void each(String[] texts) {
        for (String text : texts) {
            fits(text);
        }
    }

    private static void signs(String b, int fault1, int place1, int fault2, int place2, int fault3, int place3) {
        faulty("gate" + b + "0 0;", fault1, place1);
        faulty("garden" + b + ";", fault2, place2);
        faulty("cold 7" + b + ";", fault3, place3);
        faulty("garden;" + b, 1, 7);
    }

    private static void lines() {
        sentence("Terms", "TOWN: LINE*.");
        fits("");
        fits(" ");
        fits("\n\n \n");
        fits("garden;");
        fits("\n garden \n ; \n garden\n\n;\n");
        faulty(";", 1, 0);
        faulty("garden;;", 1, 7);
        for (String no : new String[] {"of", "-", "5", "12345", "x", "Town", "?"}) {
            faulty(no, 1, 0);
            faulty(no + ";", 1, 0);
            faulty("garden;" + no, 1, 7);
        }
        sentence("Terms", "all in capitals but SIGNED being NUMBERS");
        for (String word : new String[] {"garden", "fade 1", "gate 0 0", "town 3 3", "cold 1", "winds 0 0 0 0 0"}) {
            fits(word + ";");
            faulty(word + " 1;", 1, word.length() + 1);
            faulty(word + " -;", 1, word.length() + 1);
            faulty(word + " of 0;", 1, word.length() + 1);
        }
    }

    private static void endsTooSoon() {
        sentence("Terms", "the text's length where it ends too soon");
        for (String line : new String[] {"town 2 2", "sort 5 0 0 0 0 1", "sort 5 0 0 0 0 -", "herb 5 0 0 0", "garden",
            "gate 0", "gate 0 0", "fade", "fade 1", "gain", "against", "cold", "winds 1 1 1 1", "winds 1 1 1 1 1"}) {
            faulty(line, 1, line.length());
            faulty(line + " \n ", 1, line.length() + 3);
        }
        for (String line : new String[] {"plant", "plant 0", "plant 0 0", "plant 0 0 0", "plant 0 0 0 of",
            "plant 0 0 0 of 0", "mask", "mask 0", "mask 0 1", "mask 0 1 5"}) {
            String text = SORTS + "garden;" + line;
            faulty(text, 1, text.length());
            faulty(text + "\n", 1, text.length() + 1);
        }
        NoseTown x = new NoseTown();
        feedText(x, "garden;garden;      ");
        due("a text that ends ahead of the tape", 1, () -> x.town(13));
        due("its length", 13, x::fault);
    }

    private static void townAhead() {
        sentence("Terms", "'town' is the first LINE, if it is told.");
        fits(" \ntown 3 3;");
        faulty("town 3 3;town 3 3;", 4, 9);
        faulty("garden;town 3 3;", 4, 7);
        faulty("garden;town", 4, 7);
        faulty("garden;town x", 4, 7);
        faulty("fade 5;town 9 9;", 4, 7);
    }

    private static void toldTwice() {
        sentence("Terms", "a second 'fade', 'gain', 'against', 'cold', 'winds'");
        String[] settings = {"fade 1;", "gain 1;", "against 1;", "cold 1;", "winds 1 1 1 1 1;"};
        StringBuilder all = new StringBuilder();
        for (String setting : settings) {
            String word = setting.substring(0, setting.indexOf(' '));
            all.append(setting);
            faulty(setting + setting, 4, setting.length());
            faulty(setting + "garden;" + word, 4, setting.length() + 7);
            faulty(setting + word + " 9999", 4, setting.length());
        }
        fits(all.toString());
        for (String setting : settings) {
            faulty(all + setting, 4, all.length());
        }
    }

    private static void tooMany() {
        sentence("Terms", "the first TOKEN of the 7th SORT, the 6th GARDEN, the 13th PLANT, the 6th GATE");
        String herbs = SIX_SORTS.replace("sort 5 0 0 0 0 1;sort", "herb 5 0 0 0 0 1;sort");
        full(SIX_SORTS, "sort");
        full(SIX_SORTS, "herb");
        full(herbs, "sort");
        full(herbs, "herb");
        full("garden;".repeat(5), "garden");
        full("gate 0 0;".repeat(5), "gate");
        StringBuilder twelve = new StringBuilder("garden;" + SORT);
        for (int i = 0; i < 12; i++) {
            twelve.append("plant 0 ").append(i % 6).append(' ').append(i / 6).append(i % 2 == 0 ? ";" : " of 0;");
        }
        full(twelve.toString(), "plant");
        NoseTown x = townOf(SIX_SORTS + "garden;".repeat(5) + "gate 0 0;".repeat(5));
        counts("all at most", x, 6, 6, 6, 5, 0, 5);
        due("all at most, plants", 12, () -> townOf(twelve.toString()).count(4));
    }

    private static void full(String text, String word) {
        fits(text);
        faulty(text + word, 2, text.length());
        faulty(text + word + "?", 2, text.length());
        faulty(text + word + " 9999 9999;", 2, text.length());
    }

    private static void notToldAhead() {
        sentence("Terms", "3 a SORT, GARDEN that isn't told ahead");
        toldAhead("plant ", 0, " 0 0;");
        toldAhead(SORT + "plant ", 1, " 0 0;");
        toldAhead(SIX_SORTS + "plant ", 6, " 0 0;");
        toldAhead(SORT + "plant 0 0 0 of ", 0, ";");
        toldAhead(SORT + "garden;plant 0 0 0 of ", 1, ";");
        toldAhead(SORT + "garden;".repeat(5) + "plant 0 0 0 of ", 5, ";");
        toldAhead("mask ", 0, " 0 1;");
        faulty(SORT + "mask 1 0 1;", 3, 22);
        faulty(SORT + "mask 0 1 1;", 3, 24);
        faulty(SORTS + "mask 2 0 1;", 3, 39);
        faulty(SORTS + "mask 0 2 1;", 3, 41);
        faulty("plant 0 0 0;" + SORT, 3, 6);
        faulty(SORT + "plant 0 0 0 of 0;garden;", 3, 32);
    }

    private static void taken() {
        sentence("Terms", "Y of a PLANT's CELL that has one");
        faulty(SORT + "plant 0 0 0;plant 0 0 0;", 5, 39);
        faulty(SORTS + "garden;plant 0 5 5;plant 1 5 5 of 0;", 5, 63);
        faulty(SORT + "plant 0 0 0;plant 0 0 6;", 2, 39);
        faulty(SORT + "plant 0 0 0;plant 0 0 0", 5, 39);
        fits(SORT + "plant 0 0 1;plant 0 1 0;plant 0 1 1;plant 0 0 0;");
        fits("town 2 8;" + SORT + "plant 0 1 0;plant 0 0 1;");
        sentence("Terms", "GATES 0, 1 .. (at most 5): a CELL each.");
        fits(SORT + "gate 0 0;gate 0 0;plant 0 0 0;gate 0 0;");
        sentence("Terms", "the second SORT of a MASK that is the first one or MASKED by it already");
        faulty(SORTS + "mask 0 0 5;", 5, 41);
        faulty(SORTS + "mask 1 1", 5, 41);
        faulty(SORTS + "mask 0 1 100;mask 0 1 5;", 5, 54);
        faulty(SORTS + "mask 0 1 1;mask 0 1", 5, 52);
        fits(SORTS + "mask 0 1 1;mask 1 0 1;");
        fits(SORTS + SORT + "mask 0 1 1;mask 0 2 1;mask 2 1 1;");
        faulty(SORTS + SORT + "mask 2 1 1;mask 0 1 1;mask 2 1 1;", 5, 80);
    }

    private static void firstAlongTheText() {
        sentence("Terms", "FAULTS, the first along the text, at a TOKEN's first byte, of one TOKEN the least");
        faulty("gate 6 6;fade 21;", 2, 5);
        faulty("gate 0 0;fade 21;gate x", 2, 14);
        faulty("garden;fade 1;fade 21;", 4, 14);
        faulty("fade 21;fade 1;", 2, 5);
        faulty(SORT + "plant 1 9 9 of 1;", 3, 23);
        faulty(SORT + "plant 0 9 9 of 1;", 2, 25);
        faulty(SORT + "plant 10000 0 0;", 2, 23);
        faulty(SORT + "mask 0 10000 1;", 2, 24);
        faulty(SORT + "mask 9 9 0;", 3, 22);
        faulty("sort 100 3 2 9 8 10;", 2, 5);
        faulty("sort 10 3 2 9 8 10;", 2, 10);
        faulty("    gate    77    ;", 2, 12);
    }

    private static void tape() {
        sentence("2", "of each number the highest first");
        for (int place = 0; place < 20; place++) {
            int[] n = {0x20202020, 0x20202020, 0x20202020, 0x20202020, 0x20202020};
            n[place / 4] |= 0xff << 24 - place % 4 * 8;
            NoseTown x = new NoseTown();
            due("feed", 20, () -> x.feed(n[0], n[1], n[2], n[3], n[4]));
            due("a byte that is none", 1, () -> x.town(20));
            due("its place", place, x::fault);
        }
        sentence("2", "how many it has; NONE, and none come, if it would have more than 700.");
        NoseTown x = new NoseTown();
        for (int many = 20; many <= FULL_TAPE; many += 20) {
            due("feed", many, () -> x.feed(0x20202020, 0x20202020, 0x20202020, 0x20202020, 0x20202020));
            due("bytes", many, () -> x.count(13));
        }
        for (int again = 0; again < 3; again++) {
            due("one more feed", -1, () -> x.feed(-1, -1, -1, -1, -1));
            due("bytes as before", FULL_TAPE, () -> x.count(13));
        }
        due("all blank as before", 0, () -> x.town(FULL_TAPE));
        due("an empty tape", 0, () -> x.count(13));
        due("the first ones anew", 20, () -> x.feed(0x67617264, 0x656e3b20, 0x20202020, 0x20202020, 0x20202020));
    }

    private static void longestText() {
        sentence("Terms", "A TEXT of at most 700 bytes");
        String ahead = " ".repeat(FULL_TAPE - 9);
        NoseTown x = townOf(ahead + "gate 5 4;");
        due("its last line counts", 1, () -> x.count(5));
        faulty(ahead + "gate 5 4 ", 1, FULL_TAPE);
        faulty(ahead + "gate 5 44", 2, FULL_TAPE - 2);
        faulty(ahead + "garden;;;", 1, FULL_TAPE - 2);
        faulty(ahead + "garden; ;", 1, FULL_TAPE - 1);
        faulty(ahead + "garden; \0", 1, FULL_TAPE - 1);
    }

    private static NoseTown busyTown() {
        NoseTown x = townOf("town 5 3;herb 20 0 51 0 23 3;sort 10 0 51 0 23 -1;garden;garden;plant 0 0 0 of 0;"
            + "plant 1 4 0 of 1;plant 0 2 2;gate 2 0;gate 0 1;mask 1 0 50;fade 3;gain 1;against 4;cold 2;winds 1 2 3 4 5;");
        feedText(x, "?");
        x.town(2);
        x.turn(0, 2);
        x.walk(0001, 7);
        x.week(3);
        x.nose(0, 1, 1, 0);
        x.image();
        x.turn(1, 1);
        x.turn(0, 5);
        x.week(4);
        x.nose(1, 2, 0, 10000);
        feedText(x, "garden;garden;?");
        return x;
    }

    private static void noSuchTown() {
        sentence("3", "IllegalArgumentException: the tape has not so many, n below 0 (nothing changes).");
        for (int n : new int[] {21, 22, 700, 701, Integer.MAX_VALUE, -1, -2, -20, Integer.MIN_VALUE}) {
            changesNothing("town(" + n + ")", TextEdgesTest::busyTown, ILLEGAL, x -> x.town(n));
            due("of an empty tape", ILLEGAL, () -> new NoseTown().town(n));
        }
        due("just so many", 1, () -> busyTown().town(20));
        due("just so many of none", 0, () -> new NoseTown().town(0));
        due("1 of none", ILLEGAL, () -> new NoseTown().town(1));
    }

    private static void faultStays() {
        sentence("3", "or the FAULT (all else stays, but STATUS)");
        NoseTown left = busyTown();
        NoseTown x = busyTown();
        due("a fault", 1, () -> x.town(15));
        due("its place", 14, x::fault);
        due("refused", left.count(14) + 1, () -> x.count(14));
        sentence("3", "(it is empty then)");
        due("the tape", 0, () -> x.count(13));
        due("no byte is left", ILLEGAL, () -> x.town(1));
        sentence("3", "or the FAULT (all else stays, but STATUS)");
        left.town(15);
        NoseTown untold = busyTown();
        dueText("all else", told(untold, 13, 14).replace("fault 0", "fault 14"), told(x, 13, 14));
        due("the image", 1, () -> bit(x.restore()));
        untold.restore();
        dueText("what the image keeps", told(untold, 13).replace("fault 0", "fault 14"), told(x, 13));
    }

    private static void allAnew() {
        sentence("3", "are a TOWN, all anew: 0 (STATUS stays)");
        for (int n : new int[] {0, 7, 14}) {
            NoseTown x = busyTown();
            NoseTown fresh = townOf("garden;".repeat(n / 7));
            due("a town", 0, () -> x.town(n));
            dueText("all anew", told(fresh, 14, 15, 16), told(x, 14, 15, 16));
            counts("STATUS", x, 6, 6, 0, n / 7, 0, 0, 5, 2, 2, 0, 12, 0, 0, 0, 1, 1, 1);
            sentence("3", "NOSED, the image are gone.");
            due("nosed", -1, x::forget);
            due("the image", 0, () -> bit(x.restore()));
            sentence("3", "(it is empty then)");
            due("the tape behind its first bytes", ILLEGAL, () -> x.town(1));
        }
        sentence("3", "all anew");
        NoseTown x = busyTown();
        x.town(0);
        String sparse = "town 5 3;herb 20 0 51 0 23 3;sort 10 0 51 0 23 -1;garden;plant 1 1 0 of 0;gate 4 2;gate 0 0;"
            + "mask 0 1 7;";
        feedText(x, sparse);
        due("another town", 0, () -> x.town(sparse.length()));
        dueText("another town", told(townOf(sparse), 14, 15, 16), told(x, 14, 15, 16));
        String unmasked = "herb 20 0 51 0 23 3;sort 10 0 51 0 23 -1;plant 0 1 0;plant 1 2 0;";
        feedText(x, unmasked);
        due("a town without masks", 0, () -> x.town(unmasked.length()));
        due("the first sort, masked before", 20, () -> x.smelt(0, 1, 0, 0, 1));
        due("the second sort, masked before", 10, () -> x.smelt(1, 2, 0, 0, 1));
    }

    /** What one text told is no longer told when the next one is read, be it the same one, and be the first one faulty. */
    private static void toldAnew() {
        sentence("3", "are a TOWN, all anew");
        String settings = "fade 1;gain 1;against 1;cold 1;winds 1 1 1 1 1;";
        String masks = SORTS + "mask 0 1 1;mask 1 0 1;";
        String most = "town 8 8;" + SIX_SORTS + "garden;".repeat(5) + "gate 7 7;".repeat(5);
        for (String text : new String[] {settings, masks, most, "town 3 3;"}) {
            NoseTown x = townOf(text);
            again(x, text, 0);
            again(x, text + "?", 1);
            again(x, text, 0);
            dueText("told thrice", told(townOf(text), 14), told(x, 14));
        }
        for (int cell = 0; cell < 64; cell++) {
            String text = "town 8 8;" + SORT + "plant 0 " + cell % 8 + " " + cell / 8 + ";";
            NoseTown x = townOf(text);
            again(x, text, 0);
            again(x, text + "?", 1);
            again(x, text, 0);
            due("a cell in which something grows", 5 * (1 + 63), () -> x.cases(-1));
            again(x, "town 8 8;" + SORT, 0);
            due("cells in which nothing grows any more", 5 * (1 + 64), () -> x.cases(-1));
        }
    }

    private static void again(NoseTown x, String text, int want) {
        feedText(x, text);
        due("once more " + text, want, () -> x.town(text.length()));
    }

    private static void latestFault() {
        sentence("4", "The place of the latest town()'s FAULT; NONE without.");
        NoseTown x = new NoseTown();
        due("no town() yet", -1, x::fault);
        feedText(x, "garden;garden;?");
        due("a fault", 1, () -> x.town(15));
        due("its place", 14, x::fault);
        due("thrown", ILLEGAL, () -> x.town(-1));
        due("its place still", 14, x::fault);
        x.image();
        feedText(x, "?");
        due("another fault", 1, () -> x.town(1));
        due("another place", 0, x::fault);
        x.restore();
        due("the image has none", 0, x::fault);
        due("no fault", 0, () -> x.town(0));
        due("no place", -1, x::fault);
    }

    public static void main(String[] args) {
        atFirst();
        cells();
        cellsBeyondTheTown();
        sorts();
        likings();
        settings();
        weights();
        masks();
        tokens();
        words();
        bytes();
        lines();
        endsTooSoon();
        townAhead();
        toldTwice();
        tooMany();
        notToldAhead();
        taken();
        firstAlongTheText();
        tape();
        longestText();
        noSuchTown();
        faultStays();
        allAnew();
        toldAnew();
        latestFault();
        end("texts are read to their edges");
    }
}
