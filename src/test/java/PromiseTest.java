/** Each promise by its number: ordinary inputs, edges, wrong inputs, with answers worked out by hand. */
public final class PromiseTest extends TownChecks {
    private static void promise1() {
        NoseTown x = new NoseTown();
        counts("1 new", x, 6, 6, 0, 0, 0, 0, 5, 2, 2, 0, 12, 0, 0, 0, 0, 0, 0);
        for (int wind = 0; wind < 5; wind++) {
            int w = wind;
            due("1 weight " + wind, 1, () -> x.count(20 + w));
        }
        due("1 nothing in it", NO_SUCH, () -> x.plant(0, 0));
        due("1 the constant", -1, () -> NoseTown.NONE);
        due("1 each object by itself", 6, () -> {
            townOf("town 2 2;");
            return new NoseTown().count(0);
        });
    }

    private static void promise2() {
        NoseTown x = new NoseTown();
        due("2 feed", 20, () -> x.feed(0x746f776e, 0x20322033, 0x3b202020, 0x0a0a0a0a, 0x20202020));
        due("2 tape", 20, () -> x.count(13));
        due("2 highest first", 0, () -> x.town(20));
        counts("2 highest first", x, 2, 3);
        due("2 high bytes", 20, () -> x.feed(0x20202020, 0x202020ff, -1, -1, -1));
        due("2 high bytes are bytes", 1, () -> x.town(20));
        due("2 high bytes' place", 7, x::fault);
        for (int i = 1; i <= 35; i++) {
            int want = 20 * i;
            due("2 feed " + i, want, () -> x.feed(0x20202020, 0x20202020, 0x20202020, 0x20202020, 0x20202020));
        }
        due("2 full", -1, () -> x.feed(-1, -1, -1, -1, -1));
        due("2 none come", 700, () -> x.count(13));
        due("2 all of 700", 0, () -> x.town(700));
    }

    private static void promise3Tokens() {
        faulty("", 0, -1);
        faulty(" \n ", 0, -1);
        faulty("x", 1, 0);
        faulty("garden", 1, 6);
        faulty("garden \n", 1, 8);
        faulty("garden; X", 1, 8);
        faulty("Garden;", 1, 0);
        faulty("\tgarden;", 1, 0);
        faulty("gardens;", 1, 0);
        faulty("gardenz;", 1, 0);
        faulty("garden{;", 1, 6);
        faulty("garden`;", 1, 6);
        faulty("town 3/3;", 1, 6);
        faulty("town 3:3;", 1, 6);
        faulty("garde;", 1, 0);
        faulty("garden1;", 1, 6);
        faulty("garden;;", 1, 7);
        faulty(";", 1, 0);
        faulty("5;", 1, 0);
        faulty("-", 1, 0);
        faulty("of;", 1, 0);
        faulty("12345", 1, 0);
        faulty("town 3", 1, 6);
        faulty("town 3 3", 1, 8);
        faulty("town3 3;", 0, -1);
        faulty("town 0003 3;", 0, -1);
        faulty("town 00003 3;", 2, 5);
        faulty("town 3 12345;", 2, 7);
        faulty("town\n3\n3\n;\ngarden\n;", 0, -1);
        faulty("town 2 8;", 0, -1);
        faulty("town 1 3;", 2, 5);
        faulty("town 9 3;", 2, 5);
        faulty("town 8 9;", 2, 7);
        faulty("town - 3;", 1, 5);
        faulty("town 3 3;town 3 3;", 4, 9);
        faulty("fade 5;town 3 3;", 4, 7);
    }

    private static void promise3Sorts() {
        faulty("sort 99 0 51 0 23 9;herb 1 51 51 23 23 -9;", 0, -1);
        faulty("sort 0 0 0 0 0 0;", 2, 5);
        faulty("sort 100 0 0 0 0 0;", 2, 5);
        faulty("sort 5 52 0 0 0 0;", 2, 7);
        faulty("sort 5 3 2 0 0 0;", 2, 9);
        faulty("sort 5 3 52 0 0 0;", 2, 9);
        faulty("sort 5 3 3 24 0 0;", 2, 11);
        faulty("sort 5 3 3 9 8 0;", 2, 13);
        faulty("sort 5 3 3 9 24 0;", 2, 13);
        faulty("sort 5 3 3 9 9 10;", 2, 15);
        faulty("sort 5 3 3 9 9 -10;", 2, 16);
        faulty("sort 5 3 3 9 9 - 9;", 0, -1);
        faulty("sort 5 3 3 9 9 -0;", 0, -1);
        faulty("sort 5 3 3 9 9 0;", 0, -1);
        faulty("dort 5 3 3 9 9 0;", 1, 0);
        faulty("sort 5 3 3 9 9 --9;", 1, 16);
        faulty("sort 5 3 3 9 9 ;", 1, 15);
        faulty("sort 5 3 3 9 9 -", 1, 16);
        faulty("sort 5 -3 3 9 9 1;", 1, 7);
        faulty(SORT.repeat(6), 0, -1);
        faulty(SORT.repeat(6) + "sort x", 2, 102);
        faulty(SORT.repeat(6) + "herb", 2, 102);
        faulty("garden;".repeat(5), 0, -1);
        faulty("garden;".repeat(6), 2, 35);
    }

    private static void promise3Plants() {
        faulty("plant 0 0 0;", 3, 6);
        faulty(SORT + "plant 1 0 0;", 3, 23);
        faulty(SORT + "plant 9999 0 0;", 3, 23);
        faulty(SORT + "plant 12345 0 0;", 2, 23);
        faulty(SORT + "plant x 0 0;", 1, 23);
        faulty(SORT + "plant 0 5 5;", 0, -1);
        faulty(SORT + "plant 0 6 0;", 2, 25);
        faulty(SORT + "plant 0 0 6;", 2, 27);
        faulty("town 3 4;" + SORT + "plant 0 2 3;plant 0 3 0;", 2, 46);
        faulty(SORT + "plant 0 0 0 of 0;", 3, 32);
        faulty(SORT + "garden;plant 0 0 0 of 0;", 0, -1);
        faulty(SORT + "garden;plant 0 0 0 of 1;", 3, 39);
        faulty(SORT + "plant 0 0 0 of 0;garden;", 3, 32);
        faulty(SORT + "plant 0 0 0 off 0;", 1, 29);
        faulty(SORT + "plant 0 0 0 0;", 1, 29);
        faulty(SORT + "plant 0 0 0;plant 0 0 0;", 5, 39);
        faulty(SORT + "plant 0 1 0;plant 0 0 1;", 0, -1);
        StringBuilder twelve = new StringBuilder(SORT);
        for (int i = 0; i < 12; i++) {
            twelve.append("plant 0 ").append(i % 6).append(' ').append(i / 6).append(';');
        }
        faulty(twelve.toString(), 0, -1);
        faulty(twelve + "plant 0 5 5;", 2, twelve.length());
        faulty("gate 0 0;".repeat(5), 0, -1);
        faulty("gate 0 0;".repeat(6), 2, 45);
        faulty("gate 6 0;", 2, 5);
        faulty("gate 0 6;", 2, 7);
        faulty("gate 0 0 0;", 1, 9);
    }

    private static void promise3Settings() {
        faulty("mask 0 0 5;", 3, 5);
        faulty(SORT + "mask 0 0 5;", 5, 24);
        faulty(SORT + "mask 0 1 5;", 3, 24);
        faulty(SORT + SORT + "mask 2 0 5;", 3, 39);
        faulty(SORT + SORT + "mask 0 1 0;", 2, 43);
        faulty(SORT + SORT + "mask 0 1 101;", 2, 43);
        faulty(SORT + SORT + "mask 0 1 100;mask 1 0 1;", 0, -1);
        faulty(SORT + SORT + "mask 0 1 100;mask 0 1 1;", 5, 54);
        faulty("fade 20;gain 9;against 14;cold 99;winds 99 0 0 0 0;", 0, -1);
        faulty("fade 0;gain 0;against 0;cold 0;winds 0 0 0 0 0;", 0, -1);
        faulty(SORT + SORT + "mask 0 1 1;mask 0 1 1;", 5, 52);
        faulty("fade 21;", 2, 5);
        faulty("gain 10;", 2, 5);
        faulty("against 15;", 2, 8);
        faulty("cold 100;", 2, 5);
        faulty("winds 1 1 1 1 100;", 2, 14);
        faulty("winds 1 1 1 1;", 1, 13);
        faulty("winds 1 1 1 1 1 1;", 1, 16);
        faulty("fade 20;fade 1;", 4, 8);
        faulty("gain 1;gain 1;", 4, 7);
        faulty("against 1;against 1;", 4, 10);
        faulty("cold 1;cold 1;", 4, 7);
        faulty("winds 0 0 0 0 0;winds 1 1 1 1 1;", 4, 16);
        faulty("fade 1;gain 1;fade;", 4, 14);
        faulty("fade;", 1, 4);
    }

    private static void promise3() {
        promise3Tokens();
        promise3Sorts();
        promise3Plants();
        promise3Settings();
        NoseTown x = townOf(DUEL);
        x.turn(1, 2);
        x.turn(0, 2);
        x.nose(0, 3, 0, -1);
        x.nose(0, 3, 0, 7);
        x.week(9);
        x.walk(0, 5);
        x.image();
        feedText(x, "town 2 2;garden;x");
        due("3 more than the tape", ILLEGAL, () -> x.town(21));
        due("3 below 0", ILLEGAL, () -> x.town(-1));
        due("3 below 0 by far", ILLEGAL, () -> x.town(Integer.MIN_VALUE));
        counts("3 nothing changed", x, 5, 2, 2, 2, 2, 1, 5, 2, 2, 0, 5, 9, 1, 20, 0, 1, 1);
        due("3 no fault by it", -1, x::fault);
        due("3 a fault", 1, () -> x.town(17));
        counts("3 all else stays", x, 5, 2, 2, 2, 2, 1, 5, 2, 2, 0, 5, 9, 1, 0, 1, 1, 1);
        due("3 plants stay", 2, () -> x.plant(1, 3));
        due("3 the image stays", 1, () -> bit(x.restore()));
        due("3 the image's status", 0, () -> x.count(14));
        feedText(x, "town 2 2;garden;gate 0 0;gate 1 0;x");
        due("3 the first bytes alone", 0, () -> x.town(34));
        counts("3 all anew", x, 2, 2, 0, 1, 0, 2, 5, 2, 2, 0, 12, 0, 0, 0, 0, 1, 1);
        due("3 the order anew", 8, x::order);
        due("3 the image is gone", 0, () -> bit(x.restore()));
        due("3 an empty tape", 0, () -> x.town(0));
        counts("3 an empty text", x, 6, 6, 0, 0, 0, 0);
        NoseTown y = townOf(DUEL + "winds 0 2 0 0 0;fade 1;");
        y.turn(1, 2);
        feedText(y, DUEL);
        due("3 the same once more", 0, () -> y.town(DUEL.length()));
        due("3 all open again", 0, () -> y.plant(1, 3));
        due("3 weights as without", 1, () -> y.count(20));
        NoseTown z = townOf("cold 7;" + SORT + SORT + "mask 0 1 50;plant 0 0 0;");
        String unmasked = SORT + SORT + "plant 0 0 0;plant 1 0 1;gate 0 0;cold 0;";
        feedText(z, unmasked);
        due("3 each text tells cold once", 0, () -> z.town(unmasked.length()));
        due("3 no mask any more", 5, () -> z.smelt(1, 6, 0, 0, 1));
        feedText(z, "fade 1;");
        z.town(7);
        due("3 no cold any more", 0, () -> z.count(9));
        due("3 fade as without", 5, () -> y.count(6));
    }

    private static void promise4() {
        NoseTown x = new NoseTown();
        due("4 at first", -1, x::fault);
        feedText(x, "garden;?");
        due("4 a fault", 1, () -> x.town(8));
        due("4 its place", 7, x::fault);
        due("4 thrown", ILLEGAL, () -> x.town(1));
        due("4 as before", 7, x::fault);
        due("4 none", 0, () -> x.town(0));
        due("4 no place", -1, x::fault);
    }

    private static void promise5() {
        NoseTown x = townOf("town 3 4;" + SORT + "garden;garden;plant 0 0 0;plant 0 1 0;plant 0 2 0;gate 1 1;"
            + "fade 6;gain 7;against 8;cold 9;winds 1 2 3 4 5;");
        x.week(33);
        x.walk(0, 17);
        x.nose(0, 0, 0, 0);
        x.turn(0, 7);
        x.nose(0, 0, 0, 10000);
        x.nose(0, 0, 0, -1);
        x.feed(0, 0, 0, 0, 0);
        counts("5", x, 3, 4, 1, 2, 3, 1, 6, 7, 8, 9, 17, 33, 1, 20, 0, 1, 2);
        for (int wind = 0; wind < 5; wind++) {
            int w = wind;
            due("5 weight " + wind, wind + 1, () -> x.count(20 + w));
        }
        for (int what : new int[] {-1, 17, 18, 19, 25, Integer.MAX_VALUE, Integer.MIN_VALUE}) {
            due("5 what " + what, NO_SUCH, () -> x.count(what));
        }
    }

    private static void promise6And7() {
        NoseTown x = townOf("town 4 3;" + SORT + "herb 9 0 51 0 23 1;garden;garden;"
            + "plant 1 3 2 of 1;plant 0 1 1;");
        due("6 sort", 1, () -> x.plant(0, 0));
        due("6 cell", 11, () -> x.plant(0, 1));
        due("6 garden", 1, () -> x.plant(0, 2));
        due("6 how", 0, () -> x.plant(0, 3));
        due("6 a cart", -1, () -> x.plant(1, 2));
        due("6 its cell", 5, () -> x.plant(1, 1));
        due("6 no plant", NO_SUCH, () -> x.plant(2, 0));
        due("6 no plant -1", NO_SUCH, () -> x.plant(-1, 0));
        due("6 no what", NO_SUCH, () -> x.plant(0, 4));
        due("6 no what -1", NO_SUCH, () -> x.plant(0, -1));
        due("7 burned", 0, () -> x.turn(0, 2));
        due("6 how then", 2, () -> x.plant(0, 3));
        due("7 shut", 2, () -> x.turn(0, 1));
        due("7 open", 1, () -> x.turn(0, 0));
        due("7 open again", 0, () -> x.turn(0, 0));
        due("7 no herb", -1, () -> x.turn(1, 2));
        due("7 another number", -1, () -> x.turn(0, 3));
        due("7 another number -1", -1, () -> x.turn(0, -1));
        due("7 shut, no herb", 0, () -> x.turn(1, 1));
        due("7 no plant", NO_SUCH, () -> x.turn(2, 0));
        due("7 no plant, no number", NO_SUCH, () -> x.turn(-1, 5));
        due("7 refused", 3, () -> x.count(15));
    }

    private static void promise8To10() {
        NoseTown x = townOf("gate 0 0;gate 1 0;gate 2 0;");
        due("8 last", 1, () -> bit(x.week(51)));
        due("8 too much", 0, () -> bit(x.week(52)));
        due("8 below", 0, () -> bit(x.week(-1)));
        due("8 as told", 51, () -> x.count(11));
        due("8 first", 1, () -> bit(x.week(0)));
        due("10 at first", 0210, x::order);
        due("9 an order", 1, () -> bit(x.walk(0012, 23)));
        due("10 as told", 0012, x::order);
        due("9 begin", 23, () -> x.count(10));
        due("9 twice", 0, () -> bit(x.walk(0011, 3)));
        due("9 no gate", 0, () -> bit(x.walk(0310, 3)));
        due("9 too long", 0, () -> bit(x.walk(03210, 3)));
        due("9 a 0 too long", 0, () -> bit(x.walk(0210 | 1 << 9, 3)));
        due("9 below 0", 0, () -> bit(x.walk(0210 | Integer.MIN_VALUE, 3)));
        due("9 too late", 0, () -> bit(x.walk(0210, 24)));
        due("9 too early", 0, () -> bit(x.walk(0210, -1)));
        due("10 nothing changed", 0012, x::order);
        due("9 begin stays", 23, () -> x.count(10));
        NoseTown none = new NoseTown();
        due("9 no gates", 1, () -> bit(none.walk(0, 0)));
        due("9 no gates, an order", 0, () -> bit(none.walk(1, 0)));
        due("10 no gates", 0, none::order);
        NoseTown five = townOf("gate 0 0;".repeat(5));
        due("10 five gates", 043210, five::order);
        due("9 five gates", 1, () -> bit(five.walk(001234, 0)));
        due("10 five told", 001234, five::order);
    }

    private static void promise11() {
        NoseTown x = townOf("town 8 3;herb 20 5 9 6 18 1;plant 0 3 1;fade 3;gain 2;against 1;");
        x.week(5);
        due("11 at home", 20, () -> x.smell(0, 11, 6, 0));
        due("11 a step", 17, () -> x.smell(0, 12, 18, 0));
        due("11 two ways", 14, () -> x.smell(0, 20, 12, 0));
        due("11 east", 19, () -> x.smell(0, 12, 12, 2));
        due("11 east, a step against", 15, () -> x.smell(0, 10, 12, 2));
        due("11 east, two against", 0, () -> x.smell(0, 9, 12, 2));
        due("11 west", 18, () -> x.smell(0, 9, 12, 4));
        due("11 north", 19, () -> x.smell(0, 3, 12, 1));
        due("11 north, against", 15, () -> x.smell(0, 19, 12, 1));
        due("11 south", 19, () -> x.smell(0, 19, 12, 3));
        due("11 across the wind", 14, () -> x.smell(0, 9, 12, 3));
        due("11 early", 0, () -> x.smell(0, 11, 5, 0));
        due("11 late", 0, () -> x.smell(0, 11, 19, 0));
        x.turn(0, 2);
        due("11 burned", 57, () -> x.smell(0, 12, 12, 0));
        due("11 burned, far", 48, () -> x.smell(0, 15, 12, 0));
        x.turn(0, 1);
        due("11 shut", 0, () -> x.smell(0, 11, 12, 0));
        x.turn(0, 0);
        x.week(9);
        due("11 last week", 20, () -> x.smell(0, 11, 12, 0));
        x.week(10);
        due("11 behind the weeks", 0, () -> x.smell(0, 11, 12, 0));
        x.week(4);
        due("11 ahead of the weeks", 0, () -> x.smell(0, 11, 12, 0));
        due("11 no plant", NO_SUCH, () -> x.smell(1, 0, 0, 0));
        due("11 no cell", NO_SUCH, () -> x.smell(0, 24, 0, 0));
        due("11 no cell -1", NO_SUCH, () -> x.smell(0, -1, 0, 0));
        due("11 no hour", NO_SUCH, () -> x.smell(0, 0, 24, 0));
        due("11 no hour -1", NO_SUCH, () -> x.smell(0, 0, -1, 0));
        due("11 no wind", NO_SUCH, () -> x.smell(0, 0, 0, 5));
        due("11 no wind -1", NO_SUCH, () -> x.smell(0, 0, 0, -1));
        NoseTown far = townOf("sort 9 0 51 0 23 1;plant 0 0 0;");
        due("11 not below 0", 0, () -> far.smell(0, 35, 12, 0));
        NoseTown free = townOf("town 8 8;sort 9 0 51 0 23 1;plant 0 7 0;fade 0;gain 9;");
        due("11 stronger by the wind", 72, () -> free.smell(0, 0, 12, 4));
    }

    private static final String MASKS = "sort 20 0 51 0 23 1;"
        + "sort 20 0 51 0 23 -2;sort 9 0 51 0 23 1;garden;garden;plant 0 0 0 of 0;plant 1 1 0 of 0;plant 1 2 0 of 1;"
        + "plant 2 3 0;mask 0 1 55;mask 2 1 99;cold 8;";

    private static void promise12And13() {
        NoseTown x = townOf(MASKS);
        // in cell 1: sort 0 smells 15, sort 1 20 and 15, sort 2 0
        due("12 raw", 35, () -> x.smelt(1, 1, 0, 0, 0));
        due("12 masked, cut down", 27, () -> x.smelt(1, 1, 0, 0, 1));
        due("12 smelt", 27, () -> x.smelt(1, 1, 0, 0, 2));
        due("12 not masked", 15, () -> x.smelt(0, 1, 0, 0, 1));
        due("12 another cell", 20, () -> x.smelt(0, 0, 0, 0, 1));
        due("13 share of 20 in 35", 15 - 2 * 15, () -> x.mark(0, 1, 0, 0));
        due("13 share of 15 in 35", -2 * 11, () -> x.mark(1, 1, 0, 0));
        // in cell 3: 5; 10 and 15, less 2 and less 8, each cut down; 9, of a cart
        due("12 raw of two", 25, () -> x.smelt(1, 3, 0, 0, 0));
        due("12 masked twice, each cut down", 25 - 2 - 8, () -> x.smelt(1, 3, 0, 0, 1));
        due("12 masked, below the cold", 5, () -> x.smelt(0, 3, 0, 0, 1));
        due("12 below the cold", 0, () -> x.smelt(0, 3, 0, 0, 2));
        due("12 a cart smells", 9, () -> x.smelt(2, 3, 0, 0, 2));
        due("13 carts are nobody's", -2 * 6, () -> x.mark(0, 3, 0, 0));
        due("12 none there", 0, () -> x.smelt(2, 0, 0, 0, 2));
        NoseTown cold = townOf(MASKS.replace("cold 8", "cold 5"));
        due("12 just the cold", 5, () -> cold.smelt(0, 3, 0, 0, 2));
        NoseTown all = townOf(SORT + SORT.replace("5", "4") + "plant 0 0 0;plant 1 1 0;mask 0 1 100;fade 0;");
        due("12 masked, not below 0", 0, () -> all.smelt(1, 0, 0, 0, 1));
        due("12 no sort", NO_SUCH, () -> x.smelt(3, 0, 0, 0, 0));
        due("12 no sort -1", NO_SUCH, () -> x.smelt(-1, 0, 0, 0, 0));
        due("12 no what", NO_SUCH, () -> x.smelt(0, 0, 0, 0, 3));
        due("12 no what -1", NO_SUCH, () -> x.smelt(0, 0, 0, 0, -1));
        due("12 no cell", NO_SUCH, () -> x.smelt(0, 36, 0, 0, 0));
        due("12 no hour", NO_SUCH, () -> x.smelt(0, 0, 24, 0, 0));
        due("12 no wind", NO_SUCH, () -> x.smelt(0, 0, 0, 5, 0));
        due("13 no garden", NO_SUCH, () -> x.mark(2, 0, 0, 0));
        due("13 no garden -1", NO_SUCH, () -> x.mark(-1, 0, 0, 0));
        due("13 no cell", NO_SUCH, () -> x.mark(0, 36, 0, 0));
        due("13 no hour", NO_SUCH, () -> x.mark(0, 0, 24, 0));
        due("13 no wind", NO_SUCH, () -> x.mark(0, 0, 0, -1));
    }

    /** At hour 12 garden 0 smells, at 13 garden 1, at 14 garden 2; the gates are two steps apart. */
    private static final String HOURS = "town 8 2;sort 20 0 51 12 12 2;sort 15 0 51 13 13 1;sort 20 0 51 0 0 1;"
        + "garden;garden;garden;plant 0 0 0 of 0;plant 1 4 0 of 1;plant 2 2 1 of 2;gate 0 1;gate 2 0;gate 4 1;";

    private static void promise14And15() {
        NoseTown x = townOf(HOURS);
        due("14 the first gate at 12", 2 * 15, () -> x.sum(0, 0));
        due("14 the second at 13", 5, () -> x.sum(1, 0));
        due("14 none", 0, () -> x.sum(2, 0));
        due("14 east", 9, () -> x.sum(1, 4));
        due("14 south, against", 2 * 17, () -> x.sum(0, 3));
        due("15 winner", 0, () -> x.winner(0, 0));
        due("15 by how much", 25, () -> x.winner(0, 1));
        x.walk(0021, 12);
        due("14 another order", 2 * 10, () -> x.sum(0, 0));
        due("14 another order, the second", 10, () -> x.sum(1, 0));
        due("15 the next best one", 10, () -> x.winner(0, 1));
        x.walk(0012, 12);
        due("15 another winner", 1, () -> x.winner(0, 0));
        due("15 another winner, by how much", 5, () -> x.winner(0, 1));
        x.walk(0102, 12);
        due("15 of like ones the least", 0, () -> x.winner(0, 0));
        due("15 of like ones", 0, () -> x.winner(0, 1));
        x.walk(0210, 23);
        due("14 over midnight", 15, () -> x.sum(2, 0));
        due("15 over midnight", 2, () -> x.winner(0, 0));
        due("14 no garden", NO_SUCH, () -> x.sum(3, 0));
        due("14 no garden -1", NO_SUCH, () -> x.sum(-1, 0));
        due("14 no wind", NO_SUCH, () -> x.sum(0, 5));
        due("15 no wind", NO_SUCH, () -> x.winner(-1, 0));
        due("15 no what", NO_SUCH, () -> x.winner(0, 2));
        NoseTown none = new NoseTown();
        due("15 no gardens", -1, () -> none.winner(0, 0));
        due("15 no gardens, by how much", -1, () -> none.winner(4, 1));
        due("15 no gardens, no what", NO_SUCH, () -> none.winner(0, -1));
        NoseTown one = townOf("sort 9 0 51 0 23 -3;garden;plant 0 0 0 of 0;gate 0 0;");
        due("14 below 0", -27, () -> one.sum(0, 0));
        due("15 one garden", 0, () -> one.winner(0, 0));
        due("15 one garden, by how much", 0, () -> one.winner(0, 1));
        NoseTown loser = townOf("sort 9 0 51 0 23 -3;garden;garden;garden;plant 0 0 0 of 0;gate 0 0;");
        due("15 0 is more than below 0", 1, () -> loser.winner(0, 0));
        due("15 the next best one", 0, () -> loser.winner(0, 1));
    }

    private static void promise16() {
        NoseTown x = townOf("sort 10 0 51 0 23 1;sort 9 0 51 0 23 -1;garden;garden;garden;garden;"
            + "plant 1 0 0 of 0;plant 0 1 0 of 1;plant 0 2 0 of 2;plant 0 3 0 of 3;gate 3 0;fade 3;");
        // sums: 0 (9 less 9), 4, 7, 10
        due("16 none", 0, () -> x.prize(0, 0, 100));
        due("16 a part, cut down", 19, () -> x.prize(1, 0, 100));
        due("16 another part", 33, () -> x.prize(2, 0, 100));
        due("16 what is left", 48, () -> x.prize(3, 0, 100));
        due("16 the greatest", 4762, () -> x.prize(3, 0, 9999));
        due("16 no prize", 0, () -> x.prize(3, 0, 0));
        due("16 too much", ILLEGAL, () -> x.prize(3, 0, 10000));
        due("16 below 0", ILLEGAL, () -> x.prize(3, 0, -1));
        due("16 no garden ahead", NO_SUCH, () -> x.prize(4, 0, -1));
        due("16 no wind ahead", NO_SUCH, () -> x.prize(0, 5, -1));
        NoseTown low = townOf("sort 10 0 51 0 23 -1;garden;garden;garden;plant 0 0 0 of 0;plant 0 1 0 of 1;gate 1 0;");
        due("16 no sum above 0", 77, () -> low.prize(2, 0, 77));
        due("16 no sum above 0, another", 0, () -> low.prize(0, 0, 77));
        NoseTown big = townOf("town 2 2;herb 99 0 51 0 23 9;garden;garden;plant 0 0 0 of 0;plant 0 1 0 of 0;"
            + "plant 0 0 1 of 0;plant 0 1 1 of 1;" + "gate 0 0;".repeat(5) + "fade 0;gain 0;");
        for (int p = 0; p < 4; p++) {
            big.turn(p, 2);
        }
        due("16 no number too big", 297 * 3 * 9 * 5, () -> big.sum(0, 0));
        due("16 great sums", 7500, () -> big.prize(0, 0, 9999));
        due("16 great sums, the other", 2499, () -> big.prize(1, 0, 9999));
    }

    private static void promise17() {
        NoseTown x = townOf(DUEL + "winds 2 0 6 0 4;");
        due("17 all", 1, () -> x.odds(0, 0));
        due("17 all, lower", 1, () -> x.odds(0, 1));
        due("17 none", 0, () -> x.odds(1, 0));
        due("17 none, lower", 1, () -> x.odds(1, 1));
        x.turn(1, 2);
        due("17 lowest terms", 2, () -> x.odds(0, 0));
        due("17 lowest terms, lower", 3, () -> x.odds(0, 1));
        due("17 the other", 1, () -> x.odds(1, 0));
        due("17 the other, lower", 3, () -> x.odds(1, 1));
        NoseTown calm = townOf(DUEL + "winds 0 0 0 0 0;");
        due("17 no weights", 0, () -> calm.odds(0, 0));
        due("17 no weights, lower", 1, () -> calm.odds(0, 1));
        due("17 no garden", NO_SUCH, () -> x.odds(2, 0));
        due("17 no garden -1", NO_SUCH, () -> x.odds(-1, 0));
        due("17 no what", NO_SUCH, () -> x.odds(0, 2));
        due("17 no what -1", NO_SUCH, () -> x.odds(0, -1));
    }

    private static String plants(int own, int garden) {
        StringBuilder all = new StringBuilder();
        for (int i = 0; i < own; i++) {
            all.append("plant 0 ").append(i).append(' ').append(garden).append(" of ").append(garden).append(';');
        }
        return all.toString();
    }

    private static void promise18() {
        NoseTown x = townOf(DUEL);
        due("18 as it is", 5, () -> x.best(0, 0));
        due("18 as it is, row", 0, () -> x.best(0, 1));
        due("18 burned", 1, () -> x.best(1, 0));
        due("18 burned, row", 2, () -> x.best(1, 1));
        due("18 nothing turned", 0, () -> x.plant(1, 3));
        x.turn(0, 1);
        due("18 the others as they are", 5, () -> x.best(1, 0));
        due("18 the first of like rows", 2, () -> x.best(1, 1));
        due("18 its own plants all ways", 0, () -> x.best(0, 1));
        // garden 1 wins once its disliked second plant is shut
        NoseTown y = townOf("herb 20 0 51 0 23 1;sort 20 0 51 0 23 -5;garden;garden;plant 0 0 0 of 0;"
            + "plant 0 1 1 of 1;plant 1 0 1 of 1;plant 0 1 0 of 1;gate 0 0;winds 3 0 0 0 0;");
        due("18 shut", 3, () -> y.best(1, 0));
        due("18 shut, row", 0 * 9 + 1 * 3 + 0, () -> y.best(1, 1));
        NoseTown six = townOf("herb 9 0 51 0 23 1;garden;garden;garden;" + plants(6, 0) + "plant 0 5 5 of 1;gate 5 5;");
        // by south the plant five steps north of the gate smells 27 less 25 and 10 if burned, more than 9
        due("18 six", 1, () -> six.best(0, 0));
        due("18 six, row", 2, () -> six.best(0, 1));
        due("18 no plants", 0, () -> six.best(2, 1));
        NoseTown seven = townOf("town 8 8;herb 9 0 51 0 23 1;garden;garden;" + plants(7, 0) + plants(1, 1) + "gate 0 1;");
        due("18 spent", -2, () -> seven.best(0, 0));
        due("18 spent, row", -2, () -> seven.best(0, 1));
        due("18 spent is one alone", 5, () -> seven.best(1, 0));
        due("18 spent, no what", NO_SUCH, () -> seven.best(0, 2));
        due("18 no garden", NO_SUCH, () -> x.best(2, 0));
        due("18 no garden -1", NO_SUCH, () -> x.best(-1, 0));
        due("18 no what", NO_SUCH, () -> x.best(0, -1));
        NoseTown herbs = townOf("herb 9 0 51 0 23 1;sort 50 0 51 0 23 1;garden;garden;" + plants(6, 1)
            + "plant 1 5 5 of 0;gate 0 1;fade 1;gain 0;against 14;");
        // 9, 8 .. 4 against 41: burned 27, 26 .. 22
        due("18 six herbs", 5, () -> herbs.best(1, 0));
        due("18 six herbs, the first row", 0 * 243 + 0 * 81 + 0 * 27 + 0 * 9 + 0 * 3 + 2, () -> herbs.best(1, 1));
    }

    private static void promise19() {
        NoseTown x = townOf(DUEL);
        due("19 a round", 1, x::rest);
        due("19 plants as they were", 0, () -> x.plant(1, 3));
        x.turn(1, 2);
        due("19 at rest", 0, x::rest);
        due("19 no gardens", 0, () -> new NoseTown().rest());
        NoseTown again = townOf("town 7 7;herb 45 0 51 0 23 7;herb 43 0 51 0 23 2;garden;garden;plant 0 0 0 of 0;"
            + "plant 0 3 0 of 1;plant 1 2 2 of 0;plant 1 3 2 of 1;gate 3 1;gate 1 2;mask 1 0 53;fade 2;gain 5;cold 3;");
        due("19 never at rest", -1, again::rest);
        NoseTown seven = townOf("town 8 8;herb 9 0 51 0 23 1;garden;garden;" + plants(1, 0) + plants(7, 1));
        due("19 spent", -2, seven::rest);
        NoseTown first = townOf("town 8 8;herb 9 0 51 0 23 1;garden;garden;" + plants(7, 0) + plants(1, 1));
        due("19 spent by the first", -2, first::rest);
        NoseTown six = townOf("town 8 8;herb 9 0 51 0 23 1;garden;garden;" + plants(6, 0) + plants(6, 1));
        due("19 six are not too many", 0, six::rest);
        // each burns its plant once the other has: the second round turns nothing
        NoseTown both = townOf("town 5 2;herb 20 0 51 0 23 1;garden;garden;plant 0 1 0 of 1;plant 0 4 0 of 0;gate 2 0;"
            + "winds 1 0 0 0 0;");
        due("19 both turn in one round", 1, both::rest);
        NoseTown carts = townOf("town 8 8;herb 9 0 51 0 23 1;garden;garden;" + plants(7, 0).replace(" of 0", ""));
        due("19 carts spend nothing", 0, carts::rest);
    }

    private static void promise20() {
        NoseTown x = townOf(DUEL);
        due("20 sort 0, cell 1", 1, () -> x.grow(1, 0));
        due("20 weights", 5, () -> x.grow(1, 1));
        due("20 like ones", 1, () -> x.grow(0, 0));
        due("20 nothing planted", 2, () -> x.count(4));
        due("20 no garden", NO_SUCH, () -> x.grow(2, 0));
        due("20 no garden -1", NO_SUCH, () -> x.grow(-1, 1));
        due("20 no what", NO_SUCH, () -> x.grow(0, 2));
        NoseTown second = townOf("town 3 3;sort 9 0 51 0 23 -1;sort 9 0 51 0 23 1;garden;garden;plant 1 0 0 of 0;"
            + "gate 0 0;winds 7 0 0 0 0;fade 0;");
        due("20 of like ones the least", 0 * 64 + 1, () -> second.grow(1, 0));
        due("20 no weights by it", 0, () -> second.grow(1, 1));
        second.turn(0, 1);
        due("20 the second sort", 1 * 64 + 1, () -> second.grow(1, 0));
        due("20 the second sort's weights", 7, () -> second.grow(1, 1));
        NoseTown full = townOf("town 2 2;sort 9 0 51 0 23 1;garden;plant 0 0 0;plant 0 1 0;plant 0 0 1;plant 0 1 1;");
        due("20 no cell", -1, () -> full.grow(0, 0));
        due("20 no cell, weights", 0, () -> full.grow(0, 1));
        NoseTown bare = townOf("garden;");
        due("20 no sorts", -1, () -> bare.grow(0, 0));
        due("20 no sorts, weights", 0, () -> bare.grow(0, 1));
        NoseTown twelve = townOf("garden;garden;sort 9 0 51 0 23 1;" + plants(6, 0) + plants(6, 1));
        due("20 twelve", -1, () -> twelve.grow(0, 0));
        due("20 twelve, weights", 0, () -> twelve.grow(0, 1));
        NoseTown eleven = townOf("garden;garden;sort 9 0 51 0 23 1;" + plants(6, 0) + plants(5, 1));
        due("20 eleven", 11, () -> eleven.grow(0, 0));
        due("20 eleven, weights", 5, () -> eleven.grow(0, 1));
    }

    private static void promise21() {
        NoseTown x = townOf(HOURS);
        // if calm, the first row by which garden 0 is not smelt at 12 nor garden 1 at 13 is 2, 0, 1
        NoseTown calm = townOf(HOURS + "winds 1 0 0 0 0;");
        due("21 the fairest", 0102, () -> calm.fair(0));
        due("21 the difference", 0, () -> calm.fair(1));
        calm.walk(0210, 11);
        due("21 by another hour", 0021, () -> calm.fair(0));
        due("21 by another hour, the order as told stays", 0210, calm::order);
        NoseTown two = townOf("town 8 2;sort 20 0 51 12 12 2;sort 15 0 51 0 23 1;garden;garden;plant 0 0 0 of 0;"
            + "plant 1 4 0 of 1;gate 0 0;gate 2 0;winds 3 0 0 0 0;");
        // 40 and 5; 20 and 5
        due("21 the least of the differences", 0001, () -> two.fair(0));
        due("21 the least difference", 15, () -> two.fair(1));
        // garden 0 has 10 for each gate k at place 4 - k, garden 1 always 46
        StringBuilder five = new StringBuilder("town 5 2;");
        StringBuilder planted = new StringBuilder("sort 53 0 51 0 23 1;garden;garden;plant 5 0 1 of 1;fade 20;");
        for (int k = 0; k < 5; k++) {
            five.append("sort 10 0 51 ").append(16 - k).append(' ').append(16 - k).append(" 1;");
            planted.append("plant ").append(k).append(' ').append(k).append(" 0 of 0;gate ").append(k).append(" 0;");
        }
        NoseTown last = townOf(five.append(planted).append("winds 1 0 0 0 0;").toString());
        due("21 the last of 120 orders", 001234, () -> last.fair(0));
        due("21 its difference from five gates", 4, () -> last.fair(1));
        due("21 one gate", 0, () -> townOf(DUEL).fair(0));
        due("21 its difference", 42, () -> townOf(DUEL).fair(1));
        due("21 winds with a weight alone", 30, () -> townOf(DUEL + "winds 9 0 0 0 0;").fair(1));
        due("21 like ones", 0210, () -> townOf("garden;gate 0 0;gate 0 0;gate 0 0;").fair(0));
        due("21 like ones, no difference", 0, () -> townOf("garden;gate 0 0;gate 0 0;gate 0 0;").fair(1));
        due("21 no gates", -1, () -> townOf("garden;").fair(0));
        due("21 no gardens", -1, () -> townOf("gate 0 0;").fair(1));
        due("21 no weights", -1, () -> townOf("garden;gate 0 0;winds 0 0 0 0 0;").fair(1));
        due("21 no what", NO_SUCH, () -> x.fair(2));
        due("21 no what, no gates", NO_SUCH, () -> new NoseTown().fair(-1));
    }

    private static final String STREET = "town 3 2;sort 20 0 51 0 23 1;gate 0 0;winds 1 0 0 0 0;";

    private static void promise22And23() {
        NoseTown x = townOf(STREET);
        due("23 none", -1, x::forget);
        for (int i = 1; i <= 12; i++) {
            int want = i;
            due("22 nosed " + i, want, () -> x.nose(0, 23, 0, want == 1 ? 0 : 9999));
        }
        due("22 there are 12", -1, () -> x.nose(0, 0, 0, 0));
        due("23 forgotten", 11, x::forget);
        due("22 below 0", -1, () -> x.nose(0, 0, 0, -1));
        due("22 too much", -1, () -> x.nose(0, 0, 0, 10000));
        due("22 no gate", NO_SUCH, () -> x.nose(1, 0, 0, -1));
        due("22 no gate -1", NO_SUCH, () -> x.nose(-1, 0, 0, 0));
        due("22 no hour", NO_SUCH, () -> x.nose(0, 24, 0, 0));
        due("22 no sort", NO_SUCH, () -> x.nose(0, 0, 1, 0));
        due("22 refused", 3, () -> x.count(16));
        due("22 how many", 11, () -> x.count(12));
        for (int i = 10; i >= 0; i--) {
            due("23 left " + i, i, x::forget);
        }
        due("23 none left", -1, x::forget);
        due("23 not refused", 3, () -> x.count(16));
        NoseTown y = townOf(STREET);
        y.nose(0, 12, 0, 10);
        y.nose(0, 12, 0, 20);
        due("23 both", 0, () -> y.cases(-1));
        y.forget();
        due("23 the last one is forgotten", 2, () -> y.cases(-1));
    }

    private static void promise24() {
        NoseTown x = townOf(STREET);
        due("24 all", 7, () -> x.cases(-1));
        due("24 nothing more", 0, () -> x.cases(0));
        due("24 the last", 6, () -> x.cases(6));
        due("24 no case", NO_SUCH, () -> x.cases(7));
        due("24 no case -2", NO_SUCH, () -> x.cases(-2));
        due("24 no case by far", NO_SUCH, () -> x.cases(Integer.MIN_VALUE));
        x.nose(0, 12, 0, 10);
        due("24 two", 2, () -> x.cases(-1));
        due("24 the first", 1 + 2, () -> x.cases(0));
        due("24 the second", 1 + 4, () -> x.cases(1));
        due("24 no third", NO_SUCH, () -> x.cases(2));
        NoseTown y = townOf("town 3 2;sort 20 0 51 0 23 1;sort 9 3 3 0 23 1;plant 0 1 0;gate 0 0;mask 1 0 100;"
            + "winds 0 0 5 0 1;");
        due("24 winds with a weight, free cells", 2 * 11, () -> y.cases(-1));
        y.nose(0, 12, 0, 17);
        due("24 only by west, nothing or sort 1", 6, () -> y.cases(-1));
        due("24 by west", 4000, () -> y.cases(0));
        due("24 the second sort", 4000 + 1 + 6 * 1 + 0, () -> y.cases(1));
        y.forget();
        y.week(3);
        y.nose(0, 12, 0, 8);
        due("24 masked", 1, () -> y.cases(-1));
        due("24 by west, in the gate's cell", 4007, () -> y.cases(0));
        y.week(0);
        due("24 the week as it is now", 0, () -> y.cases(-1));
        due("24 none in the week as it is now", NO_SUCH, () -> y.cases(0));
        y.forget();
        y.nose(0, 12, 0, 17);
        due("24 in week 0 sort 1 masks nothing", 6, () -> y.cases(-1));
        y.week(3);
        due("24 in week 3 it does, but from afar", 2, () -> y.cases(-1));
        due("24 from afar", 4000 + 1 + 6 * 1 + 5, () -> y.cases(1));
        y.nose(0, 12, 1, 0);
        y.week(0);
        due("24 all that was nosed is of one week", 6, () -> y.cases(-1));
        due("24 no sorts", 5, () -> townOf("gate 0 0;").cases(-1));
        due("24 no weights", 0, () -> townOf("gate 0 0;winds 0 0 0 0 0;").cases(-1));
        NoseTown twelve = townOf("town 4 4;sort 9 0 51 0 23 1;" + plants(4, 0).replace(" of 0", "")
            + plants(4, 1).replace(" of 1", "") + plants(4, 2).replace(" of 2", "") + "gate 0 0;winds 1 0 0 0 0;");
        due("24 twelve plants", 1 + 4, () -> twelve.cases(-1));
    }

    private static void promise25() {
        NoseTown x = townOf(STREET);
        due("25 the gate", 0, () -> x.next(12, 0));
        due("25 the group", 2, () -> x.next(12, 1));
        x.nose(0, 12, 0, 20);
        due("25 one left", 1, () -> x.next(0, 1));
        x.nose(0, 12, 0, 0);
        due("25 none fit", -1, () -> x.next(12, 0));
        due("25 none fit, group", -1, () -> x.next(12, 1));
        due("25 no hour", NO_SUCH, () -> x.next(24, 0));
        due("25 no hour -1", NO_SUCH, () -> x.next(-1, 0));
        due("25 no what", NO_SUCH, () -> x.next(0, 2));
        due("25 no what -1", NO_SUCH, () -> x.next(0, -1));
        due("25 no gates", -1, () -> new NoseTown().next(0, 1));
        // from the corner 5 groups of two at most; from the middle of the long side three alike
        NoseTown y = townOf("town 3 2;sort 20 0 51 6 6 1;gate 1 0;gate 0 0;gate 2 1;winds 1 0 0 0 0;");
        due("25 the better gate", 1, () -> y.next(6, 0));
        due("25 its group", 2, () -> y.next(6, 1));
        due("25 at another hour all alike", 0, () -> y.next(7, 0));
        due("25 at another hour, group", 7, () -> y.next(7, 1));
        NoseTown spring = townOf("town 3 2;sort 20 0 0 0 23 1;gate 0 0;winds 1 0 0 0 0;");
        spring.nose(0, 12, 0, 20);
        due("25 in its week", 1, () -> spring.next(12, 1));
        spring.week(1);
        due("25 in another week none fit", -1, () -> spring.next(12, 1));
        due("25 no sorts", 5, () -> townOf("gate 0 0;").next(3, 1));
    }

    private static void promise26() {
        NoseTown x = townOf(DUEL);
        due("26 all", 20, () -> x.days(0, 7, 20));
        due("26 none", 0, () -> x.days(1, 7, 20));
        due("26 no days", 0, () -> x.days(0, 7, 0));
        due("26 the most", 100, () -> x.days(0, 7, 100));
        due("26 too many", ILLEGAL, () -> x.days(0, 7, 101));
        due("26 below 0", ILLEGAL, () -> x.days(0, 7, -1));
        due("26 no garden ahead", NO_SUCH, () -> x.days(2, 7, 101));
        due("26 no garden -1", NO_SUCH, () -> x.days(-1, 7, 0));
        NoseTown y = townOf(DUEL + "winds 1 0 0 0 2;");
        y.turn(1, 2);
        // by west the other one wins: draws of 3 from seed 1 are 16838, 5758, 10113 .. by 3: 2, 1, 0
        due("26 three days", 2, () -> y.days(1, 1, 3));
        due("26 two days", 2, () -> y.days(1, 1, 2));
        due("26 three days, the other", 1, () -> y.days(0, 1, 3));
        NoseTown calm = townOf(DUEL + "winds 0 0 0 0 0;");
        due("26 calm without weights", 9, () -> calm.days(0, 3, 9));
        // calm 10 and 12, by south 14 and 8
        NoseTown still = townOf("town 2 5;sort 20 0 51 0 23 1;sort 22 0 51 0 23 1;garden;garden;plant 0 0 0 of 0;"
            + "plant 1 0 4 of 1;gate 0 2;winds 0 0 0 0 0;");
        due("26 by south it is the first", 0, () -> still.winner(3, 0));
        NoseTown fresh = townOf("town 2 5;sort 20 0 51 0 23 1;sort 22 0 51 0 23 1;garden;garden;plant 0 0 0 of 0;"
            + "plant 1 0 4 of 1;gate 0 2;winds 0 0 0 0 0;");
        due("26 calm, the second one", 9, () -> fresh.days(1, 3, 9));
    }

    private static void promise27And28() {
        NoseTown x = townOf(DUEL + "gate 0 0;");
        due("28 no image", 0, () -> bit(x.restore()));
        x.turn(1, 2);
        x.turn(0, 2);
        x.week(4);
        x.walk(0001, 3);
        x.nose(0, 5, 0, 6);
        x.nose(0, 5, 0, -6);
        x.image();
        x.turn(1, 1);
        x.turn(0, 9);
        x.week(5);
        x.walk(0010, 4);
        x.forget();
        x.nose(1, 5, 0, 8);
        x.nose(1, 5, 0, 8);
        x.nose(1, 5, 0, 99999);
        feedText(x, "?");
        x.town(1);
        x.feed(0, 0, 0, 0, 0);
        due("28 an image", 1, () -> bit(x.restore()));
        due("28 plants", 2, () -> x.plant(1, 3));
        due("28 order", 0001, x::order);
        counts("28", x, 5, 2, 2, 2, 2, 2, 5, 2, 2, 0, 3, 4, 1, 20, 0, 1, 1);
        due("28 the fault's place is none of it", 0, x::fault);
        x.week(50);
        due("28 once more", 1, () -> bit(x.restore()));
        due("28 once more, the week", 4, () -> x.count(11));
        x.turn(1, 0);
        x.image();
        x.turn(1, 1);
        x.restore();
        due("27 in place of another one", 0, () -> x.plant(1, 3));
        NoseTown y = townOf(STREET);
        y.nose(0, 12, 0, 10);
        y.image();
        y.forget();
        y.nose(0, 12, 0, 20);
        y.restore();
        due("28 what was nosed", 2, () -> y.cases(-1));
        NoseTown z = townOf("town 4 2;sort 20 0 0 0 11 1;sort 9 1 1 12 23 1;gate 0 0;gate 3 1;plant 0 0 0;plant 1 3 0;"
            + "winds 1 0 0 0 0;");
        z.week(1);
        z.nose(1, 13, 1, 4);
        due("28 nosed at another gate and hour, another sort, week", 1 + 6 + 4, () -> z.cases(-1));
        z.image();
        z.forget();
        z.week(0);
        z.nose(0, 2, 0, 4);
        due("28 nosed anew", 0, () -> z.cases(-1));
        z.restore();
        due("28 nosed as kept", 1 + 6 + 4, () -> z.cases(-1));
        z.week(0);
        due("28 in the week as it is now", 0, () -> z.cases(-1));
    }

    public static void main(String[] args) {
        promise1();
        promise2();
        promise3();
        promise4();
        promise5();
        promise6And7();
        promise8To10();
        promise11();
        promise12And13();
        promise14And15();
        promise16();
        promise17();
        promise18();
        promise19();
        promise20();
        promise21();
        promise22And23();
        promise24();
        promise25();
        promise26();
        promise27And28();
        end("all promises hold");
    }
}
