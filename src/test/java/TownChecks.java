import java.util.NoSuchElementException;
import java.util.function.Consumer;
import java.util.function.Supplier;

/** What the hand-worked tests share: towns told as texts, answers held against those that are due. */
abstract class TownChecks {
    /** What a call answers that throws. */
    static final long NO_SUCH = Long.MIN_VALUE;
    static final long ILLEGAL = Long.MIN_VALUE + 1;
    private static final long ANOTHER = Long.MIN_VALUE + 2;

    /** Two gardens, a gate between them: the first one's plant smells 10 there if calm, the other's 0. */
    static final String DUEL = "town 5 2;sort 20 0 51 0 23 3;herb 10 0 51 0 23 1;garden;garden;"
        + "plant 0 0 0 of 0;plant 1 4 0 of 1;gate 2 0;";
    static final String SORT = "sort 5 0 0 0 0 1;";
    static final int FULL_TAPE = 700;

    private static int wrong;
    private static String sentence = "";

    interface Call {
        long answer();
    }

    /** The sentence of the document that the next answers are due by. */
    static void sentence(String promise, String words) {
        sentence = promise + " \"" + words + "\": ";
    }

    static void due(String what, long want, Call call) {
        long got = answerOf(call);
        if (got != want) {
            wrong++;
            System.out.println(sentence + what + " answered " + named(got) + ", due is " + named(want));
        }
    }

    static long answerOf(Call call) {
        try {
            return call.answer();
        } catch (RuntimeException e) {
            if (e.getClass() == NoSuchElementException.class) {
                return NO_SUCH;
            }
            if (e.getClass() == IllegalArgumentException.class) {
                return ILLEGAL;
            }
            e.printStackTrace(System.out);
            return ANOTHER;
        }
    }

    private static String named(long answer) {
        if (answer == NO_SUCH) {
            return "NoSuchElementException";
        }
        if (answer == ILLEGAL) {
            return "IllegalArgumentException";
        }
        return answer == ANOTHER ? "another exception" : String.valueOf(answer);
    }

    static void dueText(String what, String want, String got) {
        if (!got.equals(want)) {
            wrong++;
            System.out.println(sentence + what + " is " + got + ", due is " + want);
        }
    }

    static long bit(boolean b) {
        return b ? 1 : 0;
    }

    static void feedText(NoseTown x, String text) {
        StringBuilder padded = new StringBuilder(text);
        while (padded.length() % 20 != 0) {
            padded.append(' ');
        }
        for (int i = 0; i < padded.length(); i += 20) {
            int[] n = new int[5];
            for (int j = 0; j < 20; j++) {
                n[j / 4] = n[j / 4] << 8 | padded.charAt(i + j) & 255;
            }
            x.feed(n[0], n[1], n[2], n[3], n[4]);
        }
    }

    static NoseTown townOf(String text) {
        NoseTown x = new NoseTown();
        tell(x, text);
        return x;
    }

    static void tell(NoseTown x, String text) {
        feedText(x, text);
        due("town of: " + text, 0, () -> x.town(text.length()));
    }

    static void counts(String name, NoseTown x, int... want) {
        for (int what = 0; what < want.length; what++) {
            int asked = what;
            due(name + " count " + what, want[what], () -> x.count(asked));
        }
    }

    static void faulty(String text, int fault, int place) {
        NoseTown x = new NoseTown();
        feedText(x, text);
        due("3 fault of: " + text, fault, () -> x.town(text.length()));
        due("4 place of: " + text, place, x::fault);
        due("3 status by: " + text, fault == 0 ? 0 : 1, () -> x.count(14));
    }

    static void fits(String text) {
        faulty(text, 0, NoseTown.NONE);
    }

    /** All that cheap calls tell of an object, but for the counts left out. */
    static String told(NoseTown x, int... leftOut) {
        StringBuilder all = new StringBuilder();
        for (int what = 0; what <= 24; what++) {
            all.append(isAmong(what, leftOut) || what > 16 && what < 20 ? "_" : String.valueOf(x.count(what))).append(' ');
        }
        for (int plant = 0; plant < x.count(4); plant++) {
            all.append("plant ");
            for (int what = 0; what < 4; what++) {
                all.append(x.plant(plant, what)).append(' ');
            }
        }
        return all.append("order ").append(x.order()).append(" fault ").append(x.fault()).append(" cases ")
            .append(x.cases(NoseTown.NONE)).toString();
    }

    private static boolean isAmong(int what, int[] some) {
        for (int each : some) {
            if (each == what) {
                return true;
            }
        }
        return false;
    }

    /** A call that answers as is due and changes nothing, not even the image, but for the counts left out. */
    static void changesNothing(String what, Supplier<NoseTown> made, long want, ToCall call, int... leftOut) {
        NoseTown asked = made.get();
        NoseTown left = made.get();
        due(what, want, () -> call.of(asked));
        dueText("what stands behind " + what, told(left, leftOut), told(asked, leftOut));
        due("an image behind " + what, bit(left.restore()), () -> bit(asked.restore()));
        dueText("the image behind " + what, told(left, 13), told(asked, 13));
    }

    interface ToCall {
        long of(NoseTown x);
    }

    static void each(int[] numbers, Consumer<Integer> check) {
        for (int number : numbers) {
            check.accept(number);
        }
    }

    /** Numbers that are none of 0 to count - 1: beside it and as far off as an int can be. */
    static int[] beyond(int count) {
        return new int[] {-1, count, count + 1, Integer.MIN_VALUE, Integer.MAX_VALUE};
    }

    static void end(String holds) {
        System.out.println(wrong == 0 ? holds : wrong + " answers are not as due");
        if (wrong != 0) {
            System.exit(1);
        }
    }
}
