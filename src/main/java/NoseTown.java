import java.util.Arrays;
import java.util.NoSuchElementException;

/** Gardens by the blind mayor's nose: who smells best along a walk past gates. */
public final class NoseTown {
    public static final int NONE = -1;

    private static final int SPENT = -2;
    private static final int MOST_BYTES = 700;
    private static final int BYTES_FED = 20;
    private static final int MOST_WIDTH = 8;
    private static final int MOST_CELLS = 64;
    private static final int MOST_SORTS = 6;
    private static final int MOST_GARDENS = 5;
    private static final int MOST_PLANTS = 12;
    private static final int MOST_GATES = 5;
    private static final int MOST_NOSED = 12;
    private static final int MOST_TUNED = 6;
    private static final int MOST_WAYS = 729;
    private static final int MOST_ORDERS = 120;
    private static final int MOST_ROUNDS = 21;
    private static final int MOST_DAYS = 100;
    private static final int MOST_NUMBER = 9999;
    private static final int WINDS = 5;
    private static final int WEEKS = 52;
    private static final int HOURS = 24;
    private static final int OPEN = 0;
    private static final int SHUT = 1;
    private static final int BURNED = 2;

    private final byte[] tape = new byte[MOST_BYTES];
    private int tapeLength;
    private int faultPlace = NONE;
    private final Plan plan = new Plan();
    private final Plan draft = new Plan();
    private final State now = new State();
    private final State kept = new State();
    private boolean isKept;
    private final Reader reader = new Reader(tape, draft);
    private final Blend blend = new Blend(plan, now);
    private final Contest contest = new Contest(plan, now, blend);
    private final Gardener gardener = new Gardener(plan, contest);
    private final Fairness fairness = new Fairness(plan, now, blend);
    private final Unseen unseen = new Unseen(plan, now, blend);

    public NoseTown() {
    }

    public int feed(int a, int b, int c, int d, int e) {
        if (tapeLength + BYTES_FED > MOST_BYTES) {
            return NONE;
        }
        append(a);
        append(b);
        append(c);
        append(d);
        append(e);
        return tapeLength;
    }

    private void append(int number) {
        for (int shift = 24; shift >= 0 && tapeLength < MOST_BYTES; shift -= 8) {
            tape[tapeLength] = (byte) (number >>> shift);
            tapeLength++;
        }
    }

    public int town(int n) throws IllegalArgumentException {
        if (n < 0 || n > tapeLength) {
            throw new IllegalArgumentException("the tape has not so many bytes");
        }
        int found = reader.read(n);
        tapeLength = 0;
        faultPlace = reader.faultPlace;
        if (found != 0) {
            now.refused[0]++;
            return found;
        }
        plan.copyFrom(draft);
        now.reset();
        isKept = false;
        return 0;
    }

    public int fault() {
        return faultPlace;
    }

    public int count(int what) throws NoSuchElementException {
        need(what >= 0 && (what <= 16 || what >= 20 && what < 20 + WINDS));
        if (what >= 20) {
            return plan.weights[what - 20];
        }
        switch (what) {
            case 0: return plan.grid.width;
            case 1: return plan.grid.height;
            case 2: return plan.sortCount;
            case 3: return plan.gardenCount;
            case 4: return plan.plantCount;
            case 5: return plan.gateCount;
            case 6: return plan.fade;
            case 7: return plan.gain;
            case 8: return plan.against;
            case 9: return plan.cold;
            case 10: return now.begin;
            case 11: return now.week;
            case 12: return now.nosedCount;
            case 13: return tapeLength;
            case 14: return now.refused[0];
            case 15: return now.refused[1];
            default: return now.refused[2];
        }
    }

    public int plant(int plant, int what) throws NoSuchElementException {
        need(isBelow(plant, plan.plantCount) && isBelow(what, 4));
        switch (what) {
            case 0: return plan.plantSort[plant];
            case 1: return plan.plantCell[plant];
            case 2: return plan.plantGarden[plant];
            default: return now.how[plant];
        }
    }

    public int turn(int plant, int to) throws NoSuchElementException {
        need(isBelow(plant, plan.plantCount));
        boolean can = to == OPEN || to == SHUT || to == BURNED && plan.isHerb(plant);
        if (!can) {
            now.refused[1]++;
            return NONE;
        }
        int before = now.how[plant];
        now.how[plant] = to;
        return before;
    }

    public boolean week(int week) {
        if (!isBelow(week, WEEKS)) {
            return false;
        }
        now.week = week;
        return true;
    }

    public boolean walk(int order, int begin) {
        if (!isBelow(begin, HOURS) || !isOrder(order)) {
            return false;
        }
        for (int i = 0; i < plan.gateCount; i++) {
            now.row[i] = order >>> 3 * i & 7;
        }
        now.begin = begin;
        return true;
    }

    private boolean isOrder(int order) {
        if (order < 0 || order >>> 3 * plan.gateCount != 0) {
            return false;
        }
        int met = 0;
        for (int i = 0; i < plan.gateCount; i++) {
            met |= 1 << (order >>> 3 * i & 7);
        }
        return met == (1 << plan.gateCount) - 1;
    }

    public int order() {
        return orderOf(now.row, plan.gateCount);
    }

    public int smell(int plant, int cell, int hour, int wind) throws NoSuchElementException {
        need(isBelow(plant, plan.plantCount));
        needAir(cell, hour, wind);
        return blend.plantScent(plant, cell, hour, wind);
    }

    public int smelt(int sort, int cell, int hour, int wind, int what) throws NoSuchElementException {
        need(isBelow(sort, plan.sortCount) && isBelow(what, 3));
        needAir(cell, hour, wind);
        blend.fill(cell, hour, wind);
        if (what == 0) {
            return blend.raw[sort];
        }
        int masked = blend.masked(sort);
        return what == 1 ? masked : blend.noticed(masked);
    }

    public int mark(int garden, int cell, int hour, int wind) throws NoSuchElementException {
        needGarden(garden);
        needAir(cell, hour, wind);
        blend.fill(cell, hour, wind);
        return blend.markOf(garden);
    }

    public int sum(int garden, int wind) throws NoSuchElementException {
        needGarden(garden);
        needWind(wind);
        contest.prepare(wind);
        contest.addUp(wind);
        return contest.sums[garden];
    }

    public int winner(int wind, int what) throws NoSuchElementException {
        needWind(wind);
        need(isBelow(what, 2));
        if (plan.gardenCount == 0) {
            return NONE;
        }
        contest.prepare(wind);
        contest.addUp(wind);
        return what == 0 ? contest.first() : contest.lead();
    }

    public int prize(int garden, int wind, int prize)
            throws NoSuchElementException, IllegalArgumentException {
        needGarden(garden);
        needWind(wind);
        if (prize < 0 || prize > MOST_NUMBER) {
            throw new IllegalArgumentException("a prize is 0 to 9999");
        }
        contest.prepare(wind);
        contest.addUp(wind);
        return contest.prizePart(garden, prize);
    }

    public int odds(int garden, int what) throws NoSuchElementException {
        needGarden(garden);
        need(isBelow(what, 2));
        contest.prepareAll();
        int upper = contest.weightsWon(garden, NONE);
        int lower = plan.allWeights();
        int divisor = greatestDivisor(upper, lower);
        if (divisor == 0) {
            return what == 0 ? 0 : 1;
        }
        return what == 0 ? upper / divisor : lower / divisor;
    }

    public int best(int garden, int what) throws NoSuchElementException {
        needGarden(garden);
        need(isBelow(what, 2));
        if (plan.plantsOf(garden) > MOST_TUNED) {
            return SPENT;
        }
        contest.prepareAll();
        int weights = gardener.tune(garden, NONE);
        return what == 0 ? weights : gardener.tunedRow();
    }

    public int rest() {
        for (int garden = 0; garden < plan.gardenCount; garden++) {
            if (plan.plantsOf(garden) > MOST_TUNED) {
                return SPENT;
            }
        }
        contest.prepareAll();
        return gardener.roundsToRest();
    }

    public int grow(int garden, int what) throws NoSuchElementException {
        needGarden(garden);
        need(isBelow(what, 2));
        contest.prepareAll();
        int weights = gardener.plantOneMore(garden);
        if (weights == NONE) {
            return what == 0 ? NONE : 0;
        }
        return what == 0 ? gardener.newSort * 64 + gardener.newCell : weights;
    }

    public int fair(int what) throws NoSuchElementException {
        need(isBelow(what, 2));
        if (plan.gateCount == 0 || plan.gardenCount == 0 || plan.allWeights() == 0) {
            return NONE;
        }
        int difference = fairness.search();
        return what == 0 ? orderOf(fairness.fairest, plan.gateCount) : difference;
    }

    public int nose(int gate, int hour, int sort, int much) throws NoSuchElementException {
        need(isBelow(gate, plan.gateCount) && isBelow(hour, HOURS) && isBelow(sort, plan.sortCount));
        if (now.nosedCount >= MOST_NOSED || much < 0 || much > MOST_NUMBER) {
            now.refused[2]++;
            return NONE;
        }
        now.note(gate, hour, sort, much);
        return now.nosedCount;
    }

    public int forget() {
        if (now.nosedCount == 0) {
            return NONE;
        }
        now.nosedCount--;
        return now.nosedCount;
    }

    public int cases(int i) throws NoSuchElementException {
        need(i >= NONE);
        unseen.collect();
        if (i == NONE) {
            return unseen.found;
        }
        need(i < unseen.found);
        return unseen.numberOf(i);
    }

    public int next(int hour, int what) throws NoSuchElementException {
        need(isBelow(hour, HOURS) && isBelow(what, 2));
        unseen.collect();
        if (plan.gateCount == 0 || unseen.found == 0) {
            return NONE;
        }
        int group = unseen.chooseGate(hour);
        return what == 0 ? unseen.chosenGate : group;
    }

    public int days(int garden, int seed, int days)
            throws NoSuchElementException, IllegalArgumentException {
        needGarden(garden);
        if (days < 0 || days > MOST_DAYS) {
            throw new IllegalArgumentException("days are 0 to 100");
        }
        contest.prepareAll();
        return contest.daysWon(garden, seed, days);
    }

    public void image() {
        kept.copyFrom(now);
        isKept = true;
    }

    public boolean restore() {
        if (!isKept) {
            return false;
        }
        now.copyFrom(kept);
        return true;
    }

    private static boolean isBelow(int number, int bound) {
        return number >= 0 && number < bound;
    }

    private static void need(boolean there) throws NoSuchElementException {
        if (!there) {
            throw new NoSuchElementException("there is no such thing");
        }
    }

    private void needGarden(int garden) throws NoSuchElementException {
        need(isBelow(garden, plan.gardenCount));
    }

    private static void needWind(int wind) throws NoSuchElementException {
        need(isBelow(wind, WINDS));
    }

    private void needAir(int cell, int hour, int wind) throws NoSuchElementException {
        need(isBelow(cell, plan.grid.cells()) && isBelow(hour, HOURS));
        needWind(wind);
    }

    private static int orderOf(int[] row, int length) {
        int order = 0;
        for (int i = 0; i < length && i < row.length; i++) {
            order |= row[i] << 3 * i;
        }
        return order;
    }

    private static int greatestDivisor(int a, int b) {
        int greater = a;
        int lesser = b;
        for (int step = 0; step < MOST_NUMBER && lesser > 0; step++) {
            int left = greater % lesser;
            greater = lesser;
            lesser = left;
        }
        return greater;
    }

    private static final class Grid {
        int width;
        int height;
        final int[] column = new int[MOST_CELLS];
        final int[] line = new int[MOST_CELLS];
        final boolean[] taken = new boolean[MOST_CELLS];

        /** Columns and lines are kept, so that no step has to divide by the width. */
        void lay(int across, int down) {
            width = across;
            height = down;
            for (int y = 0; y < down && y < MOST_WIDTH; y++) {
                for (int x = 0; x < across && x < MOST_WIDTH; x++) {
                    column[y * across + x] = x;
                    line[y * across + x] = y;
                }
            }
            clearTaken();
        }

        private void clearTaken() {
            for (int cell = 0; cell < MOST_CELLS; cell++) {
                taken[cell] = false;
            }
        }

        int cells() {
            return width * height;
        }

        int steps(int from, int to) {
            return Math.abs(column[to] - column[from]) + Math.abs(line[to] - line[from]);
        }

        /** Below 0, if the cell lies against the wind. */
        int along(int from, int to, int wind) {
            switch (wind) {
                case 1: return line[from] - line[to];
                case 2: return column[to] - column[from];
                case 3: return line[to] - line[from];
                case 4: return column[from] - column[to];
                default: return 0;
            }
        }

        void copyFrom(Grid other) {
            lay(other.width, other.height);
            for (int cell = 0; cell < MOST_CELLS; cell++) {
                taken[cell] = other.taken[cell];
            }
        }
    }

    private static final class Sort {
        int strength;
        int firstWeek;
        int lastWeek;
        int firstHour;
        int lastHour;
        int liking;
        boolean herb;

        boolean smellsIn(int week, int hour) {
            return week >= firstWeek && week <= lastWeek && hour >= firstHour && hour <= lastHour;
        }

        void copyFrom(Sort other) {
            strength = other.strength;
            firstWeek = other.firstWeek;
            lastWeek = other.lastWeek;
            firstHour = other.firstHour;
            lastHour = other.lastHour;
            liking = other.liking;
            herb = other.herb;
        }
    }

    /** The town as the text tells it: nothing here changes until the next text. */
    private static final class Plan {
        final Grid grid = new Grid();
        final Sort[] sorts = new Sort[MOST_SORTS];
        int sortCount;
        int gardenCount;
        int plantCount;
        int gateCount;
        int fade;
        int gain;
        int against;
        int cold;
        final int[] plantSort = new int[MOST_PLANTS];
        final int[] plantCell = new int[MOST_PLANTS];
        final int[] plantGarden = new int[MOST_PLANTS];
        final int[] gateCell = new int[MOST_GATES];
        /** By the masking sort, then the masked one; 0 where neither is. */
        final int[] parts = new int[MOST_SORTS * MOST_SORTS];
        final boolean[] isMasked = new boolean[MOST_SORTS];
        final int[] weights = new int[WINDS];

        Plan() {
            for (int sort = 0; sort < MOST_SORTS; sort++) {
                sorts[sort] = new Sort();
            }
            clear();
        }

        void clear() {
            grid.lay(6, 6);
            sortCount = 0;
            gardenCount = 0;
            plantCount = 0;
            gateCount = 0;
            fade = 5;
            gain = 2;
            against = 2;
            cold = 0;
            Arrays.fill(parts, 0);
            for (int sort = 0; sort < MOST_SORTS; sort++) {
                isMasked[sort] = false;
            }
            Arrays.fill(weights, 1);
        }

        void copyFrom(Plan other) {
            grid.copyFrom(other.grid);
            sortCount = other.sortCount;
            gardenCount = other.gardenCount;
            plantCount = other.plantCount;
            gateCount = other.gateCount;
            fade = other.fade;
            gain = other.gain;
            against = other.against;
            cold = other.cold;
            for (int sort = 0; sort < MOST_SORTS; sort++) {
                sorts[sort].copyFrom(other.sorts[sort]);
                isMasked[sort] = other.isMasked[sort];
            }
            System.arraycopy(other.plantSort, 0, plantSort, 0, MOST_PLANTS);
            System.arraycopy(other.plantCell, 0, plantCell, 0, MOST_PLANTS);
            System.arraycopy(other.plantGarden, 0, plantGarden, 0, MOST_PLANTS);
            System.arraycopy(other.gateCell, 0, gateCell, 0, MOST_GATES);
            System.arraycopy(other.parts, 0, parts, 0, MOST_SORTS * MOST_SORTS);
            System.arraycopy(other.weights, 0, weights, 0, WINDS);
        }

        boolean isHerb(int plant) {
            return sorts[plantSort[plant]].herb;
        }

        int plantsOf(int garden) {
            int own = 0;
            for (int plant = 0; plant < plantCount; plant++) {
                if (plantGarden[plant] == garden) {
                    own++;
                }
            }
            return own;
        }

        int allWeights() {
            int all = 0;
            for (int wind = 0; wind < WINDS; wind++) {
                all += weights[wind];
            }
            return all;
        }

        int scent(int sort, int times, int from, int to, int week, int hour, int wind) {
            Sort kind = sorts[sort];
            int along = grid.along(from, to, wind);
            if (!kind.smellsIn(week, hour) || -along > against) {
                return 0;
            }
            return Math.max(0, kind.strength * times - fade * grid.steps(from, to) + gain * along);
        }
    }

    /** Reads a text into a draft. Once a fault is found, all later steps do nothing. */
    private static final class Reader {
        private static final int END = 0;
        private static final int WORD = 1;
        private static final int NUMBER = 2;
        private static final int SEMICOLON = 3;
        private static final int MINUS = 4;
        private static final int OTHER = 5;

        private final byte[] text;
        private final Plan draft;
        private int length;
        private int kind;
        private int start;
        private int end;
        private int told;
        private int fault;
        int faultPlace;

        Reader(byte[] text, Plan draft) {
            this.text = text;
            this.draft = draft;
        }

        int read(int bytes) {
            length = Math.min(bytes, text.length);
            end = 0;
            told = 0;
            fault = 0;
            faultPlace = NONE;
            draft.clear();
            take();
            for (int line = 0; line <= length && fault == 0 && kind != END; line++) {
                readLine(line == 0);
                take();
            }
            return fault;
        }

        private void readLine(boolean isFirst) {
            if (isWord("town")) {
                readTown(isFirst);
            } else if (isWord("sort")) {
                readSort(false);
            } else if (isWord("herb")) {
                readSort(true);
            } else if (isWord("garden")) {
                readGarden();
            } else if (isWord("plant")) {
                readPlant();
            } else if (isWord("gate")) {
                readGate();
            } else if (isWord("mask")) {
                readMask();
            } else {
                readSetting();
            }
        }

        private void readSetting() {
            if (isWord("fade")) {
                once(1);
                draft.fade = number(0, 20);
            } else if (isWord("gain")) {
                once(2);
                draft.gain = number(0, 9);
            } else if (isWord("against")) {
                once(4);
                draft.against = number(0, 14);
            } else if (isWord("cold")) {
                once(8);
                draft.cold = number(0, 99);
            } else if (isWord("winds")) {
                once(16);
                for (int wind = 0; wind < WINDS; wind++) {
                    draft.weights[wind] = number(0, 99);
                }
            } else {
                fail(1);
            }
            close();
        }

        private void readTown(boolean isFirst) {
            if (!isFirst) {
                fail(4);
            }
            int width = number(2, MOST_WIDTH);
            int height = number(2, MOST_WIDTH);
            draft.grid.lay(width, height);
            close();
        }

        private void readSort(boolean isHerb) {
            if (draft.sortCount >= MOST_SORTS) {
                fail(2);
                return;
            }
            Sort sort = draft.sorts[draft.sortCount];
            sort.herb = isHerb;
            sort.strength = number(1, 99);
            sort.firstWeek = number(0, WEEKS - 1);
            sort.lastWeek = number(sort.firstWeek, WEEKS - 1);
            sort.firstHour = number(0, HOURS - 1);
            sort.lastHour = number(sort.firstHour, HOURS - 1);
            sort.liking = signed(9);
            close();
            draft.sortCount++;
        }

        private void readGarden() {
            if (draft.gardenCount >= MOST_GARDENS) {
                fail(2);
                return;
            }
            close();
            draft.gardenCount++;
        }

        private void readPlant() {
            if (draft.plantCount >= MOST_PLANTS) {
                fail(2);
                return;
            }
            int plant = draft.plantCount;
            draft.plantSort[plant] = known(draft.sortCount);
            int cell = cell();
            if (fault == 0 && draft.grid.taken[cell]) {
                fail(5);
            }
            draft.plantCell[plant] = cell;
            draft.plantGarden[plant] = owner();
            draft.grid.taken[cell] = true;
            draft.plantCount++;
        }

        private int owner() {
            if (fault != 0) {
                return NONE;
            }
            take();
            if (isWord("of")) {
                int garden = known(draft.gardenCount);
                close();
                return garden;
            }
            needSemicolon();
            return NONE;
        }

        private void readGate() {
            if (draft.gateCount >= MOST_GATES) {
                fail(2);
                return;
            }
            draft.gateCell[draft.gateCount] = cell();
            close();
            draft.gateCount++;
        }

        private void readMask() {
            int masking = known(draft.sortCount);
            int masked = known(draft.sortCount);
            int pair = masking * MOST_SORTS + masked;
            if (masking == masked || draft.parts[pair] > 0) {
                fail(5);
            }
            draft.parts[pair] = number(1, 100);
            draft.isMasked[masked] = true;
            close();
        }

        private int cell() {
            int x = number(0, draft.grid.width - 1);
            int y = number(0, draft.grid.height - 1);
            return y * draft.grid.width + x;
        }

        private void once(int setting) {
            if ((told & setting) != 0) {
                fail(4);
            }
            told |= setting;
        }

        /** With a fault it is the least, so that whoever uses it stays within every row. */
        private int number(int least, int most) {
            if (fault != 0) {
                return least;
            }
            take();
            return numberHere(least, most);
        }

        private int numberHere(int least, int most) {
            if (kind != NUMBER) {
                fail(1);
                return least;
            }
            int value = value();
            if (value < least || value > most) {
                fail(2);
                return least;
            }
            return value;
        }

        private int known(int count) {
            if (fault != 0) {
                return 0;
            }
            take();
            int value = numberHere(0, MOST_NUMBER);
            if (value >= count) {
                fail(3);
                return 0;
            }
            return value;
        }

        private int signed(int most) {
            if (fault != 0) {
                return 0;
            }
            take();
            if (kind != MINUS) {
                return numberHere(0, most);
            }
            return -number(0, most);
        }

        /** The number that stands here; of 5 digits or more it is too much for any bound. */
        private int value() {
            if (end - start > 4) {
                return MOST_NUMBER + 1;
            }
            int value = 0;
            for (int i = start; i < end; i++) {
                value = value * 10 + text[i] - '0';
            }
            return value;
        }

        private void close() {
            if (fault == 0) {
                take();
                needSemicolon();
            }
        }

        private void needSemicolon() {
            if (kind != SEMICOLON) {
                fail(1);
            }
        }

        private void fail(int code) {
            if (fault == 0) {
                fault = code;
                faultPlace = start;
            }
        }

        private boolean isWord(String word) {
            if (kind != WORD || end - start != word.length()) {
                return false;
            }
            for (int i = 0; i < word.length(); i++) {
                if (text[start + i] != word.charAt(i)) {
                    return false;
                }
            }
            return true;
        }

        private void take() {
            while (end < length && (text[end] == 32 || text[end] == 10)) {
                end++;
            }
            start = end;
            if (end >= length) {
                kind = END;
                return;
            }
            kind = kindOf(text[end]);
            end++;
            if (kind == WORD || kind == NUMBER) {
                while (end < length && kindOf(text[end]) == kind) {
                    end++;
                }
            }
        }

        private static int kindOf(int sign) {
            if (sign >= 'a' && sign <= 'z') {
                return WORD;
            }
            if (sign >= '0' && sign <= '9') {
                return NUMBER;
            }
            return sign == ';' ? SEMICOLON : sign == '-' ? MINUS : OTHER;
        }
    }

    /** What calls change in a town, and an image keeps. */
    private static final class State {
        final int[] how = new int[MOST_PLANTS];
        final int[] row = new int[MOST_GATES];
        int begin;
        int week;
        int nosedCount;
        final int[] nosedGate = new int[MOST_NOSED];
        final int[] nosedHour = new int[MOST_NOSED];
        final int[] nosedSort = new int[MOST_NOSED];
        final int[] nosedMuch = new int[MOST_NOSED];
        final int[] refused = new int[3];

        State() {
            reset();
        }

        /** What was refused stays counted: a new town does not change it. */
        void reset() {
            Arrays.fill(how, OPEN);
            for (int i = 0; i < MOST_GATES; i++) {
                row[i] = i;
            }
            begin = 12;
            week = 0;
            nosedCount = 0;
        }

        void note(int gate, int hour, int sort, int much) {
            nosedGate[nosedCount] = gate;
            nosedHour[nosedCount] = hour;
            nosedSort[nosedCount] = sort;
            nosedMuch[nosedCount] = much;
            nosedCount++;
        }

        void copyFrom(State other) {
            begin = other.begin;
            week = other.week;
            nosedCount = other.nosedCount;
            System.arraycopy(other.how, 0, how, 0, MOST_PLANTS);
            System.arraycopy(other.row, 0, row, 0, MOST_GATES);
            System.arraycopy(other.nosedGate, 0, nosedGate, 0, MOST_NOSED);
            System.arraycopy(other.nosedHour, 0, nosedHour, 0, MOST_NOSED);
            System.arraycopy(other.nosedSort, 0, nosedSort, 0, MOST_NOSED);
            System.arraycopy(other.nosedMuch, 0, nosedMuch, 0, MOST_NOSED);
            System.arraycopy(other.refused, 0, refused, 0, 3);
        }
    }

    private static final class Blend {
        private final Plan plan;
        private final State now;
        final int[] raw = new int[MOST_SORTS];
        final int[] own = new int[MOST_GARDENS * MOST_SORTS];

        Blend(Plan plan, State now) {
            this.plan = plan;
            this.now = now;
        }

        void clear() {
            Arrays.fill(raw, 0);
            Arrays.fill(own, 0);
        }

        void add(int sort, int garden, int much) {
            raw[sort] += much;
            if (garden != NONE) {
                own[garden * MOST_SORTS + sort] += much;
            }
        }

        void fill(int cell, int hour, int wind) {
            clear();
            for (int plant = 0; plant < plan.plantCount; plant++) {
                int much = plantScent(plant, cell, hour, wind);
                add(plan.plantSort[plant], plan.plantGarden[plant], much);
            }
        }

        int plantScent(int plant, int cell, int hour, int wind) {
            if (now.how[plant] == SHUT) {
                return 0;
            }
            int times = now.how[plant] == BURNED ? 3 : 1;
            return plan.scent(plan.plantSort[plant], times, plan.plantCell[plant], cell, now.week, hour, wind);
        }

        int masked(int sort) {
            int left = raw[sort];
            if (!plan.isMasked[sort]) {
                return left;
            }
            for (int masking = 0; masking < plan.sortCount; masking++) {
                left -= plan.parts[masking * MOST_SORTS + sort] * raw[masking] / 100;
            }
            return left < 0 ? 0 : left;
        }

        int noticed(int masked) {
            return masked < plan.cold ? 0 : masked;
        }

        int markOf(int garden) {
            int mark = 0;
            for (int sort = 0; sort < plan.sortCount; sort++) {
                mark += likedShare(garden, sort, noticed(masked(sort)));
            }
            return mark;
        }

        private int likedShare(int garden, int sort, int noticed) {
            int mine = own[garden * MOST_SORTS + sort];
            int all = raw[sort];
            return mine == 0 || all <= 0 ? 0 : plan.sorts[sort].liking * (noticed * mine / all);
        }

        void addMarks(int[] sums) {
            for (int sort = 0; sort < plan.sortCount; sort++) {
                int noticed = noticed(masked(sort));
                for (int garden = 0; noticed > 0 && garden < plan.gardenCount; garden++) {
                    sums[garden] += likedShare(garden, sort, noticed);
                }
            }
        }

        void saveRaw(int[] rows, int row) {
            System.arraycopy(raw, 0, rows, row * MOST_SORTS, MOST_SORTS);
        }

        void loadRaw(int[] rows, int row) {
            System.arraycopy(rows, row * MOST_SORTS, raw, 0, MOST_SORTS);
        }
    }

    /** The walk, by a copy of how plants are, so that ways can be tried and the town stays as it is. */
    private static final class Contest {
        private final Plan plan;
        private final State now;
        private final Blend blend;
        private int plants;
        private final int[] sortOf = new int[MOST_PLANTS];
        private final int[] gardenOf = new int[MOST_PLANTS];
        final int[] how = new int[MOST_PLANTS];
        private final int[] fresh = new int[WINDS * MOST_GATES * MOST_PLANTS];
        private final int[] burnt = new int[WINDS * MOST_GATES * MOST_PLANTS];
        final int[] sums = new int[MOST_GARDENS];
        private final int[] leaders = new int[WINDS];

        Contest(Plan plan, State now, Blend blend) {
            this.plan = plan;
            this.now = now;
            this.blend = blend;
        }

        void prepareAll() {
            copyPlants();
            for (int plant = 0; plant < plants; plant++) {
                carryAll(plant, plan.plantCell[plant]);
            }
        }

        void prepare(int wind) {
            copyPlants();
            for (int plant = 0; plant < plants; plant++) {
                carry(plant, plan.plantCell[plant], wind);
            }
        }

        private void copyPlants() {
            plants = plan.plantCount;
            System.arraycopy(plan.plantSort, 0, sortOf, 0, MOST_PLANTS);
            System.arraycopy(plan.plantGarden, 0, gardenOf, 0, MOST_PLANTS);
            System.arraycopy(now.how, 0, how, 0, MOST_PLANTS);
        }

        /** Only where there are fewer than 12 plants; it takes the place of the one tried before. */
        void tryPlant(int sort, int cell, int garden) {
            int plant = plan.plantCount;
            plants = plant + 1;
            sortOf[plant] = sort;
            gardenOf[plant] = garden;
            how[plant] = OPEN;
            carryAll(plant, cell);
        }

        private void carryAll(int plant, int cell) {
            // calm without a weight counts too: if no wind has one, days are calm
            for (int wind = 0; wind < WINDS; wind++) {
                if (wind == 0 || plan.weights[wind] > 0) {
                    carry(plant, cell, wind);
                }
            }
        }

        private void carry(int plant, int cell, int wind) {
            int sort = sortOf[plant];
            for (int i = 0; i < plan.gateCount; i++) {
                int place = placeOf(wind, i) + plant;
                int gate = plan.gateCell[now.row[i]];
                int hour = (now.begin + i) % HOURS;
                fresh[place] = plan.scent(sort, 1, cell, gate, now.week, hour, wind);
                burnt[place] = plan.scent(sort, 3, cell, gate, now.week, hour, wind);
            }
        }

        private static int placeOf(int wind, int gate) {
            return (wind * MOST_GATES + gate) * MOST_PLANTS;
        }

        boolean everSmells(int plant) {
            for (int wind = 0; wind < WINDS; wind++) {
                for (int i = 0; plan.weights[wind] > 0 && i < plan.gateCount; i++) {
                    int place = placeOf(wind, i) + plant;
                    if (fresh[place] > 0 || burnt[place] > 0) {
                        return true;
                    }
                }
            }
            return false;
        }

        void addUp(int wind) {
            Arrays.fill(sums, 0);
            for (int i = 0; i < plan.gateCount; i++) {
                int place = placeOf(wind, i);
                blend.clear();
                for (int plant = 0; plant < plants; plant++) {
                    int state = how[plant];
                    int much = state == SHUT ? 0 : state == OPEN ? fresh[place + plant] : burnt[place + plant];
                    if (much > 0) {
                        blend.add(sortOf[plant], gardenOf[plant], much);
                    }
                }
                blend.addMarks(sums);
            }
        }

        /** These three go by the sums that addUp() left; a town without gardens has none to go by. */
        int first() {
            int first = 0;
            for (int garden = 1; garden < plan.gardenCount; garden++) {
                if (sums[garden] > sums[first]) {
                    first = garden;
                }
            }
            return first;
        }

        int lead() {
            int first = first();
            int second = NONE;
            for (int garden = 0; garden < plan.gardenCount; garden++) {
                if (garden != first && (second == NONE || sums[garden] > sums[second])) {
                    second = garden;
                }
            }
            return second == NONE ? 0 : sums[first] - sums[second];
        }

        int prizePart(int garden, int prize) {
            long all = 0;
            for (int each = 0; each < plan.gardenCount; each++) {
                all += Math.max(0, sums[each]);
            }
            int left = prize;
            int part = 0;
            for (int each = 0; all > 0 && each < plan.gardenCount; each++) {
                int has = (int) ((long) prize * Math.max(0, sums[each]) / all);
                left -= has;
                if (each == garden) {
                    part = has;
                }
            }
            return garden == first() ? part + left : part;
        }

        /** It stops early where the weights can't be above the floor any more. */
        int weightsWon(int garden, int floor) {
            int won = 0;
            int left = plan.allWeights();
            for (int wind = 0; wind < WINDS && won + left > floor; wind++) {
                int weight = plan.weights[wind];
                left -= weight;
                if (weight > 0) {
                    addUp(wind);
                    won += first() == garden ? weight : 0;
                }
            }
            return won;
        }

        int daysWon(int garden, int seed, int days) {
            int all = plan.allWeights();
            for (int wind = 0; wind < WINDS; wind++) {
                if (wind == 0 || plan.weights[wind] > 0) {
                    addUp(wind);
                    leaders[wind] = first();
                }
            }
            int drawn = seed;
            int won = 0;
            for (int day = 0; day < days; day++) {
                int wind = 0;
                if (all > 0) {
                    drawn = drawn * 1103515245 + 12345;
                    wind = windAt((drawn >>> 16 & 0x7fff) % all);
                }
                if (leaders[wind] == garden) {
                    won++;
                }
            }
            return won;
        }

        private int windAt(int draw) {
            int together = 0;
            for (int wind = 0; wind < WINDS; wind++) {
                together += plan.weights[wind];
                if (together > draw) {
                    return wind;
                }
            }
            return 0;
        }
    }

    private static final class Gardener {
        private final Plan plan;
        private final Contest contest;
        private int mineCount;
        private final int[] mine = new int[MOST_TUNED];
        private final int[] choices = new int[MOST_TUNED];
        private final int[] before = new int[MOST_TUNED];
        private final int[] tuned = new int[MOST_TUNED];
        private final int[] seen = new int[MOST_ROUNDS];
        int newSort;
        int newCell;

        Gardener(Plan plan, Contest contest) {
            this.plan = plan;
            this.contest = contest;
        }

        /** The floor itself, if no way has more weights. */
        int tune(int garden, int floor) {
            listMine(garden);
            int all = plan.allWeights();
            int most = floor;
            boolean isMore = true;
            for (int way = 0; way < MOST_WAYS && isMore && most < all; way++) {
                int won = contest.weightsWon(garden, most);
                if (won > most) {
                    most = won;
                    keepRow();
                }
                isMore = stepWay();
            }
            return most;
        }

        private void listMine(int garden) {
            mineCount = 0;
            for (int plant = 0; plant < plan.plantCount && mineCount < MOST_TUNED; plant++) {
                if (plan.plantGarden[plant] == garden) {
                    mine[mineCount] = plant;
                    // one that nobody smells changes nothing: the first way, open, stands for all of its ways
                    choices[mineCount] = !contest.everSmells(plant) ? 1 : plan.isHerb(plant) ? 3 : 2;
                    before[mineCount] = contest.how[plant];
                    contest.how[plant] = OPEN;
                    mineCount++;
                }
            }
        }

        private void keepRow() {
            for (int i = 0; i < mineCount; i++) {
                tuned[i] = contest.how[mine[i]];
            }
        }

        private boolean stepWay() {
            for (int i = mineCount - 1; i >= 0; i--) {
                if (contest.how[mine[i]] + 1 < choices[i]) {
                    contest.how[mine[i]]++;
                    return true;
                }
                contest.how[mine[i]] = OPEN;
            }
            return false;
        }

        int tunedRow() {
            int row = 0;
            for (int i = 0; i < mineCount; i++) {
                row = row * 3 + tuned[i];
            }
            return row;
        }

        int roundsToRest() {
            for (int rounds = 0; rounds < MOST_ROUNDS; rounds++) {
                seen[rounds] = allTurned();
                // what comes back once comes back for ever
                if (isSeenBefore(rounds)) {
                    return NONE;
                }
                if (!turnRound()) {
                    return rounds;
                }
            }
            return NONE;
        }

        private int allTurned() {
            int all = 0;
            for (int plant = 0; plant < plan.plantCount; plant++) {
                all = all * 3 + contest.how[plant];
            }
            return all;
        }

        private boolean isSeenBefore(int rounds) {
            for (int round = 0; round < rounds; round++) {
                if (seen[round] == seen[rounds]) {
                    return true;
                }
            }
            return false;
        }

        private boolean turnRound() {
            boolean isTurned = false;
            for (int garden = 0; garden < plan.gardenCount; garden++) {
                int weights = contest.weightsWon(garden, NONE);
                boolean isBetter = tune(garden, weights) > weights;
                for (int i = 0; i < mineCount; i++) {
                    contest.how[mine[i]] = isBetter ? tuned[i] : before[i];
                }
                isTurned |= isBetter;
            }
            return isTurned;
        }

        int plantOneMore(int garden) {
            int all = plan.allWeights();
            int most = NONE;
            if (plan.plantCount >= MOST_PLANTS) {
                return NONE;
            }
            for (int sort = 0; sort < plan.sortCount; sort++) {
                for (int cell = 0; cell < plan.grid.cells() && most < all; cell++) {
                    if (plan.grid.taken[cell]) {
                        continue;
                    }
                    contest.tryPlant(sort, cell, garden);
                    int won = contest.weightsWon(garden, most);
                    if (won > most) {
                        most = won;
                        newSort = sort;
                        newCell = cell;
                    }
                }
            }
            return most;
        }
    }

    private static final class Fairness {
        private final Plan plan;
        private final State now;
        private final Blend blend;
        private final int[] row = new int[MOST_GATES];
        final int[] fairest = new int[MOST_GATES];
        private final int[] sums = new int[MOST_GARDENS];
        private final int[] marks = new int[WINDS * MOST_GATES * MOST_GATES * MOST_GARDENS];

        Fairness(Plan plan, State now, Blend blend) {
            this.plan = plan;
            this.now = now;
            this.blend = blend;
        }

        int search() {
            markAll();
            for (int i = 0; i < plan.gateCount; i++) {
                row[i] = i;
            }
            int least = NONE;
            boolean isMore = true;
            for (int way = 0; way < MOST_ORDERS && isMore; way++) {
                int difference = greatestDifference();
                if (least == NONE || difference < least) {
                    least = difference;
                    System.arraycopy(row, 0, fairest, 0, MOST_GATES);
                }
                isMore = stepRow();
            }
            return least;
        }

        /** Marks go by the gate and its place in an order alone: so they are kept for all orders. */
        private void markAll() {
            for (int wind = 0; wind < WINDS; wind++) {
                for (int i = 0; plan.weights[wind] > 0 && i < plan.gateCount; i++) {
                    for (int gate = 0; gate < plan.gateCount; gate++) {
                        blend.fill(plan.gateCell[gate], (now.begin + i) % HOURS, wind);
                        keepMarks(placeOf(wind, i, gate));
                    }
                }
            }
        }

        private void keepMarks(int place) {
            Arrays.fill(sums, 0);
            blend.addMarks(sums);
            System.arraycopy(sums, 0, marks, place, MOST_GARDENS);
        }

        private static int placeOf(int wind, int i, int gate) {
            return ((wind * MOST_GATES + i) * MOST_GATES + gate) * MOST_GARDENS;
        }

        private int greatestDifference() {
            int greatest = 0;
            for (int wind = 0; wind < WINDS; wind++) {
                if (plan.weights[wind] > 0) {
                    greatest = Math.max(greatest, difference(wind));
                }
            }
            return greatest;
        }

        private int difference(int wind) {
            int most = 0;
            int least = 0;
            for (int garden = 0; garden < plan.gardenCount; garden++) {
                int sum = 0;
                for (int i = 0; i < plan.gateCount; i++) {
                    sum += marks[placeOf(wind, i, row[i]) + garden];
                }
                most = garden == 0 ? sum : Math.max(most, sum);
                least = garden == 0 ? sum : Math.min(least, sum);
            }
            return most - least;
        }

        private boolean stepRow() {
            int i = plan.gateCount - 2;
            while (i >= 0 && row[i] > row[i + 1]) {
                i--;
            }
            if (i < 0) {
                return false;
            }
            int j = plan.gateCount - 1;
            while (j > i && row[j] < row[i]) {
                j--;
            }
            exchange(i, j);
            for (int low = i + 1, high = plan.gateCount - 1; low < high; low++, high--) {
                exchange(low, high);
            }
            return true;
        }

        private void exchange(int i, int j) {
            int gate = row[i];
            row[i] = row[j];
            row[j] = gate;
        }
    }

    private static final class Unseen {
        private static final int MOST_CASES = WINDS * (1 + MOST_SORTS * MOST_CELLS);

        private final Plan plan;
        private final State now;
        private final Blend blend;
        /** The wind, the sort and 1 (0 where nothing more grows), the cell, 8 bits each: no divisor to take apart. */
        private final int[] fits = new int[MOST_CASES];
        int found;
        int chosenGate;
        /** Raw smells of what is seen, kept since only one sort's differs by a case: rows by what was nosed, or winds. */
        private final int[] seen = new int[MOST_NOSED * MOST_SORTS];
        private final Groups groups = new Groups(MOST_CASES);

        Unseen(Plan plan, State now, Blend blend) {
            this.plan = plan;
            this.now = now;
            this.blend = blend;
        }

        void collect() {
            found = 0;
            for (int wind = 0; wind < WINDS; wind++) {
                if (plan.weights[wind] > 0) {
                    collectBy(wind);
                }
            }
        }

        private void collectBy(int wind) {
            for (int i = 0; i < now.nosedCount; i++) {
                int cell = plan.gateCell[now.nosedGate[i]];
                blend.fill(cell, now.nosedHour[i], wind);
                blend.saveRaw(seen, i);
            }
            tryCase(wind, NONE, 0);
            for (int sort = 0; sort < plan.sortCount; sort++) {
                for (int cell = 0; cell < plan.grid.cells(); cell++) {
                    if (!plan.grid.taken[cell]) {
                        tryCase(wind, sort, cell);
                    }
                }
            }
        }

        private void tryCase(int wind, int sort, int cell) {
            for (int i = 0; i < now.nosedCount; i++) {
                int gate = plan.gateCell[now.nosedGate[i]];
                blend.loadRaw(seen, i);
                if (sort != NONE) {
                    blend.raw[sort] += plan.scent(sort, 1, cell, gate, now.week, now.nosedHour[i], wind);
                }
                int masked = blend.masked(now.nosedSort[i]);
                if (blend.noticed(masked) != now.nosedMuch[i]) {
                    return;
                }
            }
            if (found < MOST_CASES) {
                fits[found] = wind << 16 | sort + 1 << 8 | cell;
                found++;
            }
        }

        int numberOf(int i) {
            int wind = fits[i] >>> 16;
            int sort = (fits[i] >>> 8 & 255) - 1;
            int cell = fits[i] & 255;
            return wind * 1000 + (sort == NONE ? 0 : 1 + plan.grid.cells() * sort + cell);
        }

        int chooseGate(int hour) {
            int least = NONE;
            for (int gate = 0; gate < plan.gateCount; gate++) {
                int greatest = greatestGroup(plan.gateCell[gate], hour);
                if (least == NONE || greatest < least) {
                    least = greatest;
                    chosenGate = gate;
                }
            }
            return least;
        }

        private int greatestGroup(int gate, int hour) {
            for (int wind = 0; wind < WINDS; wind++) {
                if (plan.weights[wind] > 0) {
                    blend.fill(gate, hour, wind);
                    blend.saveRaw(seen, wind);
                }
            }
            groups.clear();
            for (int i = 0; i < found; i++) {
                int wind = fits[i] >>> 16;
                int sort = (fits[i] >>> 8 & 255) - 1;
                blend.loadRaw(seen, wind);
                if (sort != NONE) {
                    blend.raw[sort] += plan.scent(sort, 1, fits[i] & 255, gate, now.week, hour, wind);
                }
                groups.add(smellsFrom(0), smellsFrom(3));
            }
            return groups.greatest;
        }

        /** Three sorts fit one number: 13 plants smell no stronger than 8191. */
        private long smellsFrom(int firstSort) {
            long all = 0;
            for (int sort = firstSort; sort < firstSort + 3 && sort < plan.sortCount; sort++) {
                all = all << 13 | blend.noticed(blend.masked(sort));
            }
            return all;
        }
    }

    /** Groups stand in chains behind slots, by their index and 1, so that 0 can end a chain. */
    private static final class Groups {
        private static final int SLOTS = 1024;

        private final int[] slots = new int[SLOTS];
        private final long[] upper;
        private final long[] lower;
        private final int[] size;
        private final int[] chain;
        private int count;
        int greatest;

        Groups(int most) {
            upper = new long[most];
            lower = new long[most];
            size = new int[most];
            chain = new int[most];
        }

        void clear() {
            Arrays.fill(slots, 0);
            count = 0;
            greatest = 0;
        }

        void add(long up, long low) {
            long mixed = up * 31 + low;
            int slot = (int) (mixed ^ mixed >>> 10 ^ mixed >>> 20 ^ mixed >>> 30) & SLOTS - 1;
            int group = slots[slot];
            for (int met = 0; met < count && group > 0 && !isAt(group - 1, up, low); met++) {
                group = chain[group - 1];
            }
            if (group == 0) {
                group = open(slot, up, low);
            }
            if (group > 0) {
                size[group - 1]++;
                greatest = Math.max(greatest, size[group - 1]);
            }
        }

        private boolean isAt(int index, long up, long low) {
            return upper[index] == up && lower[index] == low;
        }

        private int open(int slot, long up, long low) {
            if (count >= size.length) {
                return 0;
            }
            upper[count] = up;
            lower[count] = low;
            size[count] = 0;
            chain[count] = slots[slot];
            count++;
            slots[slot] = count;
            return count;
        }
    }
}
