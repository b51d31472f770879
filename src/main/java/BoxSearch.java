import java.util.Arrays;

/** Boxes to open at a price, as ../shared/DOC.md tells it; README.md says how to use it. */
public final class BoxSearch {
    private static final int NO_SUCH = -1;
    private static final int CANNOT = -3;
    private static final int NONE = -4;
    private static final int NOTHING_HELD = -11;
    private static final int OTHER_KIND = -12;
    private static final int NO_PLACE = -13;
    private static final int BELOW_ZERO = -14;
    private static final int NO_FAILURE = -15;
    private static final long REFUSED = -4611686018427387904L;

    private static final int MOST_BOXES = 5;
    private static final int MOST_STEPS = 4;
    private static final int MOST_PRICE = 999;
    private static final int MOST_BELL = 99;
    /** Each box is peeped at once and opened once. */
    private static final int MOST_ACTS = 2 * MOST_BOXES;
    /** All worths of all steps, and 0. */
    private static final int MOST_RANKS = MOST_BOXES * MOST_STEPS + 1;

    private static final int SHELVES = 8;
    private static final int LONGEST_ROW = 120;
    private static final int HOLDS_NOTHING = 0;
    private static final int HOLDS_BOX = 1;
    private static final int HOLDS_ROW = 2;
    private static final int BYTES = 0;
    private static final int SHORTS = 1;
    private static final int INTS = 2;

    private final Told told = new Told();
    private final Place place = new Place();
    private final Told imageTold = new Told();
    private final Place imagePlace = new Place();
    private boolean imageTaken;
    private final Reader reader = new Reader();
    private final Plan plan = new Plan(told);
    private final Street walk = new Street(told);

    private final int[] holds = new int[SHELVES];
    private final Box[] shelfBoxes = new Box[SHELVES];
    private final int[][] rows = new int[SHELVES][LONGEST_ROW];
    private final int[] sorts = new int[SHELVES];
    private final int[] sizes = new int[SHELVES];

    public BoxSearch() {
    }

    // ---- texts, boxes

    public int text(int d) {
        if (!isShelf(d)) {
            return NO_SUCH;
        }
        if (holds[d] == HOLDS_NOTHING) {
            return NOTHING_HELD;
        }
        if (!isByteRow(d)) {
            return OTHER_KIND;
        }
        int before = told.size;
        int answer = reader.read(rows[d], sizes[d], told);
        if (answer > 0) {
            plan.forget();
        }
        if (told.size > before) {
            place.clear();
        }
        return answer;
    }

    public int box(int box, int what) {
        if (!told.has(box)) {
            return NO_SUCH;
        }
        Box it = told.boxes[box];
        switch (what) {
            case 0: return it.kind();
            case 1: return it.cost;
            case 2: return it.hours;
            case 3: return it.steps();
            case 4: return it.extra();
            case 5: return told.kinOf[box] < 0 ? NONE : told.kinOf[box];
            default: return NO_SUCH;
        }
    }

    public int step(int box, int i, int what) {
        if (!isStep(box, i)) {
            return NO_SUCH;
        }
        switch (what) {
            case 0: return told.boxes[box].worths[i];
            case 1: return told.boxes[box].chances[i];
            case 2: return told.otherChances[box * MOST_STEPS + i];
            default: return NO_SUCH;
        }
    }

    public int price(int box, int n) {
        if (!told.has(box) || n < 0 || n > MOST_PRICE) {
            return NO_SUCH;
        }
        int before = told.boxes[box].cost;
        told.reprice(box, n);
        plan.forget();
        return before;
    }

    public int bell(int n) {
        if (n < 0 || n > MOST_BELL) {
            return NO_SUCH;
        }
        int before = told.latestHour;
        told.latestHour = n;
        plan.forget();
        return before;
    }

    // ---- the place

    public int is(int box) {
        return told.has(box) ? place.how[box] : NO_SUCH;
    }

    public int may(int box) {
        if (!told.has(box)) {
            return NO_SUCH;
        }
        return told.mayOpen(place.packed(told), box) ? 1 : 0;
    }

    public int open(int box, int step) {
        if (!isStep(box, step)) {
            return NO_SUCH;
        }
        int code = place.packed(told);
        if (!told.mayOpen(code, box) || told.chanceAt(code, box, step) == 0) {
            return CANNOT;
        }
        place.shown[box] = step;
        place.move(box, step == 0 ? Place.OPEN_FIRST : Place.OPEN_OTHER);
        return has();
    }

    public int peep(int box, boolean good) {
        if (!told.has(box)) {
            return NO_SUCH;
        }
        Box it = told.boxes[box];
        boolean can = it.canPeep() && place.how[box] == Place.SHUT
            && told.mayOpen(place.packed(told), box) && (good || it.chances[0] < 100);
        if (!can) {
            return CANNOT;
        }
        place.move(box, good ? Place.PEEPED_GOOD : Place.PEEPED_NOT);
        return 1;
    }

    public int undo() {
        if (place.acts == 0) {
            return CANNOT;
        }
        place.moveBack();
        return place.acts;
    }

    public int at(int what) {
        switch (what) {
            case 0: return place.digits();
            case 1: return has();
            case 2: return told.spentOn(told.openOnes(place.packed(told)));
            case 3: return place.acts;
            default: return NO_SUCH;
        }
    }

    public long mass() {
        return told.massAt(place.packed(told));
    }

    // ---- numbers, plans

    public long number(int box, int part) {
        if (!told.has(box) || part < 0 || part > 1) {
            return REFUSED;
        }
        int which = told.numberAt(place.packed(told), box);
        return part == 0 ? told.numberTops[which] : told.numberFeet[which];
    }

    public int rule() {
        int opened = plan.ruleAt(place.packed(told), place.rank(told));
        return opened < 0 ? NONE : opened;
    }

    public long ruleMean() {
        return plan.ruleMeanAt(place.packed(told), place.rank(told));
    }

    public int best() {
        return plan.actAt(place.packed(told), place.rank(told));
    }

    public long bestMean() {
        return plan.meanAt(place.packed(told), place.rank(told));
    }

    public long loss() {
        int code = place.packed(told);
        int rank = place.rank(told);
        return plan.meanAt(code, rank) - plan.ruleMeanAt(code, rank);
    }

    public int breach() {
        return plan.breachFrom(place.packed(told), place.rank(told), place.digits());
    }

    public long likely(int box, int what) {
        if (!told.has(box) || what < 0 || what > 1) {
            return NO_SUCH;
        }
        plan.follow(place.packed(told), place.rank(told), place.holder(told));
        return what == 0 ? plan.opened[box] : plan.taken[box];
    }

    public int edge(int box) {
        if (!told.has(box)) {
            return NO_SUCH;
        }
        if (place.isOpen(box)) {
            return CANNOT;
        }
        int least = plan.edgeAt(place.packed(told), place.rank(told), box);
        return least > MOST_PRICE ? NONE : least;
    }

    public int setPrice(int box) {
        return told.has(box) ? plan.dearest(box) : NO_SUCH;
    }

    // ---- streets, runs

    public long street(int d) {
        if (!isShelf(d) || !isByteRow(d) || !isOrder(d)) {
            return REFUSED;
        }
        return walk.mean(rows[d], sizes[d]);
    }

    public int bestStreet() {
        return told.size == 0 ? NONE : walk.bestOrder();
    }

    public long run(int what, int z) throws IllegalArgumentException {
        if (what < 0 || what > 1) {
            throw new IllegalArgumentException("a run is of the best (0) or of the rule (1)");
        }
        return plan.runFrom(what == 1, z);
    }

    // ---- the image, what is told

    public int image() {
        imageTold.takeFrom(told);
        imagePlace.takeFrom(place);
        imageTaken = true;
        return told.size;
    }

    public int restore() {
        if (!imageTaken) {
            return CANNOT;
        }
        told.takeFrom(imageTold);
        place.takeFrom(imagePlace);
        plan.forget();
        return told.size;
    }

    public int count(int what) {
        switch (what) {
            case 0: return told.size;
            case 1: return told.latestHour;
            case 2: return told.allSteps();
            case 3: return place.countBetween(Place.OPEN_FIRST, Place.OPEN_OTHER);
            case 4: return place.countBetween(Place.PEEPED_GOOD, Place.PEEPED_NOT);
            case 5: return countOfThoseThatMay();
            default: return NO_SUCH;
        }
    }

    // ---- shelves

    public int keep(int d, int what, int k) {
        if (!isShelf(d) || what < 0 || what > 1 || (what == 1 && !told.has(k))) {
            return NO_SUCH;
        }
        holds[d] = what == 0 ? HOLDS_NOTHING : HOLDS_BOX;
        shelfBoxes[d] = what == 0 ? null : told.boxes[k];
        return 0;
    }

    public int row(int d, int sort, int n) {
        if (!isShelf(d) || sort < BYTES || sort > INTS || n > LONGEST_ROW) {
            return NO_SUCH;
        }
        if (n < 0) {
            return BELOW_ZERO;
        }
        holds[d] = HOLDS_ROW;
        shelfBoxes[d] = null;
        sorts[d] = sort;
        sizes[d] = n;
        Arrays.fill(rows[d], 0);
        return 0;
    }

    public int put(int d, int i, int v) {
        if (!isShelf(d)) {
            return NO_SUCH;
        }
        if (holds[d] == HOLDS_NOTHING) {
            return NOTHING_HELD;
        }
        if (holds[d] != HOLDS_ROW) {
            return OTHER_KIND;
        }
        if (i < 0 || i >= sizes[d]) {
            return NO_PLACE;
        }
        rows[d][i] = lowestBits(sorts[d], v);
        return 0;
    }

    public long element(int d, int i) throws IllegalArgumentException, IllegalStateException {
        if (!isShelf(d)) {
            throw new IllegalArgumentException("no such shelf");
        }
        if (holds[d] != HOLDS_ROW || i < 0 || i >= sizes[d]) {
            throw new IllegalStateException("no row there, or no such place in it");
        }
        return rows[d][i];
    }

    public int copy(int d, int i, int e, int j, int n) {
        if (!isShelf(d) || !isShelf(e)) {
            return NO_SUCH;
        }
        if (holds[d] == HOLDS_NOTHING || holds[e] == HOLDS_NOTHING) {
            return NOTHING_HELD;
        }
        if (holds[d] != HOLDS_ROW || holds[e] != HOLDS_ROW || sorts[d] != sorts[e]) {
            return OTHER_KIND;
        }
        if (!isStretch(d, i, n) || !isStretch(e, j, n)) {
            return NO_PLACE;
        }
        System.arraycopy(rows[d], i, rows[e], j, n);
        return n;
    }

    public int weight(int d) {
        int refusal = boxRefusal(d);
        return refusal < 0 ? refusal : shelfBoxes[d].heft();
    }

    public int toss(int d) {
        int refusal = boxRefusal(d);
        if (refusal < 0) {
            return refusal;
        }
        try {
            shelfBoxes[d].fail();
        } catch (IllegalStateException failure) {
            return shelfBoxes[d].failureNumber();
        }
        return NO_FAILURE;
    }

    // ---- what the face's calls share

    private static boolean isShelf(int d) {
        return d >= 0 && d < SHELVES;
    }

    private boolean isByteRow(int d) {
        return holds[d] == HOLDS_ROW && sorts[d] == BYTES;
    }

    private boolean isStretch(int d, int i, int n) {
        return i >= 0 && n >= 0 && i <= sizes[d] && n <= sizes[d] - i;
    }

    /** 0, if a box stands on the shelf. */
    private int boxRefusal(int d) {
        if (!isShelf(d)) {
            return NO_SUCH;
        }
        if (holds[d] == HOLDS_NOTHING) {
            return NOTHING_HELD;
        }
        return holds[d] == HOLDS_BOX && shelfBoxes[d] != null ? 0 : OTHER_KIND;
    }

    private boolean isOrder(int d) {
        int met = 0;
        for (int i = 0; i < sizes[d]; i++) {
            int box = rows[d][i];
            if (!told.has(box) || (met & 1 << box) != 0) {
                return false;
            }
            met |= 1 << box;
        }
        return true;
    }

    private boolean isStep(int box, int i) {
        return told.has(box) && i >= 0 && i < told.boxes[box].steps();
    }

    private int has() {
        return told.worths[place.rank(told)];
    }

    private int countOfThoseThatMay() {
        int code = place.packed(told);
        int found = 0;
        for (int b = 0; b < told.size; b++) {
            if (told.mayOpen(code, b)) {
                found++;
            }
        }
        return found;
    }

    private static int lowestBits(int sort, int v) {
        if (sort == BYTES) {
            return (byte) v;
        }
        return sort == SHORTS ? (short) v : v;
    }

    /** A BOX as it is told; it never changes, so that images and shelves may share it. */
    private static class Box {
        final int id;
        final int cost;
        final int hours;
        final int[] worths;
        final int[] chances;

        Box(int id, int cost, int hours, int[] worths, int[] chances) {
            this.id = id;
            this.cost = cost;
            this.hours = hours;
            this.worths = worths;
            this.chances = chances;
        }

        int kind() {
            return 0;
        }

        final int steps() {
            return worths.length;
        }

        /** The number that only some kinds have. */
        int extra() {
            return NONE;
        }

        boolean canPeep() {
            return false;
        }

        boolean canTakeShut() {
            return false;
        }

        /** Whether it may be opened, as far as open ones and hours spent matter to this kind. */
        boolean opensAmid(int openOnes, int spent) {
            return true;
        }

        /** The same BOX at another PRICE. */
        Box priced(int n) {
            return new Box(id, n, hours, worths, chances);
        }

        int heft() {
            return cost + hours;
        }

        boolean canFail() {
            return steps() > 1;
        }

        int failureNumber() {
            return id;
        }

        final void fail() {
            if (canFail()) {
                throw new IllegalStateException("a box failed");
            }
        }
    }

    private static final class Peep extends Box {
        final int peepCost;

        Peep(int id, int cost, int hours, int[] worths, int[] chances, int peepCost) {
            super(id, cost, hours, worths, chances);
            this.peepCost = peepCost;
        }

        @Override
        int kind() {
            return 1;
        }

        @Override
        int extra() {
            return peepCost;
        }

        @Override
        boolean canPeep() {
            return true;
        }

        @Override
        Box priced(int n) {
            return new Peep(id, n, hours, worths, chances, peepCost);
        }

        @Override
        int heft() {
            return super.heft() + peepCost;
        }
    }

    private static final class Blind extends Box {
        Blind(int id, int cost, int hours, int[] worths, int[] chances) {
            super(id, cost, hours, worths, chances);
        }

        @Override
        int kind() {
            return 2;
        }

        @Override
        boolean canTakeShut() {
            return true;
        }

        @Override
        Box priced(int n) {
            return new Blind(id, n, hours, worths, chances);
        }

        @Override
        int heft() {
            return 2 * super.heft();
        }

        @Override
        boolean canFail() {
            return false;
        }
    }

    private static class Behind extends Box {
        final int linked;

        Behind(int id, int cost, int hours, int[] worths, int[] chances, int linked) {
            super(id, cost, hours, worths, chances);
            this.linked = linked;
        }

        @Override
        int kind() {
            return 3;
        }

        @Override
        int extra() {
            return linked;
        }

        @Override
        boolean opensAmid(int openOnes, int spent) {
            return (openOnes & 1 << linked) != 0;
        }

        @Override
        Box priced(int n) {
            return new Behind(id, n, hours, worths, chances, linked);
        }

        @Override
        int heft() {
            return super.heft() + 10;
        }
    }

    /** It tells of the BOX that it is linked to, and opens behind none. */
    private static final class Kin extends Behind {
        final int[] others;

        Kin(int id, int cost, int hours, int[] worths, int[] chances, int linked, int[] others) {
            super(id, cost, hours, worths, chances, linked);
            this.others = others;
        }

        @Override
        int kind() {
            return 4;
        }

        @Override
        boolean opensAmid(int openOnes, int spent) {
            return true;
        }

        @Override
        Box priced(int n) {
            return new Kin(id, n, hours, worths, chances, linked, others);
        }

        @Override
        int heft() {
            return super.heft() + 5;
        }

        @Override
        int failureNumber() {
            return super.failureNumber() + 100;
        }
    }

    private static final class Rival extends Box {
        final int latest;

        Rival(int id, int cost, int hours, int[] worths, int[] chances, int latest) {
            super(id, cost, hours, worths, chances);
            this.latest = latest;
        }

        @Override
        int kind() {
            return 5;
        }

        @Override
        int extra() {
            return latest;
        }

        @Override
        boolean opensAmid(int openOnes, int spent) {
            return spent < latest;
        }

        @Override
        Box priced(int n) {
            return new Rival(id, n, hours, worths, chances, latest);
        }

        @Override
        int heft() {
            return super.heft() - hours + latest;
        }

        @Override
        int failureNumber() {
            return latest;
        }
    }

    /**
     * The BOXES and the BELL, and what holds at any place of a search among them.
     *
     * A place is written PACKED, two bits a BOX: SHUT, GOOD, NOT_GOOD, OPEN. Which STEP an OPEN BOX
     * showed matters to later acts only for a KIN: as that is never peeped at, GOOD's bits say there
     * that it is OPEN with its first STEP (TELLS). What one HAS is written as a RANK among all WORTHS.
     */
    private static final class Told {
        static final int SHUT = 0;
        static final int GOOD = 1;
        static final int NOT_GOOD = 2;
        static final int OPEN = 3;
        static final int TELLS = 1;

        final Box[] boxes = new Box[MOST_BOXES];
        int size;
        int latestHour = MOST_BELL;
        /** Of each BOX the KIN that tells of it, or NONE. */
        final int[] kinOf = new int[MOST_BOXES];
        /** All WORTHS and 0, each once, rising: their places are the RANKS. */
        final int[] worths = new int[MOST_RANKS];
        int ranks = 1;
        final int[] stepRanks = new int[MOST_BOXES * MOST_STEPS];
        /** What KIN tell of the STEPS, or NONE. */
        final int[] otherChances = new int[MOST_BOXES * MOST_STEPS];
        /** NUMBERS in least terms, two a BOX: by its own CHANCES, by the OTHER ones. */
        final long[] numberTops = new long[2 * MOST_BOXES];
        final long[] numberFeet = new long[2 * MOST_BOXES];

        Told() {
        }

        boolean has(int box) {
            return box >= 0 && box < size;
        }

        void takeFrom(Told other) {
            for (int b = 0; b < MOST_BOXES; b++) {
                boxes[b] = other.boxes[b];
            }
            size = other.size;
            latestHour = other.latestHour;
            settle();
        }

        void add(Box box) {
            if (size < MOST_BOXES) {
                boxes[size] = box;
                size++;
                settle();
            }
        }

        void reprice(int box, int n) {
            boxes[box] = boxes[box].priced(n);
            settle();
        }

        /** Finds anew what follows from the BOXES. */
        private void settle() {
            Arrays.fill(kinOf, NONE);
            Arrays.fill(otherChances, NONE);
            ranks = 1;
            for (int b = 0; b < size; b++) {
                if (boxes[b] instanceof Kin kin) {
                    kinOf[kin.linked] = b;
                    System.arraycopy(kin.others, 0, otherChances, kin.linked * MOST_STEPS, kin.others.length);
                }
                for (int i = 0; i < boxes[b].steps(); i++) {
                    addWorth(boxes[b].worths[i]);
                }
            }
            for (int b = 0; b < size; b++) {
                for (int i = 0; i < boxes[b].steps(); i++) {
                    stepRanks[b * MOST_STEPS + i] = rankOfWorth(boxes[b].worths[i]);
                }
                setNumber(b, false);
                if (kinOf[b] >= 0) {
                    setNumber(b, true);
                }
            }
        }

        private void addWorth(int worth) {
            int where = rankOfWorth(worth);
            if ((where < ranks && worths[where] == worth) || ranks >= MOST_RANKS) {
                return;
            }
            for (int r = ranks; r > where; r--) {
                worths[r] = worths[r - 1];
            }
            worths[where] = worth;
            ranks++;
        }

        /** How many WORTHS are below it. */
        private int rankOfWorth(int worth) {
            int below = 0;
            while (below < ranks && worths[below] < worth) {
                below++;
            }
            return below;
        }

        int stepRank(int b, int i) {
            return stepRanks[b * MOST_STEPS + i];
        }

        int allSteps() {
            int found = 0;
            for (int b = 0; b < size; b++) {
                found += boxes[b].steps();
            }
            return found;
        }

        /** How many packed places there are, those that can't be among them. */
        int codes() {
            return 1 << 2 * size;
        }

        /** Where a packed place with a RANK stands in a table of all. */
        int index(int code, int rank) {
            return (rank << 2 * size) + code;
        }

        static int digit(int code, int b) {
            return code >> 2 * b & 3;
        }

        boolean isOpen(int code, int b) {
            int digit = code >> 2 * b & 3;
            return digit == OPEN || (digit == TELLS && boxes[b] instanceof Kin);
        }

        /** Whether each BOX is as one of its kind can be. */
        boolean canBe(int code) {
            for (int b = 0; b < size; b++) {
                int digit = digit(code, b);
                boolean plain = digit == SHUT || isOpen(code, b);
                if (!plain && !boxes[b].canPeep()) {
                    return false;
                }
            }
            return true;
        }

        boolean hasPeeped(int code) {
            for (int b = 0; b < size; b++) {
                if (digit(code, b) != SHUT && !isOpen(code, b)) {
                    return true;
                }
            }
            return false;
        }

        int openOnes(int code) {
            int found = 0;
            for (int b = 0; b < size; b++) {
                if (isOpen(code, b)) {
                    found |= 1 << b;
                }
            }
            return found;
        }

        /** The RANKS that one can HAVE there, a bit each. */
        int seenRanks(int code) {
            int seen = 0;
            for (int b = 0; b < size; b++) {
                if (isOpen(code, b)) {
                    for (int i = 0; i < boxes[b].steps(); i++) {
                        seen |= 1 << stepRank(b, i);
                    }
                }
            }
            return seen == 0 ? 1 : seen;
        }

        int spentOn(int openOnes) {
            int spent = 0;
            for (int b = 0; b < size; b++) {
                if ((openOnes & 1 << b) != 0) {
                    spent += boxes[b].hours;
                }
            }
            return spent;
        }

        boolean mayOpen(int code, int b) {
            int open = openOnes(code);
            return mayOpenAmid(open, spentOn(open), b);
        }

        boolean mayOpenAmid(int openOnes, int spent, int b) {
            return (openOnes & 1 << b) == 0 && spent + boxes[b].hours <= latestHour
                && boxes[b].opensAmid(openOnes, spent);
        }

        /** Whether the OTHER CHANCES of a BOX hold. */
        private boolean isToldOf(int code, int b) {
            int kin = kinOf[b];
            return kin >= 0 && (code >> 2 * kin & 3) == TELLS;
        }

        /** Of a BOX that isn't OPEN. */
        int chanceAt(int code, int b, int i) {
            switch (digit(code, b)) {
                case GOOD: return i == 0 ? boxes[b].chances[i] : 0;
                case NOT_GOOD: return i == 0 ? 0 : boxes[b].chances[i];
                default: return isToldOf(code, b) ? otherChances[b * MOST_STEPS + i] : boxes[b].chances[i];
            }
        }

        /** What the CHANCES of a BOX are together; 1 of an OPEN one, as it has no share in the MASS. */
        int chancesTogether(int code, int b) {
            if (isOpen(code, b)) {
                return 1;
            }
            switch (digit(code, b)) {
                case GOOD: return boxes[b].chances[0];
                case NOT_GOOD: return 100 - boxes[b].chances[0];
                default: return 100;
            }
        }

        long massAt(int code) {
            long product = 1;
            for (int b = 0; b < size; b++) {
                product *= chancesTogether(code, b);
            }
            return product;
        }

        int afterOpening(int code, int b, int i) {
            int digit = i == 0 && boxes[b] instanceof Kin ? TELLS : OPEN;
            return code | digit << 2 * b;
        }

        int afterPeeping(int code, int b, boolean good) {
            return code | (good ? GOOD : NOT_GOOD) << 2 * b;
        }

        /** Where the NUMBER of a BOX stands. */
        int numberAt(int code, int b) {
            return isToldOf(code, b) ? 2 * b + 1 : 2 * b;
        }

        private void setNumber(int b, boolean other) {
            long top = -100L * boxes[b].cost;
            long foot = 0;
            long bestTop = 0;
            long bestFoot = 0;
            for (int i = 0; i < boxes[b].steps(); i++) {
                int chance = other ? otherChances[b * MOST_STEPS + i] : boxes[b].chances[i];
                top += (long) chance * boxes[b].worths[i];
                foot += chance;
                if (foot > 0 && (bestFoot == 0 || top * bestFoot > bestTop * foot)) {
                    bestTop = top;
                    bestFoot = foot;
                }
            }
            long common = Math.max(1, commonDivisor(Math.abs(bestTop), bestFoot));
            numberTops[other ? 2 * b + 1 : 2 * b] = bestTop / common;
            numberFeet[other ? 2 * b + 1 : 2 * b] = bestFoot / common;
        }

        private static long commonDivisor(long a, long b) {
            long greater = a;
            long less = b;
            // Euclid's loop halves within two turns: 128 are more than a long can need.
            for (int turn = 0; turn < 128 && less != 0; turn++) {
                long rest = greater % less;
                greater = less;
                less = rest;
            }
            return greater;
        }
    }

    /** THE PLACE at hand, and the acts that led to it. */
    private static final class Place {
        static final int SHUT = 0;
        static final int PEEPED_GOOD = 1;
        static final int PEEPED_NOT = 2;
        static final int OPEN_FIRST = 3;
        static final int OPEN_OTHER = 4;

        final int[] how = new int[MOST_BOXES];
        /** The STEP that each OPEN BOX showed. */
        final int[] shown = new int[MOST_BOXES];
        final int[] actBoxes = new int[MOST_ACTS];
        /** How the BOX of each act was ahead of it. */
        final int[] actBefore = new int[MOST_ACTS];
        int acts;

        Place() {
        }

        void clear() {
            Arrays.fill(how, SHUT);
            acts = 0;
        }

        void takeFrom(Place other) {
            System.arraycopy(other.how, 0, how, 0, MOST_BOXES);
            System.arraycopy(other.shown, 0, shown, 0, MOST_BOXES);
            System.arraycopy(other.actBoxes, 0, actBoxes, 0, MOST_ACTS);
            System.arraycopy(other.actBefore, 0, actBefore, 0, MOST_ACTS);
            acts = other.acts;
        }

        void move(int box, int becomes) {
            if (acts < MOST_ACTS) {
                actBoxes[acts] = box;
                actBefore[acts] = how[box];
                acts++;
                how[box] = becomes;
            }
        }

        void moveBack() {
            if (acts > 0) {
                acts--;
                how[actBoxes[acts]] = actBefore[acts];
            }
        }

        boolean isOpen(int b) {
            return how[b] >= OPEN_FIRST;
        }

        /** The CODE: digits to the base 5. */
        int digits() {
            int code = 0;
            for (int b = MOST_BOXES - 1; b >= 0; b--) {
                code = code * 5 + how[b];
            }
            return code;
        }

        int packed(Told told) {
            int code = 0;
            for (int b = 0; b < told.size; b++) {
                if (isOpen(b)) {
                    code = told.afterOpening(code, b, shown[b]);
                } else if (how[b] != SHUT) {
                    code = told.afterPeeping(code, b, how[b] == PEEPED_GOOD);
                }
            }
            return code;
        }

        /** The RANK of what one HAS. */
        int rank(Told told) {
            int most = 0;
            for (int b = 0; b < told.size; b++) {
                if (isOpen(b)) {
                    most = Math.max(most, told.stepRank(b, shown[b]));
                }
            }
            return most;
        }

        /** The least BOX that showed what one HAS, or NONE. */
        int holder(Told told) {
            int rank = rank(told);
            for (int b = 0; b < told.size; b++) {
                if (isOpen(b) && told.stepRank(b, shown[b]) == rank) {
                    return b;
                }
            }
            return NONE;
        }

        int countBetween(int least, int most) {
            int found = 0;
            for (int b = 0; b < MOST_BOXES; b++) {
                if (how[b] >= least && how[b] <= most) {
                    found++;
                }
            }
            return found;
        }
    }

    /** Reads a TEXT, all of it or nothing. */
    private static final class Reader {
        private static final int FORM = 1000;
        private static final int SENSE = 2000;
        private static final int END = -1000;

        private int[] bytes = new int[0];
        private int length;
        private int at;
        private boolean bad;
        private final Told draft = new Told();

        /** The STATEMENT that was read last. */
        private int letter;
        private int cost;
        private int hours;
        private int steps;
        private final int[] worths = new int[MOST_STEPS];
        private final int[] chances = new int[MOST_STEPS];
        private int sign;
        private int extra;
        private int otherSteps;
        private final int[] others = new int[MOST_STEPS];

        Reader() {
        }

        /** How many STATEMENTS have come to what is told; or the FAULT. */
        int read(int[] row, int size, Told told) {
            bytes = row;
            length = size;
            int fault = formFault();
            if (fault >= 0) {
                return -FORM - fault;
            }
            draft.takeFrom(told);
            int answer = senseAll();
            if (answer > 0) {
                told.takeFrom(draft);
            }
            return answer;
        }

        /** The place of the first byte that is wrong, or NONE. */
        private int formFault() {
            at = 0;
            bad = false;
            for (int turn = 0; turn == 0 || (turn < length && at < length); turn++) {
                readStatement();
                if (bad) {
                    return at;
                }
            }
            return NONE;
        }

        /** Adds all STATEMENTS of a text without fault of form to the draft. */
        private int senseAll() {
            int statements = 0;
            at = 0;
            for (int turn = 0; turn < length && at < length; turn++) {
                int start = at;
                readStatement();
                if (!addStatement()) {
                    return -SENSE - start;
                }
                statements++;
            }
            return statements;
        }

        private int next() {
            return at < length && at < bytes.length ? bytes[at] : END;
        }

        private void expect(char wanted) {
            if (!bad && next() == wanted) {
                at++;
            } else {
                bad = true;
            }
        }

        /** A digit too many is left to what comes behind the NUMBER, where none is wanted. */
        private int readNumber() {
            int number = 0;
            int digits = 0;
            while (!bad && digits < 3 && (digits == 0 || number > 0) && isDigit(next())) {
                number = number * 10 + next() - '0';
                at++;
                digits++;
            }
            bad = bad || digits == 0;
            return number;
        }

        private static boolean isDigit(int sign) {
            return sign >= '0' && sign <= '9';
        }

        private void readStatement() {
            letter = next();
            if (letter == 'l') {
                at++;
                extra = readNumber();
            } else {
                expect('b');
                cost = readNumber();
                expect(' ');
                hours = readNumber();
                readSteps();
                readEnding();
                readOthers();
            }
            expect(';');
        }

        /** Counts all STEPS, and keeps as many as there may be. */
        private void readSteps() {
            steps = 0;
            for (int turn = 0; turn < length && !bad && next() == ' '; turn++) {
                at++;
                int worth = readNumber();
                expect('/');
                int chance = readNumber();
                if (steps < MOST_STEPS) {
                    worths[steps] = worth;
                    chances[steps] = chance;
                }
                steps++;
            }
        }

        private void readEnding() {
            sign = bad ? ';' : next();
            switch (sign) {
                case '!':
                    at++;
                    break;
                case '?':
                case '<':
                case '>':
                case '@':
                    at++;
                    extra = readNumber();
                    break;
                default:
                    break;
            }
        }

        private void readOthers() {
            otherSteps = 0;
            for (int turn = 0; turn < length && !bad && sign == '>' && next() == ' '; turn++) {
                at++;
                int chance = readNumber();
                if (otherSteps < MOST_STEPS) {
                    others[otherSteps] = chance;
                }
                otherSteps++;
            }
        }

        /** Whether the STATEMENT is as told; then it comes to the draft. */
        private boolean addStatement() {
            if (letter == 'l') {
                if (extra > MOST_BELL) {
                    return false;
                }
                draft.latestHour = extra;
                return true;
            }
            if (draft.size >= MOST_BOXES || hours > 9 || !stepsAreAsTold() || !endingIsAsTold()) {
                return false;
            }
            draft.add(makeBox());
            return true;
        }

        private boolean stepsAreAsTold() {
            if (steps < 1 || steps > MOST_STEPS) {
                return false;
            }
            for (int i = 0; i < steps; i++) {
                if (chances[i] < 1 || (i > 0 && worths[i] >= worths[i - 1])) {
                    return false;
                }
            }
            return areTogether100(chances, steps);
        }

        private static boolean areTogether100(int[] row, int size) {
            int sum = 0;
            for (int i = 0; i < size; i++) {
                sum += row[i];
            }
            return sum == 100;
        }

        private boolean endingIsAsTold() {
            switch (sign) {
                case '<': return draft.has(extra);
                case '>': return canBeToldOf() && areTogether100(others, otherSteps);
                case '@': return extra >= 1 && extra <= 99;
                default: return true;
            }
        }

        /** Whether a KIN can tell of the BOX, with as many CHANCES. */
        private boolean canBeToldOf() {
            return draft.has(extra) && !draft.boxes[extra].canPeep() && draft.kinOf[extra] == NONE
                && otherSteps == draft.boxes[extra].steps();
        }

        private Box makeBox() {
            int id = draft.size;
            int[] w = Arrays.copyOf(worths, steps);
            int[] c = Arrays.copyOf(chances, steps);
            switch (sign) {
                case '?': return new Peep(id, cost, hours, w, c, extra);
                case '!': return new Blind(id, cost, hours, w, c);
                case '<': return new Behind(id, cost, hours, w, c, extra);
                case '>': return new Kin(id, cost, hours, w, c, extra, Arrays.copyOf(others, otherSteps));
                case '@': return new Rival(id, cost, hours, w, c, extra);
                default: return new Box(id, cost, hours, w, c);
            }
        }
    }

    /** THE BEST, as a table over all places; THE RULE; and what follows from both. Means are times THE MASS. */
    private static final class Plan {
        private static final int STOPS = 0;
        private static final int OPENS = 10;
        private static final int PEEPS = 20;
        private static final int TAKES = 30;
        private static final int[] FIVES = {1, 5, 25, 125, 625};

        private final Told told;
        /** PRICES as they are told, or as they are tried out. */
        private final int[] costs = new int[MOST_BOXES];
        private boolean known;
        /** By RANK and packed place. They grow when they are needed, as most objects need few or none. */
        private long[] means = new long[0];
        private int[] acts = new int[0];

        /** The place that is looked at. */
        private int here;
        private long hereMass;
        private final boolean[] hereMay = new boolean[MOST_BOXES];
        /** By BOX and STEP: the CHANCE, and the place behind it. */
        private final int[] hereChances = new int[MOST_BOXES * MOST_STEPS];
        private final int[] hereNext = new int[MOST_BOXES * MOST_STEPS];
        /** The best SHUT BLIND, if there is one that is worth more than nothing. */
        private int hereBlind;
        private long hereBlindMean;

        /** What is LIKELY, since follow. */
        final long[] opened = new long[MOST_BOXES];
        final long[] taken = new long[MOST_BOXES];

        Plan(Told told) {
            this.told = told;
        }

        /** To be called when BOXES, PRICES or the BELL have changed. */
        void forget() {
            known = false;
        }

        private void know() {
            if (known) {
                return;
            }
            int need = MOST_RANKS * told.codes();
            if (means.length < need) {
                means = new long[need];
                acts = new int[need];
            }
            for (int b = 0; b < told.size; b++) {
                costs[b] = told.boxes[b].cost;
            }
            fill(NONE);
            known = true;
        }

        /** Only the places where the BOX isn't OPEN, as its PRICE counts for none of the others. */
        private void tryCost(int box, int cost) {
            if (costs[box] != cost) {
                costs[box] = cost;
                fill(box);
            }
        }

        /** From the places with the most acts done down, so that all that may follow is there already. */
        private void fill(int shutBox) {
            for (int code = told.codes() - 1; code >= 0; code--) {
                boolean wanted = told.canBe(code) && (shutBox < 0 || !told.isOpen(code, shutBox));
                if (wanted) {
                    look(code);
                    int seen = told.seenRanks(code);
                    for (int rank = 0; rank < told.ranks; rank++) {
                        if ((seen & 1 << rank) != 0) {
                            weigh(rank);
                        }
                    }
                }
            }
        }

        private void look(int code) {
            here = code;
            hereMass = told.massAt(code);
            hereBlind = NONE;
            hereBlindMean = 0;
            int open = told.openOnes(code);
            int spent = told.spentOn(open);
            for (int b = 0; b < told.size; b++) {
                hereMay[b] = told.mayOpenAmid(open, spent, b);
                for (int i = 0; i < told.boxes[b].steps(); i++) {
                    hereChances[b * MOST_STEPS + i] = told.chanceAt(code, b, i);
                    hereNext[b * MOST_STEPS + i] = told.afterOpening(code, b, i);
                }
                if (told.boxes[b].canTakeShut() && isShutHere(b) && shutMean(b) > hereBlindMean) {
                    hereBlind = b;
                    hereBlindMean = shutMean(b);
                }
            }
        }

        /** Acts in the order in which they go ahead of one another: a later one must be better. */
        private void weigh(int rank) {
            long most = stopMean(rank);
            int act = STOPS;
            if (hereBlindMean > most) {
                most = hereBlindMean;
                act = TAKES + hereBlind;
            }
            for (int b = 0; b < told.size; b++) {
                long mean = hereMay[b] ? openMean(b, rank) : most;
                if (mean > most) {
                    most = mean;
                    act = OPENS + b;
                }
            }
            for (int b = 0; b < told.size; b++) {
                boolean can = hereMay[b] && isShutHere(b) && told.boxes[b].canPeep();
                long mean = can ? peepMean(b, rank) : most;
                if (mean > most) {
                    most = mean;
                    act = PEEPS + b;
                }
            }
            means[told.index(here, rank)] = most;
            acts[told.index(here, rank)] = act;
        }

        private boolean isShutHere(int b) {
            return Told.digit(here, b) == Told.SHUT;
        }

        private long stopMean(int rank) {
            return told.worths[rank] * hereMass;
        }

        /** Of a SHUT BOX; THE MASS holds its hundred. */
        private long shutMean(int b) {
            long sum = 0;
            for (int i = 0; i < told.boxes[b].steps(); i++) {
                sum += (long) hereChances[b * MOST_STEPS + i] * told.boxes[b].worths[i];
            }
            return hereMass / 100 * sum;
        }

        private long openMean(int b, int rank) {
            long mean = -costs[b] * hereMass;
            int end = b * MOST_STEPS + told.boxes[b].steps();
            for (int k = b * MOST_STEPS; k < end; k++) {
                int then = told.stepRanks[k] > rank ? told.stepRanks[k] : rank;
                mean += hereChances[k] * means[told.index(hereNext[k], then)];
            }
            return mean;
        }

        private long peepMean(int b, int rank) {
            return means[told.index(told.afterPeeping(here, b, true), rank)]
                + means[told.index(told.afterPeeping(here, b, false), rank)]
                - told.boxes[b].extra() * hereMass;
        }

        int actAt(int code, int rank) {
            know();
            return acts[told.index(code, rank)];
        }

        long meanAt(int code, int rank) {
            know();
            return means[told.index(code, rank)];
        }

        // ---- the rule

        /** The BOX that THE RULE opens, or NONE. */
        int ruleAt(int code, int rank) {
            int box = NONE;
            long top = told.worths[rank];
            long foot = 1;
            for (int b = 0; b < told.size; b++) {
                int which = told.numberAt(code, b);
                boolean greater = told.numberTops[which] * foot > top * told.numberFeet[which];
                if (greater && told.mayOpen(code, b)) {
                    box = b;
                    top = told.numberTops[which];
                    foot = told.numberFeet[which];
                }
            }
            return box;
        }

        long ruleMeanAt(int code, int rank) {
            return ruleMeanOn(code, rank, 0);
        }

        private long ruleMeanOn(int code, int rank, int depth) {
            int box = ruleAt(code, rank);
            long mass = told.massAt(code);
            if (box < 0 || depth >= MOST_BOXES) {
                return told.worths[rank] * mass;
            }
            long mean = -told.boxes[box].cost * mass;
            for (int i = 0; i < told.boxes[box].steps(); i++) {
                int chance = told.chanceAt(code, box, i);
                if (chance > 0) {
                    int then = Math.max(rank, told.stepRank(box, i));
                    mean += chance * ruleMeanOn(told.afterOpening(code, box, i), then, depth + 1);
                }
            }
            return mean;
        }

        int breachFrom(int code, int rank, int digits) {
            know();
            return firstBreach(code, rank, digits, 0);
        }

        private int firstBreach(int code, int rank, int digits, int depth) {
            int box = ruleAt(code, rank);
            look(code);
            long mean = box < 0 ? stopMean(rank) : openMean(box, rank);
            if (mean < means[told.index(code, rank)]) {
                return digits;
            }
            if (box < 0 || depth >= MOST_BOXES) {
                return NONE;
            }
            for (int i = 0; i < told.boxes[box].steps(); i++) {
                if (told.chanceAt(code, box, i) > 0) {
                    int becomes = i == 0 ? Place.OPEN_FIRST : Place.OPEN_OTHER;
                    int found = firstBreach(told.afterOpening(code, box, i),
                        Math.max(rank, told.stepRank(box, i)),
                        digits + (becomes - Told.digit(code, box)) * FIVES[box], depth + 1);
                    if (found != NONE) {
                        return found;
                    }
                }
            }
            return NONE;
        }

        // ---- what is likely, prices

        /** Finds what is LIKELY from a place on; the holder is the BOX that would be taken there, or NONE. */
        void follow(int code, int rank, int holder) {
            know();
            followAnew(code, rank, holder);
        }

        private void followAnew(int code, int rank, int holder) {
            Arrays.fill(opened, 0);
            Arrays.fill(taken, 0);
            followOn(code, rank, holder, 1, 0);
        }

        /** The share: by how much THE MASS there is to be multiplied. */
        private void followOn(int code, int rank, int holder, long share, int depth) {
            int act = acts[told.index(code, rank)];
            long part = share * told.massAt(code);
            if (part == 0 || depth > MOST_ACTS) {
                return;
            }
            if (act == STOPS) {
                if (holder >= 0) {
                    taken[holder] += part;
                }
            } else if (act >= TAKES) {
                taken[act - TAKES] += part;
            } else if (act >= PEEPS) {
                int b = act - PEEPS;
                followOn(told.afterPeeping(code, b, true), rank, holder, share, depth + 1);
                followOn(told.afterPeeping(code, b, false), rank, holder, share, depth + 1);
            } else {
                int b = act - OPENS;
                opened[b] += part;
                for (int i = 0; i < told.boxes[b].steps(); i++) {
                    int shown = told.stepRank(b, i);
                    followOn(told.afterOpening(code, b, i), Math.max(rank, shown),
                        holderAfter(holder, rank, b, shown), share * told.chanceAt(code, b, i), depth + 1);
                }
            }
        }

        private static int holderAfter(int holder, int rank, int b, int shown) {
            if (shown < rank) {
                return holder;
            }
            return shown > rank || holder < 0 ? b : Math.min(holder, b);
        }

        /**
         * The least PRICE at which THE BEST doesn't begin with the BOX. A greater PRICE lowers the mean of
         * opening it now by all of that, and that of any other beginning by no more: so once THE BEST
         * has left the BOX it never comes back, and halving finds the place.
         */
        int edgeAt(int code, int rank, int box) {
            know();
            int low = 0;
            int high = told.mayOpen(code, box) ? priceOfStopping(code, rank, box) : 0;
            // Ten halvings are enough for 1001 answers.
            for (int turn = 0; turn < 11 && low < high; turn++) {
                int middle = (low + high) / 2;
                tryCost(box, middle);
                if (acts[told.index(code, rank)] == OPENS + box) {
                    low = middle + 1;
                } else {
                    high = middle;
                }
            }
            tryCost(box, told.boxes[box].cost);
            return low;
        }

        /** The least PRICE at which opening the BOX is no better than stopping, as far as there are PRICES. */
        private int priceOfStopping(int code, int rank, int box) {
            look(code);
            long above = openMean(box, rank) + costs[box] * hereMass - Math.max(stopMean(rank), hereBlindMean);
            if (above <= 0 || hereMass <= 0) {
                return 0;
            }
            return (int) Math.min(MOST_PRICE + 1, (above + hereMass - 1) / hereMass);
        }

        /** The SET PRICE. What isn't LIKELY to be opened for a PRICE isn't for a greater one. */
        int dearest(int box) {
            know();
            int price = 0;
            long most = 0;
            opened[box] = 1;
            for (int cost = 100; cost <= 900 && opened[box] > 0; cost += 100) {
                tryCost(box, cost);
                followAnew(0, 0, NONE);
                long product = cost * opened[box];
                if (product > most) {
                    most = product;
                    price = cost;
                }
            }
            tryCost(box, told.boxes[box].cost);
            return price;
        }

        // ---- runs

        long runFrom(boolean byRule, int seed) {
            if (!byRule) {
                know();
            }
            int z = seed;
            int code = 0;
            int rank = 0;
            long paid = 0;
            for (int turn = 0; turn <= MOST_ACTS; turn++) {
                int act = byRule ? ruleActAt(code, rank) : acts[told.index(code, rank)];
                if (act == STOPS) {
                    return told.worths[rank] - paid;
                }
                z = z * 1103515245 + 12345;
                int b = act % 10;
                int i = drawn(code, b, z);
                if (act >= TAKES) {
                    return told.boxes[b].worths[i] - paid;
                }
                if (act >= PEEPS) {
                    paid += told.boxes[b].extra();
                    code = told.afterPeeping(code, b, i == 0);
                } else {
                    paid += told.boxes[b].cost;
                    rank = Math.max(rank, told.stepRank(b, i));
                    code = told.afterOpening(code, b, i);
                }
            }
            return told.worths[rank] - paid;
        }

        private int ruleActAt(int code, int rank) {
            int box = ruleAt(code, rank);
            return box < 0 ? STOPS : OPENS + box;
        }

        /** The STEP of a BOX by a seed. */
        private int drawn(int code, int b, int z) {
            int last = told.boxes[b].steps() - 1;
            int together = told.chancesTogether(code, b);
            int lot = together > 0 ? (z & 0x7fffffff) / 65536 % together : 0;
            int sum = 0;
            for (int i = 0; i < last; i++) {
                sum += told.chanceAt(code, b, i);
                if (lot < sum) {
                    return i;
                }
            }
            return last;
        }
    }

    /**
     * STREETS, from their ends: a layer holds the best means, by RANK and packed place of the BOXES that have
     * had their turn, of walking on past the BOXES that wait. One more BOX ahead makes the next layer.
     */
    private static final class Street {
        /** The first BOX is no KIN: twice 3 times 3 times 3 times 3. */
        private static final int MOST_CODES = 162;

        private final Told told;
        /** The places without PEEPED ones; and where each of them stands there, so that layers stay small. */
        private final int[] codes = new int[MOST_CODES];
        private int codeCount;
        private int[] spots = new int[0];
        private long[] means = new long[0];
        private int layer;
        private long most;
        private int first;

        Street(Told told) {
            this.told = told;
        }

        /** Of an order of BOXES that there are, each once at most. */
        long mean(int[] order, int length) {
            prepare();
            int waiting = 0;
            for (int i = 0; i < length && i < told.size; i++) {
                int b = order[length - 1 - i];
                waiting |= Told.OPEN << 2 * b;
                putAhead(b, i, waiting);
            }
            return means[Math.min(length, told.size) * layer];
        }

        /** Digits to the base 8, the first BOX the lowest. */
        int bestOrder() {
            prepare();
            most = Long.MIN_VALUE;
            first = 0;
            choose(0, 0, 0);
            int answer = 0;
            for (int i = 0; i < told.size; i++) {
                answer = answer << 3 | first >> 3 * i & 7;
            }
            return answer;
        }

        /** The order has the last BOX as its lowest digit, so that the first by numbers is the least. */
        private void choose(int depth, int waiting, int order) {
            if (depth >= told.size) {
                long mean = means[depth * layer];
                if (mean > most || (mean == most && order < first)) {
                    most = mean;
                    first = order;
                }
                return;
            }
            for (int b = 0; b < told.size; b++) {
                int mask = Told.OPEN << 2 * b;
                if ((waiting & mask) == 0) {
                    putAhead(b, depth, waiting | mask);
                    choose(depth + 1, waiting | mask, order | b << 3 * depth);
                }
            }
        }

        private int spot(int code, int rank) {
            return rank * codeCount + spots[code];
        }

        private void prepare() {
            findCodes();
            layer = MOST_RANKS * codeCount;
            int need = layer * (told.size + 1);
            if (means.length < need) {
                means = new long[need];
            }
            for (int c = 0; c < codeCount; c++) {
                stopAt(codes[c]);
            }
        }

        private void findCodes() {
            if (spots.length < told.codes()) {
                spots = new int[told.codes()];
            }
            codeCount = 0;
            for (int code = 0; code < told.codes() && codeCount < MOST_CODES; code++) {
                if (told.canBe(code) && !told.hasPeeped(code)) {
                    codes[codeCount] = code;
                    spots[code] = codeCount;
                    codeCount++;
                }
            }
        }

        /** In the layer of a street's end one stops. */
        private void stopAt(int code) {
            long mass = told.massAt(code);
            for (int rank = 0; rank < told.ranks; rank++) {
                means[spot(code, rank)] = told.worths[rank] * mass;
            }
        }

        private void putAhead(int b, int depth, int waiting) {
            for (int c = 0; c < codeCount; c++) {
                if ((codes[c] & waiting) == 0) {
                    meet(b, depth * layer, codes[c]);
                }
            }
        }

        /** Fills the next layer for one place: the BOX is passed by, or opened if it may be and that is better. */
        private void meet(int b, int from, int code) {
            boolean may = told.mayOpen(code, b);
            long paid = told.boxes[b].cost * told.massAt(code);
            int seen = told.seenRanks(code);
            for (int rank = 0; rank < told.ranks; rank++) {
                if ((seen & 1 << rank) != 0) {
                    int spot = from + spot(code, rank);
                    long pass = means[spot];
                    means[spot + layer] = may ? Math.max(pass, shownMean(b, from, code, rank) - paid) : pass;
                }
            }
        }

        private long shownMean(int b, int from, int code, int rank) {
            long mean = 0;
            for (int i = 0; i < told.boxes[b].steps(); i++) {
                int then = Math.max(rank, told.stepRank(b, i));
                mean += told.chanceAt(code, b, i) * means[from + spot(told.afterOpening(code, b, i), then)];
            }
            return mean;
        }
    }
}
