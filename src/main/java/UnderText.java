import java.util.Arrays;

/** A desk for a washed book; ../shared/DOC.md says what each call promises. */
public final class UnderText {
    public static final int NONE = -1;

    private static final int NOT_SO_MANY = -2;
    private static final int AT_ODDS = -2;

    private static final int TAPE_BYTES = 400;
    private static final int NUMBER_BYTES = 4;
    private static final int FED_BYTES = 20;

    private static final int WORK_LETTERS = 160;
    private static final int FIRST_LETTER = 'a';
    private static final int KINDS_OF_LETTERS = 16;
    private static final int ALL_LETTERS = 65535;
    private static final int NO_FAULT = 0;
    private static final int STRANGE_BYTE = 1;
    private static final int TOO_LONG = 2;

    private static final int UPPER = 0;
    private static final int LOWER = 1;
    private static final int NOT_KNOWN = 2;
    private static final int MOST_RULING = 9;
    private static final int MOST_HALVES = 8;
    private static final int FACES = 2;
    private static final int LINE_SPOTS = 8;
    private static final int HALF_SPOTS = 16;

    private static final int LEAF_LETTERS = 32;
    private static final int MOST_PLACES = 129;
    private static final int FIRST_PRICE = 3;
    private static final int MOST_PRICE = 99;

    private final Tape tape = new Tape();
    private final Scale scale = new Scale();
    private final Work text = scale.work;
    private final Halves halves = scale.halves;
    private final Pairing pairing = new Pairing();
    private final Book joined = new Book();
    private int atOdds = 0;
    private int leafPrice = FIRST_PRICE;

    public UnderText() {
    }

    public int feed(int a, int b, int c, int d, int e) {
        if (tape.size + FED_BYTES > TAPE_BYTES) {
            return NONE;
        }
        tape.put(a);
        tape.put(b);
        tape.put(c);
        tape.put(d);
        tape.put(e);
        return tape.size;
    }

    public int work(int n) {
        if (n < 0 || n > tape.size) {
            return NOT_SO_MANY;
        }
        boolean read = text.read(tape, n);
        tape.size = 0;
        if (!read) {
            return NONE;
        }
        joined.clear();
        return text.size;
    }

    public int fault(int what) {
        switch (what) {
            case 0: return text.fault;
            case 1: return text.faultPlace;
            default: return NONE;
        }
    }

    public int half(int part, int side, int ruling) {
        boolean canBe = isWithin(part, NOT_KNOWN) && isWithin(side, 1) && isWithin(ruling, MOST_RULING);
        return canBe ? halves.add(part, side, ruling) : NONE;
    }

    public int light(int half, int face, int spot, int letters) {
        if (!isSpot(half, face, spot) || letters < 1 || letters > ALL_LETTERS) {
            return NONE;
        }
        int[] lists = halves.all[half].lists;
        int at = spotIndex(face, spot);
        int left = lists[at] & letters;
        if (left == 0) {
            atOdds++;
            return AT_ODDS;
        }
        lists[at] = left;
        return Integer.bitCount(left);
    }

    public int list(int half, int face, int spot) {
        return isSpot(half, face, spot) ? halves.all[half].lists[spotIndex(face, spot)] : NONE;
    }

    public int quarrels(int half, int part, int place) {
        if (!halves.has(half) || !isWithin(part, LOWER) || !isWithin(place, text.places() - 1)) {
            return NONE;
        }
        scale.weigh(half);
        return scale.quarrelsAs(half, part, place);
    }

    public int best(int a, int b, int what) {
        if (!halves.has(a) || !halves.has(b)) {
            return NONE;
        }
        scale.weigh(a);
        scale.weigh(b);
        if (!scale.seekBest(a, b)) {
            return NONE;
        }
        switch (what) {
            case 0: return scale.found.quarrels;
            case 1: return scale.found.place;
            case 2: return scale.found.upper;
            default: return NONE;
        }
    }

    public boolean price(int n) {
        if (!isWithin(n, MOST_PRICE)) {
            return false;
        }
        leafPrice = n;
        return true;
    }

    public int join() {
        if (halves.size == 0 || text.places() == 0) {
            return NONE;
        }
        scale.weighAll();
        pairing.settle(scale, halves.size, leafPrice);
        joined.keep(scale, pairing, halves);
        return pairing.sum();
    }

    public int leaf(int k, int what) {
        if (!joined.has(k)) {
            return NONE;
        }
        Leaf leaf = joined.leaves[k];
        switch (what) {
            case 0: return leaf.upper;
            case 1: return leaf.lower;
            case 2: return leaf.place;
            case 3: return leaf.quarrels;
            case 4: return leaf.chance;
            case 5: return leaf.places;
            default: return NONE;
        }
    }

    public int book(int k, int what) {
        if (!joined.has(k)) {
            return NONE;
        }
        switch (what) {
            case 0: return joined.order[k];
            case 1: return joined.lostBehind(k);
            case 2: return joined.breaksBehind(k) ? 1 : 0;
            default: return NONE;
        }
    }

    public int led(int half, int face, int spot) {
        if (!isSpot(half, face, spot) || !joined.has(joined.leafOf[half])) {
            return NONE;
        }
        Leaf leaf = joined.leaves[joined.leafOf[half]];
        int at = spotIndex(face, spot);
        int letter = text.letterAt(leaf.place + lettersAhead(leaf.partOf(half), at));
        return hasLetter(joined.lists[half][at], letter) ? letter : NONE;
    }

    public int count(int what) {
        switch (what) {
            case 0: return text.size;
            case 1: return halves.size;
            case 2: return atOdds;
            case 3: return joined.size;
            case 4: return joined.allQuarrels();
            case 5: return joined.clashes();
            case 6: return joined.breaks();
            case 7: return joined.allLost();
            default: return NONE;
        }
    }

    private boolean isSpot(int half, int face, int spot) {
        return halves.has(half) && isWithin(face, FACES - 1) && isWithin(spot, LINE_SPOTS - 1);
    }

    private static boolean isWithin(int n, int most) {
        return n >= 0 && n <= most;
    }

    private static int spotIndex(int face, int spot) {
        return face * LINE_SPOTS + spot;
    }

    /** How many LETTERS of its LEAF stand ahead of a HALF's SPOT; the LINES of both parts alternate. */
    private static int lettersAhead(int part, int spotIndex) {
        int face = spotIndex / LINE_SPOTS;
        int line = face * 2 + part;
        return line * LINE_SPOTS + spotIndex % LINE_SPOTS;
    }

    private static boolean hasLetter(int list, int letter) {
        return isWithin(letter, KINDS_OF_LETTERS - 1) && ((list >> letter) & 1) == 1;
    }

    /** The bytes that were fed and not yet taken. */
    private static final class Tape {
        final int[] bytes = new int[TAPE_BYTES];
        int size = 0;

        void put(int number) {
            if (size + NUMBER_BYTES > TAPE_BYTES) {
                return;
            }
            for (int shift = 24; shift >= 0; shift -= 8) {
                bytes[size] = (number >>> shift) & 255;
                size++;
            }
        }

        int byteAt(int i) {
            return i >= 0 && i < size ? bytes[i] : NONE;
        }
    }

    /** The known WORK, and what was wrong with the text that came last. */
    private static final class Work {
        final int[] letters = new int[WORK_LETTERS];
        int size = 0;
        int fault = NO_FAULT;
        int faultPlace = NONE;

        /** The FAULT is sought first, since with one the WORK of before must stay. */
        boolean read(Tape tape, int n) {
            seekFault(tape, n);
            if (fault != NO_FAULT) {
                return false;
            }
            size = 0;
            for (int i = 0; i < n; i++) {
                int b = tape.byteAt(i);
                if (isLetter(b) && size < WORK_LETTERS) {
                    letters[size] = b - FIRST_LETTER;
                    size++;
                }
            }
            return true;
        }

        private void seekFault(Tape tape, int n) {
            fault = NO_FAULT;
            faultPlace = NONE;
            int seen = 0;
            for (int i = 0; i < n && fault == NO_FAULT; i++) {
                int b = tape.byteAt(i);
                if (isLetter(b)) {
                    seen++;
                    fault = seen > WORK_LETTERS ? TOO_LONG : NO_FAULT;
                } else if (b != '\n' && b != ' ') {
                    fault = STRANGE_BYTE;
                }
                faultPlace = fault == NO_FAULT ? NONE : i;
            }
        }

        private static boolean isLetter(int b) {
            return isWithin(b - FIRST_LETTER, KINDS_OF_LETTERS - 1);
        }

        int letterAt(int i) {
            return i >= 0 && i < size ? letters[i] : NONE;
        }

        int places() {
            return Math.max(0, size - LEAF_LETTERS + 1);
        }
    }

    /** One HALF with the LISTS of its SPOTS, the front's ahead of the back's. */
    private static final class Half {
        int part = NOT_KNOWN;
        int side = 0;
        int ruling = 0;
        final int[] lists = new int[HALF_SPOTS];

        boolean mayLieAs(int wanted) {
            return part == wanted || part == NOT_KNOWN;
        }

        boolean isLike(Half other) {
            return side == other.side && ruling == other.ruling;
        }
    }

    /** All HALVES; those that have not come yet are made ahead, so that none is ever null. */
    private static final class Halves {
        final Half[] all = new Half[MOST_HALVES];
        int size = 0;

        Halves() {
            for (int h = 0; h < MOST_HALVES; h++) {
                all[h] = new Half();
            }
        }

        boolean has(int h) {
            return h >= 0 && h < size && h < MOST_HALVES;
        }

        int add(int part, int side, int ruling) {
            if (size >= MOST_HALVES) {
                return NONE;
            }
            Half half = all[size];
            half.part = part;
            half.side = side;
            half.ruling = ruling;
            Arrays.fill(half.lists, ALL_LETTERS);
            size++;
            return size - 1;
        }
    }

    /** A LEAF as it lies: its HALVES, its PLACE and what is told of it there. */
    private static final class Leaf {
        int upper = NONE;
        int lower = NONE;
        int place = NONE;
        int quarrels = NONE;
        int chance = 0;
        int places = 0;
        int frontSide = 0;

        void lie(int asUpper, int asLower, int atPlace, int withQuarrels) {
            upper = asUpper;
            lower = asLower;
            place = atPlace;
            quarrels = withQuarrels;
        }

        int partOf(int half) {
            return half == upper ? UPPER : LOWER;
        }
    }

    /** Holds HALVES against the WORK: what they quarrel at each PLACE, and where a LEAF quarrels least. */
    private static final class Scale {
        final Work work = new Work();
        final Halves halves = new Halves();
        final Leaf found = new Leaf();
        private final int[][] rows = new int[2 * MOST_HALVES][MOST_PLACES];
        private final int[] rowOfNoHalf = new int[MOST_PLACES];

        void weighAll() {
            for (int h = 0; h < halves.size; h++) {
                weigh(h);
            }
        }

        void weigh(int h) {
            if (halves.has(h)) {
                fillRow(rowOf(h, UPPER), halves.all[h], UPPER);
                fillRow(rowOf(h, LOWER), halves.all[h], LOWER);
            }
        }

        private void fillRow(int[] row, Half half, int part) {
            Arrays.fill(row, 0);
            for (int at = 0; at < HALF_SPOTS; at++) {
                // a SPOT of which nothing was seen quarrels nowhere
                if (half.lists[at] != ALL_LETTERS) {
                    addSpot(row, half.lists[at], lettersAhead(part, at));
                }
            }
        }

        private void addSpot(int[] row, int spotList, int ahead) {
            int places = work.places();
            for (int p = 0; p < places && p < row.length; p++) {
                if (!hasLetter(spotList, work.letterAt(p + ahead))) {
                    row[p]++;
                }
            }
        }

        /** A LEAF of one HALF takes the row of none for the part that is not there. */
        private int[] rowOf(int h, int part) {
            return halves.has(h) && isWithin(part, LOWER) ? rows[2 * h + part] : rowOfNoHalf;
        }

        /** Of a HALF that was weighed. */
        int quarrelsAs(int h, int part, int place) {
            return isWithin(place, MOST_PLACES - 1) ? rowOf(h, part)[place] : NONE;
        }

        /** Of HALVES that were weighed; says whether they can be a LEAF and leaves its BEST in found. */
        boolean seekBest(int a, int b) {
            found.lie(NONE, NONE, NONE, NONE);
            int lesser = Math.min(a, b);
            int greater = Math.max(a, b);
            if (!halves.has(lesser) || !halves.has(greater)) {
                return false;
            }
            if (lesser == greater) {
                tryWay(lesser, NONE);
                tryWay(NONE, lesser);
            } else if (halves.all[lesser].isLike(halves.all[greater])) {
                tryWay(lesser, greater);
                tryWay(greater, lesser);
            }
            return found.quarrels != NONE;
        }

        /** Only fewer quarrels take over: the way tried first and the least PLACE win ties. */
        private void tryWay(int upper, int lower) {
            if (!mayLie(upper, UPPER) || !mayLie(lower, LOWER)) {
                return;
            }
            int[] upperRow = rowOf(upper, UPPER);
            int[] lowerRow = rowOf(lower, LOWER);
            int places = work.places();
            for (int p = 0; p < places && p < MOST_PLACES; p++) {
                int sum = upperRow[p] + lowerRow[p];
                if (found.quarrels == NONE || sum < found.quarrels) {
                    found.lie(upper, lower, p, sum);
                }
            }
        }

        private boolean mayLie(int h, int part) {
            return !halves.has(h) || halves.all[h].mayLieAs(part);
        }

        void copyFoundTo(Leaf leaf) {
            leaf.lie(found.upper, found.lower, found.place, found.quarrels);
            leaf.places = work.places();
            leaf.chance = placesUpTo(leaf);
            int either = Math.max(leaf.upper, leaf.lower);
            leaf.frontSide = halves.has(either) ? halves.all[either].side : 0;
        }

        private int placesUpTo(Leaf leaf) {
            int[] upperRow = rowOf(leaf.upper, UPPER);
            int[] lowerRow = rowOf(leaf.lower, LOWER);
            int sum = 0;
            for (int p = 0; p < leaf.places && p < MOST_PLACES; p++) {
                sum += upperRow[p] + lowerRow[p] <= leaf.quarrels ? 1 : 0;
            }
            return sum;
        }
    }

    /** Which HALVES go together, by the least sum for each set of HALVES (a bit each). */
    private static final class Pairing {
        private final int[][] costs = new int[MOST_HALVES][MOST_HALVES];
        private final int[] least = new int[1 << MOST_HALVES];
        private final int[] mates = new int[1 << MOST_HALVES];
        private int whole = 0;

        void settle(Scale scale, int halfCount, int price) {
            int size = Math.min(halfCount, MOST_HALVES);
            whole = (1 << size) - 1;
            for (int a = 0; a < size; a++) {
                for (int b = a; b < size; b++) {
                    costs[a][b] = scale.seekBest(a, b) ? scale.found.quarrels + price : NONE;
                }
            }
            least[0] = 0;
            for (int set = 1; set <= whole; set++) {
                settleSet(set, size);
            }
        }

        /** A set's first HALF takes its least mate of several: so the whole is the first of several. */
        private void settleSet(int set, int size) {
            int first = firstOf(set);
            least[set] = NONE;
            for (int mate = first; mate < size; mate++) {
                if (!isIn(set, mate) || costs[first][mate] == NONE) {
                    continue;
                }
                int sum = costs[first][mate] + least[without(set, first, mate)];
                if (least[set] == NONE || sum < least[set]) {
                    least[set] = sum;
                    mates[set] = mate;
                }
            }
        }

        int wholeSet() {
            return whole;
        }

        int sum() {
            return least[whole];
        }

        int mateOfFirst(int set) {
            return isWithin(set, whole) ? mates[set] : NONE;
        }

        static int firstOf(int set) {
            for (int h = 0; h < MOST_HALVES; h++) {
                if (isIn(set, h)) {
                    return h;
                }
            }
            return MOST_HALVES;
        }

        static boolean isIn(int set, int h) {
            return ((set >> h) & 1) == 1;
        }

        static int without(int set, int a, int b) {
            return set & ~(1 << a) & ~(1 << b);
        }
    }

    /** What was JOINED, as it was then, and the BOOK's order of it. */
    private static final class Book {
        final Leaf[] leaves = new Leaf[MOST_HALVES];
        final int[] order = new int[MOST_HALVES];
        final int[] leafOf = new int[MOST_HALVES];
        final int[][] lists = new int[MOST_HALVES][HALF_SPOTS];
        int size = 0;

        Book() {
            for (int k = 0; k < MOST_HALVES; k++) {
                leaves[k] = new Leaf();
            }
            Arrays.fill(leafOf, NONE);
        }

        void clear() {
            size = 0;
            Arrays.fill(leafOf, NONE);
        }

        boolean has(int k) {
            return k >= 0 && k < size && k < MOST_HALVES;
        }

        void keep(Scale scale, Pairing pairing, Halves halves) {
            clear();
            int left = pairing.wholeSet();
            for (int k = 0; k < MOST_HALVES && left != 0; k++) {
                int first = Pairing.firstOf(left);
                int mate = pairing.mateOfFirst(left);
                addLeaf(scale, first, mate);
                left = Pairing.without(left, first, mate);
            }
            keepLists(halves);
            putInOrder();
        }

        private void addLeaf(Scale scale, int first, int mate) {
            // seekBest refuses what is no HALF, so both may be used as indices behind it
            if (size < MOST_HALVES && scale.seekBest(first, mate)) {
                scale.copyFoundTo(leaves[size]);
                leafOf[first] = size;
                leafOf[mate] = size;
                size++;
            }
        }

        private void keepLists(Halves halves) {
            for (int h = 0; h < halves.size; h++) {
                System.arraycopy(halves.all[h].lists, 0, lists[h], 0, HALF_SPOTS);
            }
        }

        /** LEAVES come by their numbers and go past greater PLACES only, so like ones stay by numbers. */
        private void putInOrder() {
            for (int k = 0; k < size; k++) {
                int at = k;
                while (at > 0 && leaves[order[at - 1]].place > leaves[k].place) {
                    order[at] = order[at - 1];
                    at--;
                }
                order[at] = k;
            }
        }

        private boolean hasNext(int k) {
            return k >= 0 && k + 1 < size;
        }

        /** By how much the next LEAF is beyond the end of the k-th; only asked where there is a next. */
        private int gapBehind(int k) {
            return leaves[order[k + 1]].place - (leaves[order[k]].place + LEAF_LETTERS);
        }

        private boolean clashesBehind(int k) {
            return hasNext(k) && (gapBehind(k) < 0 || gapBehind(k) % LEAF_LETTERS != 0);
        }

        int lostBehind(int k) {
            return !hasNext(k) || clashesBehind(k) ? NONE : gapBehind(k) / LEAF_LETTERS;
        }

        /** A back is of the other SIDE than its front: so like fronts one behind the other are a BREAK. */
        boolean breaksBehind(int k) {
            return lostBehind(k) == 0 && leaves[order[k]].frontSide == leaves[order[k + 1]].frontSide;
        }

        int allQuarrels() {
            int sum = 0;
            for (int k = 0; k < size; k++) {
                sum += leaves[k].quarrels;
            }
            return sum;
        }

        int clashes() {
            int sum = 0;
            for (int k = 0; k < size; k++) {
                sum += clashesBehind(k) ? 1 : 0;
            }
            return sum;
        }

        int breaks() {
            int sum = 0;
            for (int k = 0; k < size; k++) {
                sum += breaksBehind(k) ? 1 : 0;
            }
            return sum;
        }

        int allLost() {
            int sum = 0;
            for (int k = 0; k < size; k++) {
                sum += Math.max(0, lostBehind(k));
            }
            return sum;
        }
    }
}
