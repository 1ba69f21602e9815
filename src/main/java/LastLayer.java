/**
 * Ricks that are threshed from above, layer by layer, and the rats that go down in them until they run.
 * What each call must do stands in the document, as numbered promises.
 */
public final class LastLayer {
    public static final int NONE = -1;

    private static final int MOST_THINGS = 4;
    private static final int MOST_LAYERS = 8;
    private static final int MOST_RATS = 9999;
    private static final int MOST_RUN_TRIED = 999;
    private static final int MOST_HOLDS = 99;
    private static final int MOST_WEIGHT = 9;
    private static final int MOST_PARTS = 20;
    private static final int MOST_WEEKS = 999;
    private static final int MOST_WEEKS_AT_ONCE = 99;
    private static final int MOST_SEED = 9999;
    private static final int MOST_SEEDS = 20;
    private static final int MOST_MARKS = 3;
    private static final int TRAYS = 4;
    private static final int SORTS = 4;
    private static final int TRAY_PLACES = 60;
    private static final int TAPE_BYTES = 900;
    private static final int FED_BYTES = 20;
    private static final int DAYS_BYTES = 300;
    private static final int STEPS_TOLD = 30;
    private static final int STEPS_DONE = 300;
    private static final int BLOCKS_OPEN = 3;
    private static final int NAME_LETTERS = 8;
    private static final int NUMBER_DIGITS = 4;

    // The STATUS of a call.
    private static final int GOOD = 0;
    private static final int NO_TRAY = 1;
    private static final int NO_THING = 2;
    private static final int TRAY_MISSING = 3;
    private static final int NO_PLACE = 4;
    private static final int BAD_NUMBER = 5;
    private static final int BELOW_ZERO = 6;
    private static final int TOO_MANY = 7;
    private static final int THERE_IS_NONE = 8;
    private static final int CANT_BE = 9;
    private static final int FAULTY = 10;
    private static final int UNLIKE_SORTS = 11;

    // The kinds of FAULTS.
    private static final int FAULT_TOKEN = 1;
    private static final int FAULT_STAND = 2;
    private static final int FAULT_NAME = 3;
    private static final int FAULT_NUMBER = 4;
    private static final int FAULT_TOLD = 5;
    private static final int FAULT_MORE = 6;
    private static final int FAULT_DEEP = 7;

    // What a TOKEN is.
    private static final int IS_END = 0;
    private static final int IS_WORD = 1;
    private static final int IS_NUMBER = 2;
    private static final int IS_SIGN = 3;
    private static final int IS_NAME = 4;
    private static final int IS_LONG_WORD = 5;
    private static final int IS_NOTHING = 6;

    // The words that no NAME may be, each with a blank behind it; the numbers below are their places in this row.
    private static final String WORDS = "rick holds layers caps side weight net to dog at catches tires boy reach penny corn breed cost take hour last gap move week wind when rats off tired loop end stop ";
    private static final int W_RICK = 0;
    private static final int W_HOLDS = 1;
    private static final int W_LAYERS = 2;
    private static final int W_CAPS = 3;
    private static final int W_SIDE = 4;
    private static final int W_WEIGHT = 5;
    private static final int W_NET = 6;
    private static final int W_TO = 7;
    private static final int W_DOG = 8;
    private static final int W_AT = 9;
    private static final int W_CATCHES = 10;
    private static final int W_TIRES = 11;
    private static final int W_BOY = 12;
    private static final int W_REACH = 13;
    private static final int W_PENNY = 14;
    private static final int W_CORN = 15;
    private static final int W_BREED = 16;
    private static final int W_COST = 17;
    private static final int W_TAKE = 18;
    private static final int W_HOUR = 19;
    private static final int W_LAST = 20;
    private static final int W_GAP = 21;
    private static final int W_MOVE = 22;
    private static final int W_WEEK = 23;
    private static final int W_WIND = 24;
    private static final int W_WHEN = 25;
    private static final int W_RATS = 26;
    private static final int W_OFF = 27;
    private static final int W_TIRED = 28;
    private static final int W_LOOP = 29;
    private static final int W_END = 30;
    private static final int W_STOP = 31;

    /** A row of numbers that are cut to the bits of its sort. */
    private static final class Tray {
        private final long[] row = new long[TRAY_PLACES];
        int sort;
        int size = NONE;

        boolean isMissing() {
            return size < 0;
        }

        void make(int newSort, int many) {
            sort = newSort;
            size = Math.min(many, TRAY_PLACES);
            for (int i = 0; i < TRAY_PLACES; i++) {
                row[i] = 0;
            }
        }

        boolean hasPlace(int place) {
            return place >= 0 && place < size;
        }

        boolean hasPlaces(int from, int many) {
            return from >= 0 && many >= 0 && many <= size && from <= size - many;
        }

        void put(int place, long v) {
            if (!hasPlace(place)) {
                return;
            }
            switch (sort) {
                case 0:
                    row[place] = (byte) v;
                    break;
                case 1:
                    row[place] = (short) v;
                    break;
                case 2:
                    row[place] = (int) v;
                    break;
                default:
                    row[place] = v;
                    break;
            }
        }

        long numberAt(int place) {
            return hasPlace(place) ? row[place] : NONE;
        }

        void pourInto(Tray other, int from, int to, int many) {
            if (hasPlaces(from, many) && other.hasPlaces(to, many)) {
                System.arraycopy(row, from, other.row, to, many);
            }
        }
    }

    /** A RICK: its LAYERS that are left stand in rats from upper up to end. */
    private static final class Rick {
        long name;
        int holds;
        boolean caps;
        private final int[] rats = new int[MOST_LAYERS];
        private int upper;
        private int end;

        void begin(long newName, int newHolds) {
            name = newName;
            holds = newHolds;
            caps = false;
            upper = 0;
            end = 0;
        }

        void addLayer(int many) {
            if (end < MOST_LAYERS) {
                rats[end] = many;
                end++;
            }
        }

        void copyFrom(Rick other) {
            name = other.name;
            holds = other.holds;
            caps = other.caps;
            upper = other.upper;
            end = other.end;
            System.arraycopy(other.rats, 0, rats, 0, MOST_LAYERS);
        }

        int layersLeft() {
            return end - upper;
        }

        /** RATS in the k-th LAYER that is left, NONE where there is no such one. */
        int ratsIn(int k) {
            if (k < 0 || k >= layersLeft()) {
                return NONE;
            }
            return rats[upper + k];
        }

        int ratsInAll() {
            int all = 0;
            for (int i = upper; i < end; i++) {
                all += rats[i];
            }
            return all;
        }

        /** The upper LAYER goes into the next one: how many are more than this one holds, and are out of it now. */
        int dropUpper() {
            if (layersLeft() < 2) {
                return 0;
            }
            int together = Math.min(rats[upper] + rats[upper + 1], MOST_RATS);
            upper++;
            int stay = Math.min(together, holds);
            rats[upper] = stay;
            return together - stay;
        }

        /** The RICK is gone but for the RATS that it had, which are told. */
        int strip() {
            int all = ratsInAll();
            upper = end;
            return all;
        }

        void turnBack(int many) {
            if (layersLeft() > 0) {
                rats[upper] = Math.min(rats[upper] + many, MOST_RATS);
            }
        }

        void takeIn(int many) {
            if (end > upper && end > 0) {
                int together = rats[end - 1] + many;
                rats[end - 1] = together > MOST_RATS ? MOST_RATS : together;
            }
        }

        /** One WEEK: how many RATS came. */
        int grow(int hundredths) {
            int came = 0;
            for (int i = upper; i < end; i++) {
                int now = Math.min(rats[i] + rats[i] * hundredths / 100, MOST_RATS);
                came += now - rats[i];
                rats[i] = now;
            }
            return came;
        }

        /** Whether with other HOLDS the first n HOURS would bring just the RUNS that the TRAY tells. */
        boolean runsSo(int otherHolds, Tray told, int n) {
            int down = ratsIn(0);
            for (int i = 0; i < n; i++) {
                down = Math.min(down + ratsIn(i + 1), MOST_RATS);
                int stay = Math.min(down, otherHolds);
                if (told.numberAt(i) != down - stay) {
                    return false;
                }
                down = stay;
            }
            return true;
        }
    }

    /** A SIDE; to is NONE where it leads to nowhere. */
    private static final class Side {
        long name;
        int weight;
        boolean net;
        int to = NONE;
        int off;

        void begin(long newName, int newWeight) {
            name = newName;
            weight = newWeight;
            net = false;
            to = NONE;
            off = 0;
        }

        void copyFrom(Side other) {
            name = other.name;
            weight = other.weight;
            net = other.net;
            to = other.to;
            off = other.off;
        }
    }

    /** A DOG or a BOY: most is what it catches in a RUN; a BOY's tires is 0 and is not asked. */
    private static final class Catcher {
        long name;
        int at;
        int most;
        int tires;
        int tails;
        int weary;

        void begin(long newName, int newAt) {
            name = newName;
            at = newAt;
            most = 0;
            tires = 0;
            tails = 0;
            weary = 0;
        }

        void copyFrom(Catcher other) {
            name = other.name;
            at = other.at;
            most = other.most;
            tires = other.tires;
            tails = other.tails;
            weary = other.weary;
        }

        boolean isTired() {
            return weary >= tires;
        }

        int seize(int can, int running) {
            int caught = can < running ? can : running;
            if (caught <= 0) {
                return 0;
            }
            tails += caught;
            weary += caught;
            return caught;
        }
    }

    /** The YARD with all that became of it. */
    private static final class Yard {
        final Rick[] ricks = new Rick[MOST_THINGS];
        final Side[] sides = new Side[MOST_THINGS];
        final Catcher[] dogs = new Catcher[MOST_THINGS];
        final Catcher[] boys = new Catcher[MOST_THINGS];
        private final int[] crowd = new int[MOST_THINGS];
        int rickMany;
        int sideMany;
        int dogMany;
        int boyMany;
        int penny;
        int corn;
        int breed;
        int cost;
        int atHand;
        int inNet;
        int off;
        int runs;
        int spent;

        Yard() {
            for (int i = 0; i < MOST_THINGS; i++) {
                ricks[i] = new Rick();
                sides[i] = new Side();
                dogs[i] = new Catcher();
                boys[i] = new Catcher();
            }
            penny = 1;
            corn = 1;
            atHand = NONE;
        }

        void clear() {
            rickMany = 0;
            sideMany = 0;
            dogMany = 0;
            boyMany = 0;
            penny = 1;
            corn = 1;
            breed = 0;
            cost = 0;
            atHand = NONE;
            inNet = 0;
            off = 0;
            runs = 0;
            spent = 0;
        }

        void copyFrom(Yard other) {
            rickMany = other.rickMany;
            sideMany = other.sideMany;
            dogMany = other.dogMany;
            boyMany = other.boyMany;
            penny = other.penny;
            corn = other.corn;
            breed = other.breed;
            cost = other.cost;
            atHand = other.atHand;
            inNet = other.inNet;
            off = other.off;
            runs = other.runs;
            spent = other.spent;
            for (int i = 0; i < rickMany; i++) {
                ricks[i].copyFrom(other.ricks[i]);
            }
            for (int i = 0; i < sideMany; i++) {
                sides[i].copyFrom(other.sides[i]);
            }
            for (int i = 0; i < dogMany; i++) {
                dogs[i].copyFrom(other.dogs[i]);
            }
            for (int i = 0; i < boyMany; i++) {
                boys[i].copyFrom(other.boys[i]);
            }
        }

        boolean hasRick(int rick) {
            return rick >= 0 && rick < rickMany;
        }

        boolean hasSide(int side) {
            return side >= 0 && side < sideMany;
        }

        boolean hasDog(int dog) {
            return dog >= 0 && dog < dogMany;
        }

        boolean hasBoy(int boy) {
            return boy >= 0 && boy < boyMany;
        }

        int rickNamed(long name) {
            for (int i = 0; i < rickMany; i++) {
                if (ricks[i].name == name) {
                    return i;
                }
            }
            return NONE;
        }

        int sideNamed(long name) {
            for (int i = 0; i < sideMany; i++) {
                if (sides[i].name == name) {
                    return i;
                }
            }
            return NONE;
        }

        int dogNamed(long name) {
            for (int i = 0; i < dogMany; i++) {
                if (dogs[i].name == name) {
                    return i;
                }
            }
            return NONE;
        }

        private int boyNamed(long name) {
            for (int i = 0; i < boyMany; i++) {
                if (boys[i].name == name) {
                    return i;
                }
            }
            return NONE;
        }

        boolean isTaken(long name) {
            return rickNamed(name) >= 0 || sideNamed(name) >= 0 || dogNamed(name) >= 0 || boyNamed(name) >= 0;
        }

        int tailsOfAll() {
            int all = 0;
            for (int i = 0; i < dogMany; i++) {
                all += dogs[i].tails;
            }
            for (int i = 0; i < boyMany; i++) {
                all += boys[i].tails;
            }
            return all;
        }

        int caught() {
            return tailsOfAll() + inNet;
        }

        int ratsInAll() {
            int all = 0;
            for (int i = 0; i < rickMany; i++) {
                all += ricks[i].ratsInAll();
            }
            return all;
        }

        int tiredSet() {
            int set = 0;
            for (int i = 0; i < dogMany; i++) {
                if (dogs[i].isTired()) {
                    set |= 1 << i;
                }
            }
            return set;
        }

        /** Sends n RATS to the SIDES, told in crowd; false where none has a WEIGHT. */
        private boolean spread(int n) {
            int weights = 0;
            for (int i = 0; i < sideMany; i++) {
                weights += sides[i].weight;
            }
            if (weights <= 0) {
                return false;
            }
            int rest = n;
            for (int i = 0; i < sideMany; i++) {
                crowd[i] = n * sides[i].weight / weights;
                rest -= crowd[i];
            }
            for (int i = 0; i < sideMany && rest > 0; i++) {
                if (sides[i].weight > 0) {
                    crowd[i]++;
                    rest--;
                }
            }
            return true;
        }

        int comeTo(int n, int side) {
            return hasSide(side) && spread(n) ? crowd[side] : 0;
        }

        /** In the LAST LAYER nets turn nobody back: who comes to one goes on to the next gap, if there is any. */
        private void driveOn() {
            for (int i = 0; i < sideMany; i++) {
                if (sides[i].net) {
                    int gap = nextGap(i);
                    if (gap >= 0) {
                        crowd[gap] += crowd[i];
                        crowd[i] = 0;
                    }
                }
            }
        }

        private int nextGap(int side) {
            for (int k = 1; k < sideMany; k++) {
                int next = (side + k) % sideMany;
                if (!sides[next].net) {
                    return next;
                }
            }
            return NONE;
        }

        /** A RUN of n: how many of them go back into the LAYER. */
        int rush(int n, boolean isLast) {
            if (n <= 0) {
                return 0;
            }
            runs++;
            if (!spread(n)) {
                off += n;
                return 0;
            }
            if (isLast) {
                driveOn();
            }
            int turned = 0;
            for (int i = 0; i < sideMany; i++) {
                if (!sides[i].net) {
                    passGap(i, crowd[i]);
                } else if (isLast) {
                    inNet += crowd[i];
                } else {
                    turned += crowd[i];
                }
            }
            return turned;
        }

        private void passGap(int side, int n) {
            if (n <= 0) {
                return;
            }
            int boysThere = 0;
            for (int i = 0; i < boyMany; i++) {
                if (boys[i].at == side) {
                    boysThere++;
                }
            }
            int running = n;
            for (int i = 0; i < dogMany; i++) {
                if (dogs[i].at == side) {
                    int can = Math.min(dogs[i].most - boysThere, dogs[i].tires - dogs[i].weary);
                    running -= dogs[i].seize(can, running);
                }
            }
            for (int i = 0; i < boyMany; i++) {
                if (boys[i].at == side) {
                    running -= boys[i].seize(boys[i].most, running);
                }
            }
            off += running;
            sides[side].off += running;
            if (hasRick(sides[side].to)) {
                ricks[sides[side].to].takeIn(running);
            }
        }

        /** TAKE: false where no LAYER is left. */
        boolean takeUp(int rick) {
            if (!hasRick(rick) || ricks[rick].layersLeft() == 0) {
                return false;
            }
            atHand = rick;
            return true;
        }

        int layersAtHand() {
            return hasRick(atHand) ? ricks[atHand].layersLeft() : 0;
        }

        /** A NET or a gap comes to a SIDE: false where it is there. */
        boolean setNet(int side, boolean net) {
            if (!hasSide(side) || sides[side].net == net) {
                return false;
            }
            sides[side].net = net;
            return true;
        }

        /** HOUR: how many RUN. */
        int threshLayer(int rick) {
            if (!hasRick(rick)) {
                return 0;
            }
            int many = ricks[rick].dropUpper();
            ricks[rick].turnBack(rush(many, false));
            return many;
        }

        /** LAST: how many RUN. The LAYER goes first, so that nobody comes back into its own RICK. */
        int threshLast(int rick, int parts) {
            if (!hasRick(rick) || parts <= 0) {
                return 0;
            }
            int many = ricks[rick].strip();
            atHand = NONE;
            for (int i = 0; i < parts; i++) {
                rush(i < many % parts ? many / parts + 1 : many / parts, true);
            }
            return many;
        }

        void threshWhole(int rick, int parts) {
            if (!hasRick(rick)) {
                return;
            }
            for (int i = 0; i < MOST_LAYERS && ricks[rick].layersLeft() > 1; i++) {
                threshLayer(rick);
            }
            threshLast(rick, parts);
        }

        /** BREED as it holds for a RICK: none come in one with CAPS, nor in the one AT HAND. */
        int breedIn(int rick) {
            return rick == atHand || !hasRick(rick) || ricks[rick].caps ? 0 : breed;
        }

        /** WEEKS go by; as soon as none come in one, none come later. */
        void passWeeks(int weeks) {
            int came = 1;
            for (int week = 0; week < weeks && came > 0; week++) {
                came = 0;
                for (int i = 0; i < rickMany; i++) {
                    came += ricks[i].grow(breedIn(i));
                }
            }
        }
    }

    /** The bytes that were fed, and the TOKENS of a TEXT, all cut ahead and then looked at one by one. */
    private static final class Tape {
        private final byte[] bytes = new byte[TAPE_BYTES];
        private final int[] kinds = new int[TAPE_BYTES + 1];
        private final int[] starts = new int[TAPE_BYTES + 1];
        private final long[] values = new long[TAPE_BYTES + 1];
        private int tokens;
        private int next;
        private int length;
        private int place;
        int size;
        int fault = NONE;
        int faultPlace = NONE;
        int kind;
        int word;
        int number;
        int sign;
        long name;
        private int start;

        boolean hasRoom() {
            return size + FED_BYTES <= TAPE_BYTES;
        }

        void addFour(int v) {
            for (int shift = 24; shift >= 0; shift -= 8) {
                if (size < TAPE_BYTES) {
                    bytes[size] = (byte) (v >> shift);
                    size++;
                }
            }
        }

        /** The first n bytes are the TEXT, and its first TOKEN is looked at. */
        void begin(int n) {
            fault = 0;
            faultPlace = NONE;
            length = Math.min(n, TAPE_BYTES);
            place = 0;
            tokens = 0;
            next = 0;
            boolean more = true;
            for (int i = 0; i <= TAPE_BYTES && more; i++) {
                more = cutToken();
            }
            advance();
        }

        private int byteAt(int i) {
            return i >= 0 && i < length ? bytes[i] : 0;
        }

        private boolean isLetter(int b) {
            return b >= 'a' && b <= 'z';
        }

        private boolean isDigit(int b) {
            return b >= '0' && b <= '9';
        }

        private void keep(int newKind, int from, long value) {
            if (tokens <= TAPE_BYTES) {
                kinds[tokens] = newKind;
                starts[tokens] = from;
                values[tokens] = value;
                tokens++;
            }
        }

        /** Cuts one TOKEN more; false if none can come behind it. */
        private boolean cutToken() {
            while (place < length && (byteAt(place) == ' ' || byteAt(place) == '\n')) {
                place++;
            }
            int b = byteAt(place);
            if (place >= length) {
                keep(IS_END, length, 0);
                return false;
            }
            if (isLetter(b)) {
                return cutWord();
            }
            if (isDigit(b)) {
                return cutNumber();
            }
            boolean isSign = b == ';' || b == '<' || b == '>' || b == '=';
            keep(isSign ? IS_SIGN : IS_NOTHING, place, b);
            place++;
            return isSign;
        }

        /** The value of a NAME is its letters, five bits each. */
        private boolean cutWord() {
            int from = place;
            long letters = 0;
            while (place < length && isLetter(byteAt(place))) {
                letters = letters * 32 + (byteAt(place) - 'a' + 1);
                place++;
            }
            int known = wordNumber(from);
            if (known >= 0) {
                keep(IS_WORD, from, known);
            } else if (place - from <= NAME_LETTERS) {
                keep(IS_NAME, from, letters);
            } else {
                keep(IS_LONG_WORD, from, 0);
            }
            return true;
        }

        /** Which of the WORDS stands from there up to place; NONE for another. */
        private int wordNumber(int from) {
            int at = from;
            int passed = 0;
            boolean same = true;
            for (int i = 0; i < WORDS.length(); i++) {
                char c = WORDS.charAt(i);
                if (c == ' ') {
                    if (same && at == place) {
                        return passed;
                    }
                    passed++;
                    at = from;
                    same = true;
                } else {
                    same = same && at < place && byteAt(at) == c;
                    at++;
                }
            }
            return NONE;
        }

        private boolean cutNumber() {
            int from = place;
            int value = 0;
            while (place < length && isDigit(byteAt(place))) {
                if (place - from < NUMBER_DIGITS) {
                    value = value * 10 + byteAt(place) - '0';
                }
                place++;
            }
            boolean isNumber = place - from <= NUMBER_DIGITS;
            keep(isNumber ? IS_NUMBER : IS_NOTHING, from, value);
            return isNumber;
        }

        /** Looks at the next TOKEN; the last one stays. */
        void advance() {
            if (next >= tokens || next > TAPE_BYTES) {
                return;
            }
            kind = kinds[next];
            start = starts[next];
            long value = values[next];
            next++;
            word = kind == IS_WORD ? (int) value : NONE;
            number = kind == IS_NUMBER ? (int) value : NONE;
            sign = kind == IS_SIGN ? (int) value : 0;
            name = kind == IS_NAME ? value : 0;
        }

        /** A FAULT at this TOKEN: what is no TOKEN at all comes ahead of every other kind. */
        boolean refuse(int faultKind) {
            fault = kind == IS_NOTHING ? FAULT_TOKEN : faultKind;
            faultPlace = start;
            return false;
        }

        boolean passWord(int wanted) {
            if (word != wanted) {
                return refuse(FAULT_STAND);
            }
            advance();
            return true;
        }

        boolean passSign(int wanted) {
            if (sign != wanted) {
                return refuse(FAULT_STAND);
            }
            advance();
            return true;
        }

        boolean isBetween(int least, int most) {
            return kind == IS_NUMBER && number >= least && number <= most;
        }

        /** The NUMBER that stands here, NONE with a FAULT. */
        int passNumber(int least, int most) {
            if (!isBetween(least, most)) {
                refuse(kind == IS_NUMBER ? FAULT_NUMBER : FAULT_STAND);
                return NONE;
            }
            int value = number;
            advance();
            return value;
        }

        /** Passes the NAME that stands here if found tells what it is of; NONE with a FAULT. */
        int passName(int found) {
            if (name == 0 || found < 0) {
                refuse(name == 0 ? FAULT_STAND : FAULT_NAME);
                return NONE;
            }
            advance();
            return found;
        }
    }

    /** Reads a YARD's TEXT into fresh. */
    private static final class YardReader {
        final Yard fresh = new Yard();
        private final Tape tape;
        private int told;

        YardReader(Tape tape) {
            this.tape = tape;
        }

        boolean readText(int n) {
            fresh.clear();
            told = 0;
            tape.begin(n);
            for (int part = 0; part <= TAPE_BYTES; part++) {
                if (tape.kind == IS_END) {
                    return true;
                }
                if (!readPart() || !tape.passSign(';')) {
                    return false;
                }
            }
            return false;
        }

        private boolean readPart() {
            switch (tape.word) {
                case W_RICK:
                    return readRick();
                case W_SIDE:
                    return readSide();
                case W_DOG:
                    return readDog();
                case W_BOY:
                    return readBoy();
                case W_PENNY:
                    return readSum(9);
                case W_CORN:
                    return readSum(9);
                case W_BREED:
                    return readSum(100);
                case W_COST:
                    return readSum(999);
                default:
                    return tape.refuse(FAULT_STAND);
            }
        }

        /** Passes the WORD of a thing and its new NAME, which is told; 0 with a FAULT. */
        private long passNewName(int already) {
            if (already >= MOST_THINGS) {
                tape.refuse(FAULT_MORE);
                return 0;
            }
            tape.advance();
            long name = tape.name;
            return tape.passName(fresh.isTaken(name) ? NONE : 0) < 0 ? 0 : name;
        }

        private boolean readRick() {
            long name = passNewName(fresh.rickMany);
            if (name == 0 || !tape.passWord(W_HOLDS)) {
                return false;
            }
            int holds = tape.passNumber(0, MOST_HOLDS);
            if (holds < 0 || !tape.passWord(W_LAYERS)) {
                return false;
            }
            Rick rick = fresh.ricks[fresh.rickMany];
            rick.begin(name, holds);
            if (!readLayers(rick)) {
                return false;
            }
            if (tape.word == W_CAPS) {
                rick.caps = true;
                tape.advance();
            }
            fresh.rickMany++;
            return true;
        }

        private boolean readLayers(Rick rick) {
            for (int i = 0; i < MOST_LAYERS; i++) {
                int many = tape.passNumber(0, 99);
                if (many < 0) {
                    return false;
                }
                rick.addLayer(many);
                if (tape.kind != IS_NUMBER) {
                    return true;
                }
            }
            return tape.refuse(tape.isBetween(0, 99) ? FAULT_MORE : FAULT_NUMBER);
        }

        private boolean readSide() {
            long name = passNewName(fresh.sideMany);
            if (name == 0 || !tape.passWord(W_WEIGHT)) {
                return false;
            }
            int weight = tape.passNumber(0, MOST_WEIGHT);
            if (weight < 0) {
                return false;
            }
            Side side = fresh.sides[fresh.sideMany];
            side.begin(name, weight);
            if (tape.word == W_NET) {
                side.net = true;
                tape.advance();
            }
            if (tape.word == W_TO) {
                tape.advance();
                side.to = tape.passName(fresh.rickNamed(tape.name));
                if (side.to < 0) {
                    return false;
                }
            }
            fresh.sideMany++;
            return true;
        }

        private boolean beginCatcher(Catcher catcher, int already) {
            long name = passNewName(already);
            if (name == 0 || !tape.passWord(W_AT)) {
                return false;
            }
            int at = tape.passName(fresh.sideNamed(tape.name));
            if (at < 0) {
                return false;
            }
            catcher.begin(name, at);
            return true;
        }

        private boolean readDog() {
            Catcher dog = fresh.dogs[Math.min(fresh.dogMany, MOST_THINGS - 1)];
            if (!beginCatcher(dog, fresh.dogMany) || !tape.passWord(W_CATCHES)) {
                return false;
            }
            dog.most = tape.passNumber(1, 20);
            if (dog.most < 0 || !tape.passWord(W_TIRES)) {
                return false;
            }
            dog.tires = tape.passNumber(1, 200);
            if (dog.tires < 0) {
                return false;
            }
            fresh.dogMany++;
            return true;
        }

        private boolean readBoy() {
            Catcher boy = fresh.boys[Math.min(fresh.boyMany, MOST_THINGS - 1)];
            if (!beginCatcher(boy, fresh.boyMany) || !tape.passWord(W_REACH)) {
                return false;
            }
            boy.most = tape.passNumber(0, 9);
            if (boy.most < 0) {
                return false;
            }
            fresh.boyMany++;
            return true;
        }

        private boolean readSum(int most) {
            int word = tape.word;
            int bit = 1 << (word - W_PENNY);
            if ((told & bit) != 0) {
                return tape.refuse(FAULT_TOLD);
            }
            told |= bit;
            tape.advance();
            int value = tape.passNumber(0, most);
            if (value < 0) {
                return false;
            }
            if (word == W_PENNY) {
                fresh.penny = value;
            } else if (word == W_CORN) {
                fresh.corn = value;
            } else if (word == W_BREED) {
                fresh.breed = value;
            } else {
                fresh.cost = value;
            }
            return true;
        }
    }

    /** DAYS: word is what a STEP does (a when bears the word of its TEST), close the STEP behind its end. */
    private static final class Days {
        final int[] word = new int[STEPS_TOLD];
        final int[] thing = new int[STEPS_TOLD];
        final int[] number = new int[STEPS_TOLD];
        final int[] sign = new int[STEPS_TOLD];
        final int[] close = new int[STEPS_TOLD];
        int steps;
        boolean there;

        void clear() {
            steps = 0;
            there = false;
        }

        void copyFrom(Days other) {
            steps = other.steps;
            there = other.there;
            System.arraycopy(other.word, 0, word, 0, STEPS_TOLD);
            System.arraycopy(other.thing, 0, thing, 0, STEPS_TOLD);
            System.arraycopy(other.number, 0, number, 0, STEPS_TOLD);
            System.arraycopy(other.sign, 0, sign, 0, STEPS_TOLD);
            System.arraycopy(other.close, 0, close, 0, STEPS_TOLD);
        }
    }

    /** Reads the TEXT of DAYS into fresh, by the NAMES of a YARD. */
    private static final class DaysReader {
        final Days fresh = new Days();
        private final Tape tape;
        private final Yard yard;
        private final int[] open = new int[BLOCKS_OPEN];
        private int depth;

        DaysReader(Tape tape, Yard yard) {
            this.tape = tape;
            this.yard = yard;
        }

        boolean readText(int n) {
            fresh.clear();
            depth = 0;
            tape.begin(n);
            for (int i = 0; i <= DAYS_BYTES; i++) {
                if (tape.kind == IS_END) {
                    fresh.there = depth == 0;
                    return fresh.there || tape.refuse(FAULT_STAND);
                }
                if (tape.word == W_END ? !readEnd() : !readStep()) {
                    return false;
                }
            }
            return false;
        }

        private boolean readEnd() {
            if (depth <= 0) {
                return tape.refuse(FAULT_STAND);
            }
            depth--;
            fresh.close[open[depth]] = fresh.steps;
            tape.advance();
            return tape.passSign(';');
        }

        private boolean readStep() {
            int word = tape.word;
            boolean isBlock = word == W_WHEN || word == W_LOOP;
            if (!isStep(word)) {
                return tape.refuse(FAULT_STAND);
            }
            int step = fresh.steps;
            if (step >= STEPS_TOLD) {
                return tape.refuse(FAULT_MORE);
            }
            if (isBlock && depth >= BLOCKS_OPEN) {
                return tape.refuse(FAULT_DEEP);
            }
            tape.advance();
            fresh.word[step] = word;
            fresh.thing[step] = 0;
            fresh.number[step] = 0;
            fresh.sign[step] = 0;
            fresh.close[step] = step + 1;
            if (!readRest(step, word) || !tape.passSign(';')) {
                return false;
            }
            fresh.steps++;
            if (isBlock) {
                open[depth] = step;
                depth++;
            }
            return true;
        }

        private boolean isStep(int word) {
            switch (word) {
                case W_TAKE:
                case W_HOUR:
                case W_LAST:
                case W_NET:
                case W_GAP:
                case W_MOVE:
                case W_WEEK:
                case W_WIND:
                case W_WHEN:
                case W_LOOP:
                case W_STOP:
                    return true;
                default:
                    return false;
            }
        }

        private boolean readRest(int step, int word) {
            switch (word) {
                case W_TAKE:
                    return readThing(step, yard.rickNamed(tape.name));
                case W_NET:
                case W_GAP:
                    return readThing(step, yard.sideNamed(tape.name));
                case W_LAST:
                    return readNumber(step, 1, MOST_PARTS);
                case W_WEEK:
                    return readNumber(step, 1, MOST_WEEKS_AT_ONCE);
                case W_LOOP:
                    return readNumber(step, 1, 99);
                case W_MOVE:
                    return readMove(step);
                case W_WHEN:
                    return readTest(step);
                default:
                    return true;
            }
        }

        private boolean readThing(int step, int found) {
            fresh.thing[step] = tape.passName(found);
            return fresh.thing[step] >= 0;
        }

        private boolean readNumber(int step, int least, int most) {
            fresh.number[step] = tape.passNumber(least, most);
            return fresh.number[step] >= 0;
        }

        private boolean readMove(int step) {
            if (!readThing(step, yard.dogNamed(tape.name)) || !tape.passWord(W_TO)) {
                return false;
            }
            fresh.number[step] = tape.passName(yard.sideNamed(tape.name));
            return fresh.number[step] >= 0;
        }

        private boolean readTest(int step) {
            int word = tape.word;
            if (word != W_RATS && word != W_OFF && word != W_TIRED) {
                return tape.refuse(FAULT_STAND);
            }
            fresh.word[step] = word;
            tape.advance();
            if (word == W_TIRED) {
                return readThing(step, yard.dogNamed(tape.name));
            }
            if (word == W_RATS && !readThing(step, yard.rickNamed(tape.name))) {
                return false;
            }
            if (tape.sign != '<' && tape.sign != '>' && tape.sign != '=') {
                return tape.refuse(FAULT_STAND);
            }
            fresh.sign[step] = tape.sign;
            tape.advance();
            return readNumber(step, 0, MOST_RATS);
        }
    }

    /** DAYS that are LIVED, and what came of them. */
    private static final class Life {
        boolean wasLived;
        int steps;
        int missed;
        int threshed;
        int caught;
        int off;
        boolean cut;
        private final int[] open = new int[BLOCKS_OPEN];
        private final int[] turns = new int[BLOCKS_OPEN];
        private int depth;
        private int s;

        void goThrough(Yard yard, Days days, int seed) {
            wasLived = true;
            steps = 0;
            missed = 0;
            threshed = 0;
            cut = false;
            depth = 0;
            s = seed;
            int caughtAhead = yard.caught();
            int offAhead = yard.off;
            int at = 0;
            for (int i = 0; i <= STEPS_DONE; i++) {
                at = leaveBlocks(days, at);
                if (at < 0 || at >= days.steps || at >= STEPS_TOLD) {
                    break;
                }
                if (steps >= STEPS_DONE) {
                    cut = true;
                    break;
                }
                steps++;
                if (days.word[at] == W_STOP) {
                    break;
                }
                at = doStep(yard, days, at);
            }
            caught = yard.caught() - caughtAhead;
            off = yard.off - offAhead;
        }

        /** From the end of blocks: to their beginning while turns are left, else behind them. */
        private int leaveBlocks(Days days, int at) {
            for (int i = 0; i < BLOCKS_OPEN && depth > 0; i++) {
                int block = open[depth - 1];
                if (at < days.close[block]) {
                    return at;
                }
                if (turns[depth - 1] > 1) {
                    turns[depth - 1]--;
                    return block + 1;
                }
                depth--;
            }
            return at;
        }

        /** Goes into a block that has STEPS, else behind it: which STEP comes next. */
        private int enterBlock(Days days, int at, int times) {
            if (times <= 0 || days.close[at] <= at + 1 || depth >= BLOCKS_OPEN) {
                return days.close[at];
            }
            open[depth] = at;
            turns[depth] = times;
            depth++;
            return at + 1;
        }

        /** Which STEP comes next. */
        private int doStep(Yard yard, Days days, int at) {
            int thing = days.thing[at];
            int number = days.number[at];
            switch (days.word[at]) {
                case W_LOOP:
                    return enterBlock(days, at, number);
                case W_RATS:
                    return enterBlock(days, at, holds(ratsOf(yard, thing), days.sign[at], number) ? 1 : 0);
                case W_OFF:
                    return enterBlock(days, at, holds(yard.off, days.sign[at], number) ? 1 : 0);
                case W_TIRED:
                    return enterBlock(days, at, yard.hasDog(thing) && yard.dogs[thing].isTired() ? 1 : 0);
                case W_TAKE:
                    missUnless(yard.takeUp(thing));
                    break;
                case W_HOUR:
                    missUnless(threshLayer(yard));
                    break;
                case W_LAST:
                    missUnless(threshLast(yard, number));
                    break;
                case W_NET:
                    missUnless(yard.setNet(thing, true));
                    break;
                case W_GAP:
                    missUnless(yard.setNet(thing, false));
                    break;
                case W_MOVE:
                    if (yard.hasDog(thing)) {
                        yard.dogs[thing].at = number;
                    }
                    break;
                case W_WEEK:
                    yard.passWeeks(number);
                    break;
                case W_WIND:
                    blow(yard);
                    break;
                default:
                    break;
            }
            return at + 1;
        }

        private void missUnless(boolean could) {
            if (!could) {
                missed++;
            }
        }

        private int ratsOf(Yard yard, int rick) {
            return yard.hasRick(rick) ? yard.ricks[rick].ratsInAll() : 0;
        }

        private boolean holds(int have, int sign, int number) {
            if (sign == '<') {
                return have < number;
            }
            return sign == '>' ? have > number : have == number;
        }

        private boolean threshLayer(Yard yard) {
            if (yard.layersAtHand() < 2) {
                return false;
            }
            yard.threshLayer(yard.atHand);
            threshed++;
            return true;
        }

        private boolean threshLast(Yard yard, int parts) {
            if (yard.layersAtHand() != 1) {
                return false;
            }
            yard.threshLast(yard.atHand, parts);
            threshed++;
            return true;
        }

        private void blow(Yard yard) {
            for (int i = 0; i < yard.sideMany; i++) {
                yard.sides[i].weight = draw(10);
            }
        }

        private int draw(int n) {
            s = (s * 2939 + 10631) % 65536;
            return n > 0 ? s / 8 % n : 0;
        }
    }

    /** What WOULD be: all is tried on a copy of the YARD. */
    private static final class Trial {
        final Yard copy = new Yard();
        private final Rick rick = new Rick();
        boolean netsFound;
        int netSet;
        int placeMany;
        final int[] places = new int[MOST_THINGS];
        int orderMany;
        final int[] order = new int[MOST_THINGS];
        private final int[] digits = new int[MOST_THINGS];

        /** Finds BEST NETS: how many are OFF. */
        int findNets(Yard yard, int rickNumber, int parts) {
            int best = NONE;
            for (int set = 0; set < 1 << yard.sideMany; set++) {
                copy.copyFrom(yard);
                for (int i = 0; i < yard.sideMany; i++) {
                    copy.sides[i].net = (set >> i & 1) == 1;
                }
                copy.threshWhole(rickNumber, parts);
                int off = copy.off - yard.off;
                boolean fewerNets = Integer.bitCount(set) < Integer.bitCount(netSet);
                if (best < 0 || off < best || off == best && fewerNets) {
                    best = off;
                    netSet = set;
                }
            }
            netsFound = true;
            return best;
        }

        /** The number as that many digits by a base, the highest first. */
        private void writeDigits(int value, int base, int many) {
            int rest = value;
            for (int i = many - 1; i >= 0 && base > 0; i--) {
                digits[i] = rest % base;
                rest /= base;
            }
        }

        private int power(int base, int many) {
            int all = 1;
            for (int i = 0; i < many; i++) {
                all *= base;
            }
            return all;
        }

        /** Finds BEST PLACES: how many are OFF. */
        int findPlaces(Yard yard, int rickNumber, int parts) {
            int best = NONE;
            placeMany = yard.dogMany;
            int ways = power(yard.sideMany, placeMany);
            for (int way = 0; way < ways; way++) {
                writeDigits(way, yard.sideMany, placeMany);
                copy.copyFrom(yard);
                for (int i = 0; i < placeMany; i++) {
                    copy.dogs[i].at = digits[i];
                }
                copy.threshWhole(rickNumber, parts);
                int off = copy.off - yard.off;
                if (best < 0 || off < best) {
                    best = off;
                    System.arraycopy(digits, 0, places, 0, MOST_THINGS);
                }
            }
            return best;
        }

        int ricksLeft(Yard yard) {
            int left = 0;
            for (int i = 0; i < yard.rickMany; i++) {
                if (yard.ricks[i].layersLeft() > 0) {
                    left++;
                }
            }
            return left;
        }

        /** Whether the digits are each another RICK with LAYERS left. */
        private boolean isOrder(Yard yard, int many) {
            int seen = 0;
            for (int i = 0; i < many; i++) {
                int next = digits[i];
                if (!yard.hasRick(next) || yard.ricks[next].layersLeft() == 0 || (seen >> next & 1) == 1) {
                    return false;
                }
                seen |= 1 << next;
            }
            return true;
        }

        /** Finds the BEST ORDER: how many are caught. */
        int findOrder(Yard yard, int parts) {
            int best = NONE;
            orderMany = ricksLeft(yard);
            int ways = power(yard.rickMany, orderMany);
            for (int way = 0; way < ways; way++) {
                writeDigits(way, yard.rickMany, orderMany);
                if (!isOrder(yard, orderMany)) {
                    continue;
                }
                copy.copyFrom(yard);
                for (int i = 0; i < orderMany; i++) {
                    copy.threshWhole(digits[i], parts);
                }
                int caught = copy.caught() - yard.caught();
                if (caught > best) {
                    best = caught;
                    System.arraycopy(digits, 0, order, 0, MOST_THINGS);
                }
            }
            return best;
        }

        int findParts(Yard yard, int rickNumber) {
            int best = NONE;
            int bestParts = 1;
            for (int parts = 1; parts <= MOST_PARTS; parts++) {
                copy.copyFrom(yard);
                copy.threshWhole(rickNumber, parts);
                int off = copy.off - yard.off;
                if (best < 0 || off < best) {
                    best = off;
                    bestParts = parts;
                }
            }
            return bestParts;
        }

        int findDearest(Yard yard, int rickNumber, int parts) {
            int most = NONE;
            int dearest = 0;
            for (int i = 0; i < yard.dogMany; i++) {
                copy.copyFrom(yard);
                copy.dogs[i].at = NONE;
                copy.threshWhole(rickNumber, parts);
                int off = copy.off - yard.off;
                if (off > most) {
                    most = off;
                    dearest = i;
                }
            }
            return dearest;
        }

        int ratsAfter(Yard yard, int rickNumber, int weeks) {
            rick.copyFrom(yard.ricks[rickNumber]);
            for (int week = 0; week < weeks; week++) {
                if (rick.grow(yard.breedIn(rickNumber)) == 0) {
                    break;
                }
            }
            return rick.ratsInAll();
        }

        /** In how many WEEKS the RICK has n RATS at least, NONE if never. */
        int weeksTo(Yard yard, int rickNumber, int n) {
            rick.copyFrom(yard.ricks[rickNumber]);
            for (int week = 0; week <= MOST_WEEKS; week++) {
                if (rick.ratsInAll() >= n) {
                    return week;
                }
                rick.grow(yard.breedIn(rickNumber));
            }
            return NONE;
        }

        long eatenIn(Yard yard, int rickNumber, int weeks) {
            rick.copyFrom(yard.ricks[rickNumber]);
            long eaten = 0;
            for (int week = 0; week < weeks; week++) {
                eaten += (long) yard.corn * rick.ratsInAll();
                rick.grow(yard.breedIn(rickNumber));
            }
            return eaten;
        }

        /** In how many WEEKS what is EATEN is no less than COST, NONE if never. */
        int weeksToCost(Yard yard, int rickNumber) {
            rick.copyFrom(yard.ricks[rickNumber]);
            long eaten = 0;
            for (int week = 0; week <= MOST_WEEKS; week++) {
                if (eaten >= yard.cost) {
                    return week;
                }
                eaten += (long) yard.corn * rick.ratsInAll();
                rick.grow(yard.breedIn(rickNumber));
            }
            return NONE;
        }
    }

    private final Tray[] trays = new Tray[TRAYS];
    private final Tape tape = new Tape();
    private final Yard yard = new Yard();
    private final Days days = new Days();
    private final YardReader yardReader = new YardReader(tape);
    private final DaysReader daysReader = new DaysReader(tape, yard);
    private final Trial trial = new Trial();
    private final Life life = new Life();
    private final Life dream = new Life();
    private final Yard[] markedYards = new Yard[MOST_MARKS];
    private final Days[] markedDays = new Days[MOST_MARKS];
    private int marks;
    private int status;
    private long top;
    private long bottom = 1;

    public LastLayer() {
        for (int i = 0; i < TRAYS; i++) {
            trays[i] = new Tray();
        }
        for (int i = 0; i < MOST_MARKS; i++) {
            markedYards[i] = new Yard();
            markedDays[i] = new Days();
        }
    }

    private int good(int answer) {
        status = GOOD;
        return answer;
    }

    private int bad(int newStatus) {
        status = newStatus;
        return NONE;
    }

    private boolean did() {
        status = GOOD;
        return true;
    }

    private boolean didNot(int newStatus) {
        status = newStatus;
        return false;
    }

    private boolean isTray(int tray) {
        return tray >= 0 && tray < TRAYS;
    }

    private boolean isBetween(int number, int least, int most) {
        return number >= least && number <= most;
    }

    /** The FRACTION; both are no less than 0, the bottom is above it. */
    private void tellFraction(long newTop, long newBottom) {
        long divisor = newBottom;
        long rest = newTop;
        for (int i = 0; i < 100 && rest != 0; i++) {
            long next = divisor % rest;
            divisor = rest;
            rest = next;
        }
        if (divisor > 0) {
            top = newTop / divisor;
            bottom = newBottom / divisor;
        }
    }

    public int status() {
        return status;
    }

    public long top() {
        return top;
    }

    public long bottom() {
        return bottom;
    }

    // ---- TRAYS

    public boolean tray(int tray, int sort, int many) {
        if (!isTray(tray) || !isBetween(sort, 0, SORTS - 1)) {
            return didNot(NO_TRAY);
        }
        if (many > TRAY_PLACES) {
            return didNot(BAD_NUMBER);
        }
        if (many < 0) {
            return didNot(BELOW_ZERO);
        }
        trays[tray].make(sort, many);
        return did();
    }

    /** STATUS for a place of a TRAY. */
    private int placeStatus(int tray, int place) {
        if (!isTray(tray)) {
            return NO_TRAY;
        }
        if (trays[tray].isMissing()) {
            return TRAY_MISSING;
        }
        return trays[tray].hasPlace(place) ? GOOD : NO_PLACE;
    }

    public boolean write(int tray, int place, long v) {
        int found = placeStatus(tray, place);
        if (found != GOOD) {
            return didNot(found);
        }
        trays[tray].put(place, v);
        return did();
    }

    public long read(int tray, int place) {
        int found = placeStatus(tray, place);
        if (found != GOOD) {
            return bad(found);
        }
        status = GOOD;
        return trays[tray].numberAt(place);
    }

    public boolean pour(int tray, int i, int to, int j, int many) {
        if (!isTray(tray) || !isTray(to)) {
            return didNot(NO_TRAY);
        }
        if (trays[tray].isMissing() || trays[to].isMissing()) {
            return didNot(TRAY_MISSING);
        }
        if (trays[tray].sort != trays[to].sort) {
            return didNot(UNLIKE_SORTS);
        }
        if (many < 0) {
            return didNot(BELOW_ZERO);
        }
        if (!trays[tray].hasPlaces(i, many) || !trays[to].hasPlaces(j, many)) {
            return didNot(NO_PLACE);
        }
        trays[tray].pourInto(trays[to], i, j, many);
        return did();
    }

    // ---- texts

    public int feed(int a, int b, int c, int d, int e) {
        if (!tape.hasRoom()) {
            return NONE;
        }
        tape.addFour(a);
        tape.addFour(b);
        tape.addFour(c);
        tape.addFour(d);
        tape.addFour(e);
        return tape.size;
    }

    public int yard(int n) {
        if (n < 0 || n > tape.size) {
            return bad(BAD_NUMBER);
        }
        boolean taken = yardReader.readText(n);
        tape.size = 0;
        if (!taken) {
            return bad(FAULTY);
        }
        yard.copyFrom(yardReader.fresh);
        days.clear();
        return good(yard.rickMany);
    }

    public int days(int n) {
        if (n < 0 || n > DAYS_BYTES || n > tape.size) {
            return bad(BAD_NUMBER);
        }
        boolean taken = daysReader.readText(n);
        tape.size = 0;
        if (!taken) {
            return bad(FAULTY);
        }
        days.copyFrom(daysReader.fresh);
        return good(days.steps);
    }

    public int fault(int what) {
        if (what == 0) {
            return tape.fault;
        }
        return what == 1 ? tape.faultPlace : NONE;
    }

    public int many(int what) {
        switch (what) {
            case 0:
                return good(yard.rickMany);
            case 1:
                return good(yard.sideMany);
            case 2:
                return good(yard.dogMany);
            case 3:
                return good(yard.boyMany);
            case 4:
                return good(yard.penny);
            case 5:
                return good(yard.corn);
            case 6:
                return good(yard.breed);
            case 7:
                return good(yard.cost);
            case 8:
                return yard.atHand < 0 ? bad(THERE_IS_NONE) : good(yard.atHand);
            case 9:
                return good(yard.caught());
            case 10:
                return good(yard.off);
            case 11:
                return good(yard.runs);
            default:
                return bad(BAD_NUMBER);
        }
    }

    public int rick(int rick, int what) {
        if (!yard.hasRick(rick)) {
            return bad(NO_THING);
        }
        switch (what) {
            case 0:
                return good(yard.ricks[rick].holds);
            case 1:
                return good(yard.ricks[rick].layersLeft());
            case 2:
                return good(yard.ricks[rick].ratsInAll());
            case 3:
                return good(yard.ricks[rick].caps ? 1 : 0);
            default:
                return bad(BAD_NUMBER);
        }
    }

    public int layer(int rick, int k) {
        if (!yard.hasRick(rick)) {
            return bad(NO_THING);
        }
        int rats = yard.ricks[rick].ratsIn(k);
        return rats < 0 ? bad(THERE_IS_NONE) : good(rats);
    }

    public int side(int side, int what) {
        if (!yard.hasSide(side)) {
            return bad(NO_THING);
        }
        switch (what) {
            case 0:
                return good(yard.sides[side].weight);
            case 1:
                return good(yard.sides[side].net ? 1 : 0);
            case 2:
                return yard.sides[side].to < 0 ? bad(THERE_IS_NONE) : good(yard.sides[side].to);
            case 3:
                return good(yard.sides[side].off);
            default:
                return bad(BAD_NUMBER);
        }
    }

    public int dog(int dog, int what) {
        if (!yard.hasDog(dog)) {
            return bad(NO_THING);
        }
        switch (what) {
            case 0:
                return good(yard.dogs[dog].at);
            case 1:
                return good(yard.dogs[dog].most);
            case 2:
                return good(yard.dogs[dog].tires);
            case 3:
                return good(yard.dogs[dog].tails);
            default:
                return bad(BAD_NUMBER);
        }
    }

    public int boy(int boy, int what) {
        if (!yard.hasBoy(boy)) {
            return bad(NO_THING);
        }
        switch (what) {
            case 0:
                return good(yard.boys[boy].at);
            case 1:
                return good(yard.boys[boy].most);
            case 2:
                return good(yard.boys[boy].tails);
            default:
                return bad(BAD_NUMBER);
        }
    }

    public int netted() {
        return good(yard.inNet);
    }

    public int pay() {
        return good(yard.tailsOfAll() * yard.penny);
    }

    public boolean share() {
        int caught = yard.caught();
        int all = caught + yard.off;
        if (all <= 0) {
            return didNot(THERE_IS_NONE);
        }
        tellFraction(caught, all);
        return did();
    }

    public int copyLayers(int rick, int tray) {
        if (!isTray(tray)) {
            return bad(NO_TRAY);
        }
        if (trays[tray].isMissing()) {
            return bad(TRAY_MISSING);
        }
        if (!yard.hasRick(rick)) {
            return bad(NO_THING);
        }
        int left = yard.ricks[rick].layersLeft();
        if (left > trays[tray].size) {
            return bad(NO_PLACE);
        }
        for (int i = 0; i < left; i++) {
            trays[tray].put(i, yard.ricks[rick].ratsIn(i));
        }
        return good(left);
    }

    // ---- what is done

    public int take(int rick) {
        if (!yard.hasRick(rick)) {
            return bad(NO_THING);
        }
        return yard.takeUp(rick) ? good(yard.layersAtHand()) : bad(CANT_BE);
    }

    public int hour() {
        if (!yard.hasRick(yard.atHand)) {
            return bad(THERE_IS_NONE);
        }
        if (yard.layersAtHand() < 2) {
            return bad(CANT_BE);
        }
        return good(yard.threshLayer(yard.atHand));
    }

    public int last(int parts) {
        if (!isBetween(parts, 1, MOST_PARTS)) {
            return bad(BAD_NUMBER);
        }
        if (!yard.hasRick(yard.atHand)) {
            return bad(THERE_IS_NONE);
        }
        if (yard.layersAtHand() != 1) {
            return bad(CANT_BE);
        }
        return good(yard.threshLast(yard.atHand, parts));
    }

    private boolean setNet(int side, boolean net) {
        if (!yard.hasSide(side)) {
            return didNot(NO_THING);
        }
        return yard.setNet(side, net) ? did() : didNot(CANT_BE);
    }

    public boolean net(int side) {
        return setNet(side, true);
    }

    public boolean gap(int side) {
        return setNet(side, false);
    }

    public boolean move(int dog, int side) {
        if (!yard.hasDog(dog) || !yard.hasSide(side)) {
            return didNot(NO_THING);
        }
        yard.dogs[dog].at = side;
        return did();
    }

    public boolean send(int boy, int side) {
        if (!yard.hasBoy(boy) || !yard.hasSide(side)) {
            return didNot(NO_THING);
        }
        yard.boys[boy].at = side;
        return did();
    }

    public boolean lean(int side, int weight) {
        if (!yard.hasSide(side)) {
            return didNot(NO_THING);
        }
        if (!isBetween(weight, 0, MOST_WEIGHT)) {
            return didNot(BAD_NUMBER);
        }
        yard.sides[side].weight = weight;
        return did();
    }

    public int rest() {
        int were = Integer.bitCount(yard.tiredSet());
        for (int i = 0; i < yard.dogMany; i++) {
            yard.dogs[i].weary = 0;
        }
        return good(were);
    }

    public int week(int weeks) {
        if (!isBetween(weeks, 1, MOST_WEEKS_AT_ONCE)) {
            return bad(BAD_NUMBER);
        }
        yard.passWeeks(weeks);
        return good(yard.ratsInAll());
    }

    // ---- what WOULD be

    public int toSide(int n, int side) {
        if (!yard.hasSide(side)) {
            return bad(NO_THING);
        }
        if (!isBetween(n, 0, MOST_RATS)) {
            return bad(BAD_NUMBER);
        }
        return good(yard.comeTo(n, side));
    }

    public int run(int n, boolean last, int what) {
        if (!isBetween(n, 0, MOST_RUN_TRIED) || !isBetween(what, 0, 2)) {
            return bad(BAD_NUMBER);
        }
        trial.copy.copyFrom(yard);
        int turned = trial.copy.rush(n, last);
        if (what == 2) {
            return good(turned);
        }
        return good(what == 0 ? trial.copy.caught() - yard.caught() : trial.copy.off - yard.off);
    }

    /** STATUS for a whole RICK that is threshed, the LAST LAYER in parts. */
    private int wholeStatus(int rick, int parts) {
        if (!yard.hasRick(rick)) {
            return NO_THING;
        }
        if (yard.ricks[rick].layersLeft() == 0) {
            return CANT_BE;
        }
        return isBetween(parts, 1, MOST_PARTS) ? GOOD : BAD_NUMBER;
    }

    public int whole(int rick, int parts, int what) {
        int found = wholeStatus(rick, parts);
        if (found != GOOD) {
            return bad(found);
        }
        if (!isBetween(what, 0, 2)) {
            return bad(BAD_NUMBER);
        }
        trial.copy.copyFrom(yard);
        trial.copy.threshWhole(rick, parts);
        if (what == 2) {
            return good(trial.copy.runs - yard.runs);
        }
        return good(what == 0 ? trial.copy.caught() - yard.caught() : trial.copy.off - yard.off);
    }

    public int bestNets(int rick, int parts) {
        int found = wholeStatus(rick, parts);
        return found != GOOD ? bad(found) : good(trial.findNets(yard, rick, parts));
    }

    public int netSet() {
        return trial.netsFound ? good(trial.netSet) : bad(THERE_IS_NONE);
    }

    public int bestPlaces(int rick, int parts) {
        int found = wholeStatus(rick, parts);
        if (found != GOOD) {
            return bad(found);
        }
        if (yard.sideMany == 0 || yard.dogMany == 0) {
            return bad(THERE_IS_NONE);
        }
        return good(trial.findPlaces(yard, rick, parts));
    }

    public int placeAt(int dog) {
        if (!isBetween(dog, 0, trial.placeMany - 1)) {
            return bad(THERE_IS_NONE);
        }
        return good(trial.places[dog]);
    }

    public int bestOrder(int parts) {
        if (!isBetween(parts, 1, MOST_PARTS)) {
            return bad(BAD_NUMBER);
        }
        if (trial.ricksLeft(yard) == 0) {
            return bad(THERE_IS_NONE);
        }
        return good(trial.findOrder(yard, parts));
    }

    public int orderAt(int k) {
        if (!isBetween(k, 0, trial.orderMany - 1)) {
            return bad(THERE_IS_NONE);
        }
        return good(trial.order[k]);
    }

    public int slowly(int rick) {
        int found = wholeStatus(rick, 1);
        return found != GOOD ? bad(found) : good(trial.findParts(yard, rick));
    }

    public int dearest(int rick, int parts) {
        int found = wholeStatus(rick, parts);
        if (found != GOOD) {
            return bad(found);
        }
        return yard.dogMany == 0 ? bad(THERE_IS_NONE) : good(trial.findDearest(yard, rick, parts));
    }

    public int proudest() {
        if (yard.dogMany == 0) {
            return bad(THERE_IS_NONE);
        }
        int first = 0;
        for (int i = 1; i < yard.dogMany; i++) {
            if (yard.dogs[i].tails > yard.dogs[first].tails) {
                first = i;
            }
        }
        return good(first);
    }

    public int tired() {
        return good(yard.tiredSet());
    }

    // ---- WEEKS

    /** STATUS for a RICK and a number that goes with it. */
    private int rickStatus(int rick, int number, int most) {
        if (!yard.hasRick(rick)) {
            return NO_THING;
        }
        return isBetween(number, 0, most) ? GOOD : BAD_NUMBER;
    }

    public int later(int rick, int weeks) {
        int found = rickStatus(rick, weeks, MOST_WEEKS);
        return found != GOOD ? bad(found) : good(trial.ratsAfter(yard, rick, weeks));
    }

    public int backTo(int rick, int n) {
        int found = rickStatus(rick, n, MOST_RATS);
        if (found != GOOD) {
            return bad(found);
        }
        int weeks = trial.weeksTo(yard, rick, n);
        return weeks < 0 ? bad(THERE_IS_NONE) : good(weeks);
    }

    public long eaten(int rick, int weeks) {
        int found = rickStatus(rick, weeks, MOST_WEEKS);
        if (found != GOOD) {
            return bad(found);
        }
        status = GOOD;
        return trial.eatenIn(yard, rick, weeks);
    }

    public int capsPay(int rick) {
        if (!yard.hasRick(rick)) {
            return bad(NO_THING);
        }
        int weeks = trial.weeksToCost(yard, rick);
        if (weeks < 0) {
            return bad(THERE_IS_NONE);
        }
        return yard.ricks[rick].caps ? bad(CANT_BE) : good(weeks);
    }

    public int cap(int rick) {
        if (!yard.hasRick(rick)) {
            return bad(NO_THING);
        }
        if (yard.ricks[rick].caps) {
            return bad(CANT_BE);
        }
        yard.ricks[rick].caps = true;
        yard.spent += yard.cost;
        return good(yard.spent);
    }

    // ---- told RUNS

    private int tellsStatus(int rick, int tray, int n, int what) {
        if (!isTray(tray)) {
            return NO_TRAY;
        }
        if (!yard.hasRick(rick)) {
            return NO_THING;
        }
        if (trays[tray].isMissing()) {
            return TRAY_MISSING;
        }
        if (n > trays[tray].size) {
            return NO_PLACE;
        }
        if (!isBetween(n, 1, yard.ricks[rick].layersLeft() - 1) || !isBetween(what, 0, 2)) {
            return BAD_NUMBER;
        }
        for (int i = 0; i < n; i++) {
            long told = trays[tray].numberAt(i);
            if (told < 0 || told > MOST_RATS) {
                return BAD_NUMBER;
            }
        }
        return GOOD;
    }

    public int tells(int rick, int tray, int n, int what) {
        int found = tellsStatus(rick, tray, n, what);
        if (found != GOOD) {
            return bad(found);
        }
        int least = NONE;
        int greatest = NONE;
        int many = 0;
        for (int holds = 0; holds <= MOST_HOLDS; holds++) {
            if (yard.ricks[rick].runsSo(holds, trays[tray], n)) {
                least = many == 0 ? holds : least;
                greatest = holds;
                many++;
            }
        }
        if (many == 0) {
            return bad(THERE_IS_NONE);
        }
        if (what == 2) {
            return good(many);
        }
        return good(what == 0 ? least : greatest);
    }

    // ---- DAYS

    public int live(int seed) {
        if (!isBetween(seed, 0, MOST_SEED)) {
            return bad(BAD_NUMBER);
        }
        if (!days.there) {
            return bad(THERE_IS_NONE);
        }
        life.goThrough(yard, days, seed);
        return good(life.steps);
    }

    public int lived(int what) {
        if (!isBetween(what, 0, 4)) {
            return bad(BAD_NUMBER);
        }
        if (!life.wasLived) {
            return bad(THERE_IS_NONE);
        }
        switch (what) {
            case 0:
                return good(life.missed);
            case 1:
                return good(life.threshed);
            case 2:
                return good(life.caught);
            case 3:
                return good(life.off);
            default:
                return good(life.cut ? 1 : 0);
        }
    }

    public boolean mean(int seed, int many) {
        if (!isBetween(many, 1, MOST_SEEDS) || !isBetween(seed, 0, MOST_SEED - many + 1)) {
            return didNot(BAD_NUMBER);
        }
        if (!days.there) {
            return didNot(THERE_IS_NONE);
        }
        long caught = 0;
        for (int i = 0; i < many; i++) {
            trial.copy.copyFrom(yard);
            dream.goThrough(trial.copy, days, seed + i);
            caught += dream.caught;
        }
        tellFraction(caught, many);
        return did();
    }

    // ---- MARKS

    public int mark() {
        if (marks >= MOST_MARKS) {
            return bad(TOO_MANY);
        }
        markedYards[marks].copyFrom(yard);
        markedDays[marks].copyFrom(days);
        marks++;
        return good(marks);
    }

    public int back() {
        if (marks <= 0) {
            return bad(THERE_IS_NONE);
        }
        marks--;
        yard.copyFrom(markedYards[marks]);
        days.copyFrom(markedDays[marks]);
        return good(marks);
    }
}
