/** A loom whose patterns are written: programs of tokens, a tie-up, and the cloth that comes of both. */
public final class TreadleLoom {

    private static final int PROGRAMS = 10;
    private static final int THREADING = 0;
    private static final int TREADLING = 1;
    private static final int END_COLOURS = 2;
    private static final int PICK_COLOURS = 3;
    private static final int FIRST_BLOCK = 4;

    private static final int MOST_TOKENS = 40;
    private static final int MOST_NUMBERS = 32;
    private static final int SHAFTS = 8;
    private static final int TREADLES = 8;
    private static final int COLOURS = 8;
    private static final int ALL_SHAFTS = 255;

    private static final int LAST_NUMBER = 7;
    private static final int OPEN = 10;
    private static final int CLOSE = 11;
    private static final int TIMES_TWO = 22;
    private static final int BACK = 30;
    private static final int MIRROR = 31;
    private static final int UP = 32;
    private static final int DOWN = 33;
    private static final int BLOCK_ZERO = 40;
    private static final int FIRST_BLOCK_TOKEN = 44;
    private static final int LAST_BLOCK_TOKEN = 49;

    private static final int NO_FAULT = 0;
    private static final int NO_ITEM_YET = 1;
    private static final int CLOSE_WITHOUT_OPEN = 2;
    private static final int OPEN_WITHOUT_CLOSE = 3;
    private static final int BLOCK_NOT_SMALLER = 4;
    private static final int TOO_MANY_NUMBERS = 5;
    private static final int FAULTY_BLOCK = 6;

    private static final long DIGEST_START = 58095L;
    private static final long DIGEST_FACTOR = 31L;

    private final Program[] programs;
    private final Compiler compiler;
    private final Row ties;
    private final Cloth woven;

    // What would be is worked out in these, so that no question makes an object of its own.
    private final Program draft;
    private final Row trialTies;
    private final Cloth trial;

    public TreadleLoom() {
        programs = new Program[PROGRAMS];
        for (int i = 0; i < programs.length; i++) {
            programs[i] = new Program();
        }
        compiler = new Compiler();
        ties = new Row(TREADLES);
        for (int treadle = 0; treadle < TREADLES; treadle++) {
            ties.add(1 << treadle);
        }
        woven = new Cloth();
        draft = new Program();
        trialTies = new Row(TREADLES);
        trial = new Cloth();
    }

    // ---- programs

    public int token(int program, int token)
            throws IndexOutOfBoundsException, IllegalArgumentException, IllegalStateException {
        Program chosen = programForToken(program, token);
        chosen.tokens.add(token);
        renewFrom(program);
        return chosen.tokens.size;
    }

    public int untoken(int program, int many) throws IndexOutOfBoundsException, IllegalArgumentException {
        Program chosen = programAt(program);
        if (many < 1 || many > MOST_TOKENS) {
            throw new IllegalArgumentException("many is not 1 to 40");
        }
        chosen.tokens.cutTo(chosen.tokens.size - many);
        renewFrom(program);
        return chosen.tokens.size;
    }

    public int ofProgram(int program, int what) throws IndexOutOfBoundsException, IllegalArgumentException {
        Program chosen = programAt(program);
        switch (what) {
            case 0: return chosen.tokens.size;
            case 1: return chosen.numbers.size;
            case 2: return chosen.fault;
            case 3: return chosen.faultPlace;
            default: throw new IllegalArgumentException("what is not 0 to 3");
        }
    }

    public int number(int program, int place) throws IndexOutOfBoundsException {
        Row numbers = programAt(program).numbers;
        if (place < 0 || place >= numbers.size) {
            throw new IndexOutOfBoundsException("no such place");
        }
        return numbers.at(place);
    }

    public int period(int program) throws IndexOutOfBoundsException {
        return programAt(program).numbers.leastPeriod();
    }

    private Program programAt(int program) {
        if (program < 0 || program >= programs.length) {
            throw new IndexOutOfBoundsException("no such program");
        }
        return programs[program];
    }

    /** The program, if the token can be added to it: token and lengthWith refuse the same. */
    private Program programForToken(int program, int token) {
        Program chosen = programAt(program);
        if (!isToken(token)) {
            throw new IllegalArgumentException("no such token");
        }
        if (chosen.tokens.size >= MOST_TOKENS) {
            throw new IllegalStateException("the program has 40 tokens");
        }
        return chosen;
    }

    private static boolean isToken(int token) {
        return token >= 0 && token <= LAST_NUMBER
                || token == OPEN || token == CLOSE
                || token >= TIMES_TWO && token <= DOWN
                || token >= FIRST_BLOCK_TOKEN && token <= LAST_BLOCK_TOKEN;
    }

    /** Compiles the program anew and all that may name it: a block only names smaller ones. */
    private void renewFrom(int program) {
        boolean isBlock = program >= FIRST_BLOCK;
        for (int block = program; isBlock && block < programs.length; block++) {
            compiler.compile(programs, block, programs[block]);
        }
        for (int row = 0; row < FIRST_BLOCK; row++) {
            if (isBlock || row == program) {
                compiler.compile(programs, row, programs[row]);
            }
        }
        weave();
    }

    // ---- the loom

    public int tie(int treadle, int shafts) throws IndexOutOfBoundsException, IllegalArgumentException {
        checkTreadle(treadle);
        if (shafts < 0 || shafts > ALL_SHAFTS) {
            throw new IllegalArgumentException("shafts is not 0 to 255");
        }
        int before = ties.at(treadle);
        ties.put(treadle, shafts);
        weave();
        return before;
    }

    public int tied(int treadle) throws IndexOutOfBoundsException {
        checkTreadle(treadle);
        return ties.at(treadle);
    }

    public int twill(int n, int up) throws IllegalArgumentException {
        if (n < 2 || n > SHAFTS) {
            throw new IllegalArgumentException("n is not 2 to 8");
        }
        if (up < 1 || up > n) {
            throw new IllegalArgumentException("up is not 1 to n");
        }
        trialTies.clear();
        for (int treadle = 0; treadle < TREADLES; treadle++) {
            int shafts = 0;
            for (int i = 0; treadle < n && i < up; i++) {
                shafts |= 1 << ((treadle + i) % n);
            }
            trialTies.add(shafts);
        }
        return takeTrialTies();
    }

    public int swap(int one, int other) throws IndexOutOfBoundsException {
        checkShaft(one);
        checkShaft(other);
        swapInTrialTies(one, other);
        return takeTrialTies();
    }

    private static void checkTreadle(int treadle) {
        if (treadle < 0 || treadle >= TREADLES) {
            throw new IndexOutOfBoundsException("no such treadle");
        }
    }

    private static void checkShaft(int shaft) {
        if (shaft < 0 || shaft >= SHAFTS) {
            throw new IndexOutOfBoundsException("no such shaft");
        }
    }

    /** Makes the trial tie-up the loom's own; answers how many treadles differ by it. */
    private int takeTrialTies() {
        int changed = 0;
        for (int treadle = 0; treadle < TREADLES; treadle++) {
            if (ties.at(treadle) != trialTies.at(treadle)) {
                changed++;
            }
        }
        ties.copyFrom(trialTies);
        weave();
        return changed;
    }

    private void swapInTrialTies(int one, int other) {
        trialTies.clear();
        for (int treadle = 0; treadle < TREADLES; treadle++) {
            int shafts = ties.at(treadle);
            int differs = ((shafts >> one) ^ (shafts >> other)) & 1;
            trialTies.add(shafts ^ ((differs << one) | (differs << other)));
        }
    }

    private void weave() {
        woven.weave(programs[THREADING].numbers, programs[TREADLING].numbers, ties);
    }

    // ---- the cloth

    public int cloth(int what) throws IllegalArgumentException {
        switch (what) {
            case 0: return woven.ends.size;
            case 1: return woven.picks.size;
            case 2: return woven.ends.countBits();
            case 3: return woven.longestFloat();
            case 4: return woven.ends.countRuns(1);
            case 5: return woven.picks.countRuns(1);
            case 6: return programs[THREADING].numbers.countDistinct();
            case 7: return programs[TREADLING].numbers.countDistinct();
            case 8: return woven.ends.countDistinct();
            case 9: return woven.picks.countDistinct();
            default: throw new IllegalArgumentException("what is not 0 to 9");
        }
    }

    public int field(int end, int pick, int what) throws IndexOutOfBoundsException, IllegalArgumentException {
        checkEnd(end);
        checkPick(pick);
        switch (what) {
            case 0: return woven.isUp(end, pick) ? 1 : 0;
            case 1: return colourAt(end, pick);
            case 2: return woven.floatAt(end, pick);
            default: throw new IllegalArgumentException("what is not 0 to 2");
        }
    }

    public int floats(int length) throws IllegalArgumentException {
        checkLength(length);
        return woven.countFloats(length);
    }

    public int where(int length, boolean isEnd) throws IllegalArgumentException {
        checkLength(length);
        Row threads = isEnd ? woven.ends : woven.picks;
        int thread = threads.firstWithRun(length);
        if (thread < 0) {
            return -1;
        }
        int start = firstBit(runStarts(threads.at(thread), length));
        return isEnd ? 100 * thread + start : 100 * start + thread;
    }

    public int ups(int end, boolean isEnd) throws IndexOutOfBoundsException {
        if (isEnd) {
            checkEnd(end);
            return Integer.bitCount(woven.ends.at(end));
        }
        checkPick(end);
        return woven.ends.size - Integer.bitCount(woven.picks.at(end));
    }

    public int seen(int colour) throws IllegalArgumentException {
        if (colour < 0 || colour >= COLOURS) {
            throw new IllegalArgumentException("colour is not 0 to 7");
        }
        int count = 0;
        for (int end = 0; end < woven.ends.size; end++) {
            for (int pick = 0; pick < woven.picks.size; pick++) {
                if (colourAt(end, pick) == colour) {
                    count++;
                }
            }
        }
        return count;
    }

    public int repeat(boolean isAcross) {
        if (!woven.hasFields()) {
            return 0;
        }
        return isAcross ? woven.ends.leastPeriod() : woven.picks.leastPeriod();
    }

    public boolean hangs() {
        return woven.isConnected();
    }

    public int reach(boolean isEnd) {
        if (!woven.hasFields()) {
            return 0;
        }
        return Integer.bitCount(isEnd ? woven.endsReached(false) : woven.picksReached(false));
    }

    public double meanFloat() {
        int count = woven.countFloats(1);
        if (count == 0) {
            return 0.0;
        }
        // Each field lies in just one float, so all their lengths together are the fields.
        return (double) (woven.ends.size * woven.picks.size) / (double) count;
    }

    private void checkEnd(int end) {
        if (end < 0 || end >= woven.ends.size) {
            throw new IndexOutOfBoundsException("no such end");
        }
    }

    private void checkPick(int pick) {
        if (pick < 0 || pick >= woven.picks.size) {
            throw new IndexOutOfBoundsException("no such pick");
        }
    }

    private static void checkLength(int length) {
        if (length < 1 || length > MOST_NUMBERS) {
            throw new IllegalArgumentException("length is not 1 to 32");
        }
    }

    private int colourAt(int end, int pick) {
        return woven.isUp(end, pick)
                ? programs[END_COLOURS].numbers.atRound(end)
                : programs[PICK_COLOURS].numbers.atRound(pick);
    }

    // ---- what would be

    public int floatWith(int treadle, int shaft) throws IndexOutOfBoundsException {
        weaveTrialWith(treadle, shaft);
        return trial.longestFloat();
    }

    public boolean hangsWith(int treadle, int shaft) throws IndexOutOfBoundsException {
        weaveTrialWith(treadle, shaft);
        return trial.isConnected();
    }

    public int lengthWith(int program, int token)
            throws IndexOutOfBoundsException, IllegalArgumentException, IllegalStateException {
        Program chosen = programForToken(program, token);
        draft.tokens.copyFrom(chosen.tokens);
        draft.tokens.add(token);
        compiler.compile(programs, program, draft);
        return draft.fault == NO_FAULT ? draft.numbers.size : -1;
    }

    public int changedBy(int one, int other) throws IndexOutOfBoundsException {
        checkShaft(one);
        checkShaft(other);
        swapInTrialTies(one, other);
        weaveTrial();
        int changed = 0;
        for (int end = 0; end < woven.ends.size; end++) {
            changed += Integer.bitCount(woven.ends.at(end) ^ trial.ends.at(end));
        }
        return changed;
    }

    public long digest() {
        long d = DIGEST_START;
        for (int program = 0; program < PROGRAMS; program++) {
            d = digestOfProgram(d, program);
        }
        for (int treadle = 0; treadle < TREADLES; treadle++) {
            d = mixed(d, tied(treadle));
        }
        for (int what = 0; what <= 9; what++) {
            d = mixed(d, cloth(what));
        }
        d = mixed(d, repeat(true));
        d = mixed(d, repeat(false));
        d = mixed(d, hangs() ? 1 : 0);
        d = mixed(d, reach(true));
        d = mixed(d, reach(false));
        d = mixed(d, floats(2));
        d = mixed(d, floats(3));
        d = mixed(d, floats(5));
        for (int colour = 0; colour <= 3; colour++) {
            d = mixed(d, seen(colour));
        }
        return d;
    }

    private long digestOfProgram(long before, int program) {
        long d = before;
        for (int what = 0; what <= 3; what++) {
            d = mixed(d, ofProgram(program, what));
        }
        d = mixed(d, period(program));
        int length = ofProgram(program, 1);
        for (int place = 0; place < length; place++) {
            d = mixed(d, number(program, place));
        }
        return d;
    }

    private static long mixed(long d, int value) {
        return d * DIGEST_FACTOR + value;
    }

    private void weaveTrialWith(int treadle, int shaft) {
        checkTreadle(treadle);
        checkShaft(shaft);
        trialTies.copyFrom(ties);
        trialTies.put(treadle, ties.at(treadle) ^ (1 << shaft));
        weaveTrial();
    }

    private void weaveTrial() {
        trial.weave(programs[THREADING].numbers, programs[TREADLING].numbers, trialTies);
    }

    // ---- sets of places 0 to 31, told as the bits of an int

    private static boolean hasBit(int set, int place) {
        return ((set >>> place) & 1) != 0;
    }

    /** The set of the places 0 to size - 1. */
    private static int fullSet(int size) {
        // A shift by 32 would be none.
        return size <= 0 ? 0 : -1 >>> (MOST_NUMBERS - size);
    }

    private static int firstBit(int set) {
        for (int place = 0; place < MOST_NUMBERS; place++) {
            if (hasBit(set, place)) {
                return place;
            }
        }
        return -1;
    }

    /** Where those rows of neighbours in the set begin that are so long, or longer. */
    private static int runStarts(int set, int length) {
        int followed = set;
        for (int i = 1; i < length && i < MOST_NUMBERS; i++) {
            followed &= set >>> i;
        }
        return followed & ~(set << 1);
    }

    /** How long the longest row of neighbours in the set is. */
    private static int longestRun(int set) {
        int left = set;
        int length = 0;
        while (left != 0 && length < MOST_NUMBERS) {
            left &= left >>> 1;
            length++;
        }
        return length;
    }

    /** How long the row of neighbours in the set is that holds the place. */
    private static int runAround(int set, int place) {
        int length = 0;
        for (int i = place; i < MOST_NUMBERS && hasBit(set, i); i++) {
            length++;
        }
        for (int i = place - 1; i >= 0 && hasBit(set, i); i--) {
            length++;
        }
        return length;
    }

    /**
     * Ints in a fixed room. All arrays of ints are reached through here, and each index is tested:
     * callers keep within the size, and one that did not would still not reach the machine.
     */
    private static final class Row {
        private final int[] cells;
        private int size;

        Row(int room) {
            cells = new int[Math.max(room, 0)];
        }

        int at(int place) {
            return place >= 0 && place < size && place < cells.length ? cells[place] : 0;
        }

        /** The number at the place, if the row goes on from its beginning when it is over. */
        int atRound(int place) {
            return size > 0 ? at(place % size) : 0;
        }

        void put(int place, int value) {
            if (place >= 0 && place < size && place < cells.length) {
                cells[place] = value;
            }
        }

        void add(int value) {
            if (size >= 0 && size < cells.length) {
                cells[size] = value;
                size++;
            }
        }

        int last() {
            return at(size - 1);
        }

        void cutTo(int newSize) {
            size = Math.max(0, Math.min(size, newSize));
        }

        void clear() {
            size = 0;
        }

        void copyFrom(Row source) {
            clear();
            addAll(source);
        }

        void addAll(Row source) {
            for (int i = 0; i < source.size; i++) {
                add(source.at(i));
            }
        }

        void turnFrom(int start) {
            for (int low = start, high = size - 1; low < high; low++, high--) {
                int kept = at(low);
                put(low, at(high));
                put(high, kept);
            }
        }

        int leastPeriod() {
            for (int p = 1; p < size; p++) {
                if (hasPeriod(p)) {
                    return p;
                }
            }
            return size;
        }

        private boolean hasPeriod(int p) {
            for (int i = p; i < size; i++) {
                if (at(i) != at(i - p)) {
                    return false;
                }
            }
            return true;
        }

        int countDistinct() {
            int count = 0;
            for (int i = 0; i < size; i++) {
                if (firstPlaceOf(at(i)) == i) {
                    count++;
                }
            }
            return count;
        }

        private int firstPlaceOf(int value) {
            for (int i = 0; i < size; i++) {
                if (at(i) == value) {
                    return i;
                }
            }
            return -1;
        }

        int countBits() {
            int count = 0;
            for (int i = 0; i < size; i++) {
                count += Integer.bitCount(at(i));
            }
            return count;
        }

        /** How many rows of neighbours, so long or longer, are in the sets together. */
        int countRuns(int length) {
            int count = 0;
            for (int i = 0; i < size; i++) {
                count += Integer.bitCount(runStarts(at(i), length));
            }
            return count;
        }

        int firstWithRun(int length) {
            for (int i = 0; i < size; i++) {
                if (runStarts(at(i), length) != 0) {
                    return i;
                }
            }
            return -1;
        }

        int longestOfRuns() {
            int longest = 0;
            for (int i = 0; i < size; i++) {
                longest = Math.max(longest, longestRun(at(i)));
            }
            return longest;
        }
    }

    /** A row of tokens, and what it is compiled to. */
    private static final class Program {
        private final Row tokens = new Row(MOST_TOKENS);
        private final Row numbers = new Row(MOST_NUMBERS);
        private int fault = NO_FAULT;
        private int faultPlace = -1;

        void accept(Row compiled) {
            numbers.copyFrom(compiled);
            fault = NO_FAULT;
            faultPlace = -1;
        }

        void refuse(int theFault, int place) {
            numbers.clear();
            fault = theFault;
            faultPlace = place;
        }
    }

    /** Reads tokens from left to right. */
    private static final class Compiler {
        private static final int NO_ITEM = -1;
        private static final int MOST_GROUPS = MOST_TOKENS + 1;

        // The numbers of all open groups, the outermost first. So a group that closes is already
        // where it belongs: at the end of the group around it, as that one's last item.
        private final Row numbers = new Row(MOST_GROUPS * MOST_NUMBERS);
        private final Row outerStarts = new Row(MOST_GROUPS);
        private int groupStart;
        private int itemStart;

        /** Compiles the tokens of the target as the program of that number; its blocks must be compiled. */
        void compile(Program[] programs, int own, Program target) {
            numbers.clear();
            outerStarts.clear();
            groupStart = 0;
            itemStart = NO_ITEM;
            for (int place = 0; place < target.tokens.size; place++) {
                int fault = read(programs, own, target.tokens.at(place));
                if (fault != NO_FAULT) {
                    target.refuse(fault, place);
                    return;
                }
            }
            if (outerStarts.size > 0) {
                target.refuse(OPEN_WITHOUT_CLOSE, target.tokens.size);
            } else {
                target.accept(numbers);
            }
        }

        /** Answers the fault at the token. */
        private int read(Program[] programs, int own, int token) {
            if (token <= LAST_NUMBER) {
                return addNumber(token);
            }
            if (token == OPEN) {
                openGroup();
                return NO_FAULT;
            }
            if (token == CLOSE) {
                return closeGroup();
            }
            if (token >= FIRST_BLOCK_TOKEN) {
                return addBlock(programs, own, token - BLOCK_ZERO);
            }
            return changeItem(token);
        }

        private boolean hasRoom(int more) {
            return numbers.size - groupStart + more <= MOST_NUMBERS;
        }

        private void beginItem() {
            itemStart = numbers.size;
        }

        /** The last item of the group around need not be kept: this group takes its place as it closes. */
        private void openGroup() {
            outerStarts.add(groupStart);
            groupStart = numbers.size;
            itemStart = NO_ITEM;
        }

        private int closeGroup() {
            if (outerStarts.size == 0) {
                return CLOSE_WITHOUT_OPEN;
            }
            itemStart = groupStart;
            groupStart = outerStarts.last();
            outerStarts.cutTo(outerStarts.size - 1);
            return hasRoom(0) ? NO_FAULT : TOO_MANY_NUMBERS;
        }

        private int addNumber(int number) {
            if (!hasRoom(1)) {
                return TOO_MANY_NUMBERS;
            }
            beginItem();
            numbers.add(number);
            return NO_FAULT;
        }

        private int addBlock(Program[] programs, int own, int block) {
            boolean isUnknown = block < 0 || block >= programs.length;
            if (isUnknown || own >= FIRST_BLOCK && block >= own) {
                return BLOCK_NOT_SMALLER;
            }
            Program named = programs[block];
            if (named.fault != NO_FAULT) {
                return FAULTY_BLOCK;
            }
            if (!hasRoom(named.numbers.size)) {
                return TOO_MANY_NUMBERS;
            }
            beginItem();
            numbers.addAll(named.numbers);
            return NO_FAULT;
        }

        private int changeItem(int token) {
            if (itemStart == NO_ITEM) {
                return NO_ITEM_YET;
            }
            switch (token) {
                case BACK:
                    numbers.turnFrom(itemStart);
                    return NO_FAULT;
                case MIRROR:
                    return addMirror();
                case UP:
                    raiseItem(1);
                    return NO_FAULT;
                case DOWN:
                    raiseItem(-1);
                    return NO_FAULT;
                default:
                    return repeatItem(token - TIMES_TWO + 1);
            }
        }

        private int repeatItem(int moreTimes) {
            int more = (numbers.size - itemStart) * moreTimes;
            if (!hasRoom(more)) {
                return TOO_MANY_NUMBERS;
            }
            for (int i = 0; i < more; i++) {
                numbers.add(numbers.at(itemStart + i));
            }
            return NO_FAULT;
        }

        private int addMirror() {
            int lastButOne = numbers.size - 2;
            if (!hasRoom(Math.max(0, lastButOne - groupStart))) {
                return TOO_MANY_NUMBERS;
            }
            beginItem();
            for (int i = lastButOne; i > groupStart; i--) {
                numbers.add(numbers.at(i));
            }
            return NO_FAULT;
        }

        private void raiseItem(int by) {
            for (int i = itemStart; i < numbers.size; i++) {
                numbers.put(i, (numbers.at(i) + by) & LAST_NUMBER);
            }
        }
    }

    /**
     * A cloth, told by what each thread floats over: an end over the picks on which it is up, a
     * pick over the ends that are not up on it. The same sets are the ways from thread to thread
     * by which it hangs together.
     */
    private static final class Cloth {
        private final Row ends = new Row(MOST_NUMBERS);
        private final Row picks = new Row(MOST_NUMBERS);

        void weave(Row threading, Row treadling, Row ties) {
            ends.clear();
            for (int end = 0; end < threading.size; end++) {
                ends.add(0);
            }
            picks.clear();
            for (int pick = 0; pick < treadling.size; pick++) {
                int shafts = ties.at(treadling.at(pick));
                int down = 0;
                for (int end = 0; end < threading.size; end++) {
                    if (hasBit(shafts, threading.at(end))) {
                        ends.put(end, ends.at(end) | (1 << pick));
                    } else {
                        down |= 1 << end;
                    }
                }
                picks.add(down);
            }
        }

        boolean hasFields() {
            return ends.size > 0 && picks.size > 0;
        }

        boolean isUp(int end, int pick) {
            return hasBit(ends.at(end), pick);
        }

        int floatAt(int end, int pick) {
            return isUp(end, pick) ? runAround(ends.at(end), pick) : runAround(picks.at(pick), end);
        }

        int countFloats(int length) {
            return ends.countRuns(length) + picks.countRuns(length);
        }

        int longestFloat() {
            return Math.max(ends.longestOfRuns(), picks.longestOfRuns());
        }

        /** Whether one comes from the first end to each thread, and from each to the first end. */
        boolean isConnected() {
            return hasFields() && isAllReached(false) && isAllReached(true);
        }

        private boolean isAllReached(boolean isBack) {
            return endsReached(isBack) == fullSet(ends.size) && picksReached(isBack) == fullSet(picks.size);
        }

        /** To which ends one comes from the first (or, if it is back, from which one comes to it). */
        int endsReached(boolean isBack) {
            int reached = 1;
            // Each round but the last adds one end at least.
            for (int round = 0; round < MOST_NUMBERS; round++) {
                int nextPicks = nextTo(ends, reached, picks, isBack);
                int more = reached | nextTo(picks, nextPicks, ends, isBack);
                if (more == reached) {
                    break;
                }
                reached = more;
            }
            return reached;
        }

        int picksReached(boolean isBack) {
            return nextTo(ends, endsReached(isBack), picks, isBack);
        }

        /**
         * Where the ways of the members lead. Over each field just one leads, from its end or from
         * its pick: so a way back leads over all the fields that are not in the thread's own set.
         */
        private static int nextTo(Row from, int members, Row to, boolean isBack) {
            int next = 0;
            for (int i = 0; i < from.size; i++) {
                if (hasBit(members, i)) {
                    next |= isBack ? ~from.at(i) : from.at(i);
                }
            }
            return next & fullSet(to.size);
        }
    }
}
