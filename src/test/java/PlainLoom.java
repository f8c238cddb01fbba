import java.util.ArrayList;
import java.util.Collections;
import java.util.HashSet;
import java.util.List;
import java.util.Set;

/**
 * The document once more, written from its words alone and as plainly as can be: lists of lists,
 * one look at each field, a way searched from each thread to each other. RandomRunsTest compares
 * TreadleLoom with it.
 */
final class PlainLoom {
    private final List<List<Integer>> programs = new ArrayList<>();
    private boolean[][] isTied = new boolean[8][8];

    /** What a program is compiled to. */
    private static final class Compiled {
        private List<Integer> numbers = new ArrayList<>();
        private int fault;
        private int place = -1;
    }

    /** A fault, told at once. */
    private static final class Fault extends Exception {
        private static final long serialVersionUID = 1L;
        private final int kind;

        Fault(int kind) {
            this.kind = kind;
        }
    }

    PlainLoom() {
        for (int program = 0; program < 10; program++) {
            programs.add(new ArrayList<>());
        }
        for (int k = 0; k < 8; k++) {
            isTied[k][k] = true;
        }
    }

    private static void index(boolean isGood) {
        if (!isGood) {
            throw new IndexOutOfBoundsException();
        }
    }

    private static void argument(boolean isGood) {
        if (!isGood) {
            throw new IllegalArgumentException();
        }
    }

    private static boolean in(int value, int low, int high) {
        return value >= low && value <= high;
    }

    private void checkToken(int program, int token) {
        index(in(program, 0, 9));
        argument(in(token, 0, 7) || token == 10 || token == 11 || in(token, 22, 29) || in(token, 30, 33)
                || in(token, 44, 49));
        if (programs.get(program).size() == 40) {
            throw new IllegalStateException();
        }
    }

    // ---- compiling

    private Compiled compiled(int program) {
        return compile(program, programs.get(program));
    }

    private Compiled compile(int own, List<Integer> tokens) {
        Compiled result = new Compiled();
        List<List<List<Integer>>> groups = new ArrayList<>();
        groups.add(new ArrayList<>());
        for (int place = 0; place < tokens.size(); place++) {
            try {
                read(own, tokens.get(place), groups);
            } catch (Fault fault) {
                result.fault = fault.kind;
                result.place = place;
                return result;
            }
        }
        if (groups.size() > 1) {
            result.fault = 3;
            result.place = tokens.size();
            return result;
        }
        result.numbers = allOf(groups.get(0));
        return result;
    }

    private static List<Integer> allOf(List<List<Integer>> group) {
        List<Integer> all = new ArrayList<>();
        for (List<Integer> item : group) {
            all.addAll(item);
        }
        return all;
    }

    private void read(int own, int token, List<List<List<Integer>>> groups) throws Fault {
        List<List<Integer>> group = groups.get(groups.size() - 1);
        if (token <= 7) {
            group.add(new ArrayList<>(List.of(token)));
        } else if (token == 10) {
            groups.add(new ArrayList<>());
        } else if (token == 11) {
            if (groups.size() == 1) {
                throw new Fault(2);
            }
            groups.remove(groups.size() - 1);
            List<List<Integer>> around = groups.get(groups.size() - 1);
            around.add(allOf(group));
            group = around;
        } else if (token >= 44) {
            group.add(blockNamed(own, token - 40));
        } else {
            if (group.isEmpty()) {
                throw new Fault(1);
            }
            change(group, token);
        }
        if (allOf(group).size() > 32) {
            throw new Fault(5);
        }
    }

    private List<Integer> blockNamed(int own, int block) throws Fault {
        if (own >= 4 && block >= own) {
            throw new Fault(4);
        }
        Compiled named = compiled(block);
        if (named.fault != 0) {
            throw new Fault(6);
        }
        return named.numbers;
    }

    private static void change(List<List<Integer>> group, int token) {
        List<Integer> item = group.get(group.size() - 1);
        List<Integer> changed = new ArrayList<>();
        if (token == 31) {
            List<Integer> all = allOf(group);
            for (int i = all.size() - 2; i >= 1; i--) {
                changed.add(all.get(i));
            }
            group.add(changed);
            return;
        }
        if (token == 30) {
            changed.addAll(item);
            Collections.reverse(changed);
        } else if (token == 32 || token == 33) {
            for (int number : item) {
                changed.add(token == 32 ? (number == 7 ? 0 : number + 1) : (number == 0 ? 7 : number - 1));
            }
        } else {
            for (int i = 0; i < token - 20; i++) {
                changed.addAll(item);
            }
        }
        group.set(group.size() - 1, changed);
    }

    private static <T> int periodOf(List<T> row) {
        for (int p = 1; p <= row.size(); p++) {
            if (row.subList(p, row.size()).equals(row.subList(0, row.size() - p))) {
                return p;
            }
        }
        return 0;
    }

    // ---- programs

    int token(int program, int token) {
        checkToken(program, token);
        programs.get(program).add(token);
        return programs.get(program).size();
    }

    int untoken(int program, int many) {
        index(in(program, 0, 9));
        argument(in(many, 1, 40));
        List<Integer> tokens = programs.get(program);
        for (int i = 0; i < many && !tokens.isEmpty(); i++) {
            tokens.remove(tokens.size() - 1);
        }
        return tokens.size();
    }

    int ofProgram(int program, int what) {
        index(in(program, 0, 9));
        argument(in(what, 0, 3));
        Compiled compiled = compiled(program);
        return new int[] {programs.get(program).size(), compiled.numbers.size(), compiled.fault, compiled.place}[what];
    }

    int number(int program, int place) {
        index(in(program, 0, 9));
        List<Integer> numbers = compiled(program).numbers;
        index(in(place, 0, numbers.size() - 1));
        return numbers.get(place);
    }

    int period(int program) {
        index(in(program, 0, 9));
        return periodOf(compiled(program).numbers);
    }

    // ---- the loom

    private static int told(boolean[] set) {
        int sum = 0;
        for (int k = 0; k < set.length; k++) {
            sum += set[k] ? (int) Math.pow(2, k) : 0;
        }
        return sum;
    }

    int tie(int treadle, int shafts) {
        index(in(treadle, 0, 7));
        argument(in(shafts, 0, 255));
        int before = told(isTied[treadle]);
        for (int shaft = 0, left = shafts; shaft < 8; shaft++, left /= 2) {
            isTied[treadle][shaft] = left % 2 == 1;
        }
        return before;
    }

    int tied(int treadle) {
        index(in(treadle, 0, 7));
        return told(isTied[treadle]);
    }

    int twill(int n, int up) {
        argument(in(n, 2, 8));
        argument(in(up, 1, n));
        boolean[][] now = new boolean[8][8];
        for (int k = 0; k < n; k++) {
            for (int i = 0; i <= up - 1; i++) {
                now[k][(k + i) % n] = true;
            }
        }
        return retied(now);
    }

    private int retied(boolean[][] now) {
        int changed = 0;
        for (int treadle = 0; treadle < 8; treadle++) {
            changed += told(now[treadle]) == told(isTied[treadle]) ? 0 : 1;
        }
        isTied = now;
        return changed;
    }

    private boolean[][] swapped(int one, int other) {
        boolean[][] now = new boolean[8][8];
        for (int treadle = 0; treadle < 8; treadle++) {
            for (int shaft = 0; shaft < 8; shaft++) {
                int from = shaft == one ? other : shaft == other ? one : shaft;
                now[treadle][shaft] = isTied[treadle][from];
            }
        }
        return now;
    }

    int swap(int one, int other) {
        index(in(one, 0, 7) && in(other, 0, 7));
        return retied(swapped(one, other));
    }

    // ---- the cloth

    /** Whether the end x is up on the pick y, at [x][y]. */
    private boolean[][] fields(boolean[][] ties) {
        List<Integer> threading = compiled(0).numbers;
        List<Integer> treadling = compiled(1).numbers;
        boolean[][] isUp = new boolean[threading.size()][treadling.size()];
        for (int x = 0; x < threading.size(); x++) {
            for (int y = 0; y < treadling.size(); y++) {
                isUp[x][y] = ties[treadling.get(y)][threading.get(x)];
            }
        }
        return isUp;
    }

    private boolean[][] fields() {
        return fields(isTied);
    }

    private int manyEnds() {
        return compiled(0).numbers.size();
    }

    private int manyPicks() {
        return compiled(1).numbers.size();
    }

    private static boolean lies(boolean[][] isUp, int x, int y, boolean ofEnd) {
        return x >= 0 && y >= 0 && x < isUp.length && y < isUp[x].length && isUp[x][y] == ofEnd;
    }

    /** How long the float is that lies at the field and begins there; 0 if none does. */
    private static int begun(boolean[][] isUp, int x, int y, boolean ofEnd) {
        int dx = ofEnd ? 0 : 1;
        int dy = 1 - dx;
        if (!lies(isUp, x, y, ofEnd) || lies(isUp, x - dx, y - dy, ofEnd)) {
            return 0;
        }
        int length = 1;
        while (lies(isUp, x + length * dx, y + length * dy, ofEnd)) {
            length++;
        }
        return length;
    }

    /** The lengths of the floats, of ends by ends and then by picks, of picks by picks and then by ends. */
    private List<int[]> floatsOf(boolean[][] isUp, boolean ofEnd) {
        List<int[]> all = new ArrayList<>();
        int outer = ofEnd ? manyEnds() : manyPicks();
        int inner = ofEnd ? manyPicks() : manyEnds();
        for (int i = 0; i < outer; i++) {
            for (int j = 0; j < inner; j++) {
                int x = ofEnd ? i : j;
                int y = ofEnd ? j : i;
                int length = begun(isUp, x, y, ofEnd);
                if (length > 0) {
                    all.add(new int[] {length, x, y});
                }
            }
        }
        return all;
    }

    private List<int[]> allFloats(boolean[][] isUp) {
        List<int[]> all = floatsOf(isUp, true);
        all.addAll(floatsOf(isUp, false));
        return all;
    }

    private int longest(boolean[][] isUp) {
        int longest = 0;
        for (int[] one : allFloats(isUp)) {
            longest = one[0] > longest ? one[0] : longest;
        }
        return longest;
    }

    private List<String> columns() {
        List<String> columns = new ArrayList<>();
        boolean[][] isUp = fields();
        for (int x = 0; x < manyEnds(); x++) {
            StringBuilder column = new StringBuilder();
            for (int y = 0; y < manyPicks(); y++) {
                column.append(isUp[x][y] ? '#' : '.');
            }
            columns.add(column.toString());
        }
        return columns;
    }

    private List<String> lines() {
        List<String> lines = new ArrayList<>();
        boolean[][] isUp = fields();
        for (int y = 0; y < manyPicks(); y++) {
            StringBuilder line = new StringBuilder();
            for (int x = 0; x < manyEnds(); x++) {
                line.append(isUp[x][y] ? '#' : '.');
            }
            lines.add(line.toString());
        }
        return lines;
    }

    private static int many(Iterable<String> texts, char sign) {
        int count = 0;
        for (String text : texts) {
            count += (int) text.chars().filter(c -> c == sign).count();
        }
        return count;
    }

    private static <T> int distinct(List<T> all) {
        Set<T> set = new HashSet<>(all);
        return set.size();
    }

    int cloth(int what) {
        argument(in(what, 0, 9));
        switch (what) {
            case 0: return manyEnds();
            case 1: return manyPicks();
            case 2: return many(columns(), '#');
            case 3: return longest(fields());
            case 4: return floatsOf(fields(), true).size();
            case 5: return floatsOf(fields(), false).size();
            case 6: return distinct(compiled(0).numbers);
            case 7: return distinct(compiled(1).numbers);
            case 8: return distinct(columns());
            default: return distinct(lines());
        }
    }

    private static int roundAt(List<Integer> row, int place) {
        return row.isEmpty() ? 0 : row.get(place % row.size());
    }

    private int colour(int end, int pick) {
        return fields()[end][pick] ? roundAt(compiled(2).numbers, end) : roundAt(compiled(3).numbers, pick);
    }

    int field(int end, int pick, int what) {
        index(in(end, 0, manyEnds() - 1));
        index(in(pick, 0, manyPicks() - 1));
        argument(in(what, 0, 2));
        boolean[][] isUp = fields();
        boolean ofEnd = isUp[end][pick];
        if (what == 0) {
            return ofEnd ? 1 : 0;
        }
        if (what == 1) {
            return colour(end, pick);
        }
        int x = end;
        int y = pick;
        while (begun(isUp, x, y, ofEnd) == 0) {
            x -= ofEnd ? 0 : 1;
            y -= ofEnd ? 1 : 0;
        }
        return begun(isUp, x, y, ofEnd);
    }

    int floats(int length) {
        argument(in(length, 1, 32));
        int count = 0;
        for (int[] one : allFloats(fields())) {
            count += one[0] >= length ? 1 : 0;
        }
        return count;
    }

    int where(int length, boolean isEnd) {
        argument(in(length, 1, 32));
        for (int[] one : floatsOf(fields(), isEnd)) {
            if (one[0] >= length) {
                return 100 * one[1] + one[2];
            }
        }
        return -1;
    }

    int ups(int end, boolean isEnd) {
        index(in(end, 0, (isEnd ? manyEnds() : manyPicks()) - 1));
        return many(List.of((isEnd ? columns() : lines()).get(end)), '#');
    }

    int seen(int colour) {
        argument(in(colour, 0, 7));
        boolean[][] isUp = fields();
        List<Integer> ofEnds = compiled(2).numbers;
        List<Integer> ofPicks = compiled(3).numbers;
        int count = 0;
        for (int x = 0; x < manyEnds(); x++) {
            for (int y = 0; y < isUp[x].length; y++) {
                count += (isUp[x][y] ? roundAt(ofEnds, x) : roundAt(ofPicks, y)) == colour ? 1 : 0;
            }
        }
        return count;
    }

    int repeat(boolean isAcross) {
        return manyEnds() * manyPicks() == 0 ? 0 : periodOf(isAcross ? columns() : lines());
    }

    /** Whether one comes from the thread i to the thread j; the picks stand behind the ends. */
    private static boolean[][] ways(boolean[][] isUp, int w, int h) {
        boolean[][] way = new boolean[w + h][w + h];
        for (int x = 0; x < w; x++) {
            for (int y = 0; y < h; y++) {
                way[x][w + y] = isUp[x][y];
                way[w + y][x] = !isUp[x][y];
            }
        }
        for (int k = 0; k < w + h; k++) {
            for (int i = 0; i < w + h; i++) {
                for (int j = 0; j < w + h && way[i][k]; j++) {
                    way[i][j] |= way[k][j];
                }
            }
        }
        return way;
    }

    private boolean hangs(boolean[][] isUp) {
        int w = manyEnds();
        int h = manyPicks();
        boolean[][] way = ways(isUp, w, h);
        boolean all = w > 0 && h > 0 && w + h > 2;
        for (int i = 0; i < w + h; i++) {
            for (int j = 0; j < w + h; j++) {
                all &= i == j || way[i][j];
            }
        }
        return all;
    }

    boolean hangs() {
        return hangs(fields());
    }

    int reach(boolean isEnd) {
        int w = manyEnds();
        int h = manyPicks();
        if (w == 0 || h == 0) {
            return 0;
        }
        boolean[][] way = ways(fields(), w, h);
        int count = 0;
        for (int j = isEnd ? 0 : w; j < (isEnd ? w : w + h); j++) {
            count += j == 0 || way[0][j] ? 1 : 0;
        }
        return count;
    }

    double meanFloat() {
        double sum = 0;
        List<int[]> all = allFloats(fields());
        for (int[] one : all) {
            sum += one[0];
        }
        return all.isEmpty() ? 0 : sum / all.size();
    }

    // ---- what would be

    private boolean[][] fieldsWith(int treadle, int shaft) {
        index(in(treadle, 0, 7) && in(shaft, 0, 7));
        isTied[treadle][shaft] ^= true;
        boolean[][] would = fields();
        isTied[treadle][shaft] ^= true;
        return would;
    }

    int floatWith(int treadle, int shaft) {
        return longest(fieldsWith(treadle, shaft));
    }

    boolean hangsWith(int treadle, int shaft) {
        return hangs(fieldsWith(treadle, shaft));
    }

    int lengthWith(int program, int token) {
        checkToken(program, token);
        List<Integer> tokens = new ArrayList<>(programs.get(program));
        tokens.add(token);
        Compiled would = compile(program, tokens);
        return would.fault == 0 ? would.numbers.size() : -1;
    }

    int changedBy(int one, int other) {
        index(in(one, 0, 7) && in(other, 0, 7));
        boolean[][] isUp = fields();
        boolean[][] would = fields(swapped(one, other));
        int changed = 0;
        for (int x = 0; x < isUp.length; x++) {
            for (int y = 0; y < isUp[x].length; y++) {
                changed += isUp[x][y] != would[x][y] ? 1 : 0;
            }
        }
        return changed;
    }

    long digest() {
        List<Integer> values = new ArrayList<>();
        for (int program = 0; program < 10; program++) {
            for (int what = 0; what < 4; what++) {
                values.add(ofProgram(program, what));
            }
            values.add(period(program));
            values.addAll(compiled(program).numbers);
        }
        for (int treadle = 0; treadle < 8; treadle++) {
            values.add(tied(treadle));
        }
        for (int what = 0; what < 10; what++) {
            values.add(cloth(what));
        }
        Collections.addAll(values, repeat(true), repeat(false), hangs() ? 1 : 0, reach(true), reach(false));
        Collections.addAll(values, floats(2), floats(3), floats(5), seen(0), seen(1), seen(2), seen(3));
        long d = 58095;
        for (int value : values) {
            d = d * 31 + value;
        }
        return d;
    }
}
