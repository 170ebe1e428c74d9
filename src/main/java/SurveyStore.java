import java.util.Arrays;

public final class SurveyStore {
    public static final int NONE = -2147483648;
    public static final int PENDING = 24;

    private static final int SIDE = 32;
    private static final int LAYERS = 4;
    private static final int LAYER_CELLS = SIDE * SIDE;
    private static final int ALL_CELLS = LAYERS * LAYER_CELLS;
    private static final int LARGEST_VALUE = 1000000;

    private static final int KINDS = 4;
    private static final int GREATER = 1;
    private static final int LESSER = 2;
    private static final int NEWER = 3;

    private static final int COMMITS = 24;
    private static final int BRANCHES = 4;
    private static final int PLACES = COMMITS + BRANCHES;
    private static final int NO_COMMIT = -1;

    private static final int CORNERS = 6;
    private static final int FEWEST_CORNERS = 3;
    private static final int ENTRIES = 8;
    private static final int WAYS = 3;
    private static final int TOTALS = 4;

    // A cell is one long, its value above its origin, and an origin is a commit above the index
    // of a cell: so one comparison tells whether two cells agree in value and origin.
    private static final long EMPTY_CELL = (long) NONE << 32;
    private static final int INDEX_BITS = 12;
    private static final int INDEX_MASK = (1 << INDEX_BITS) - 1;

    private static final int BLOCK_SIDE = 4;
    private static final int BLOCK_CELLS = BLOCK_SIDE * BLOCK_SIDE;
    private static final int MOST_BLOCKS = PLACES * LAYER_CELLS / BLOCK_CELLS;
    // More than twice as many as there can be blocks, so that a search soon meets a free slot.
    private static final int BLOCK_SLOTS = 4096;
    private static final int SLOT_SHIFT = 20;
    private static final int HASH_FACTOR = 0x9E3779B1;

    private final int[] kinds = new int[LAYERS];
    private final Commit[] commits = new Commit[COMMITS];
    private int made;
    private final Branch[] branches = new Branch[BRANCHES];

    private int regionX;
    private int regionY;
    private int regionWidth;
    private int regionHeight;

    private final int[] cornerX = new int[CORNERS];
    private final int[] cornerY = new int[CORNERS];
    private final int[] entryFrom = new int[ENTRIES];
    private final int[] entryTo = new int[ENTRIES];

    // Working rows are made at their first use and kept: what a run makes is never given back.
    private final BaseRow[] baseRows = new BaseRow[COMMITS];
    private BlockTable blockTable;

    private static final class Commit {
        final int firstParent;
        final int secondParent;
        // Bit n stands for commit n: 24 commits fit into an int, and sets of them are joined at once.
        final int ancestors;
        final long[] cells;

        Commit(int firstParent, int secondParent, int ancestors, long[] cells) {
            this.firstParent = firstParent;
            this.secondParent = secondParent;
            this.ancestors = ancestors;
            this.cells = cells;
        }

        boolean hasParent(int number) {
            return firstParent == number || secondParent == number;
        }
    }

    private static final class Branch {
        final long[] cells = new long[ALL_CELLS];
        boolean there;
        int head;
        int merging;
        // Most branches never merge, so the rows come with the first merge and stay.
        Conflicts conflicts;

        void startAt(int number, long[] from) {
            System.arraycopy(from, 0, cells, 0, ALL_CELLS);
            there = true;
            restAt(number);
        }

        void restAt(int number) {
            head = number;
            merging = NO_COMMIT;
            if (conflicts != null) {
                conflicts.forget();
            }
        }

        Conflicts freshConflicts() {
            if (conflicts == null) {
                conflicts = new Conflicts();
            }
            conflicts.forget();
            return conflicts;
        }

        boolean hasUnsettled() {
            return conflicts != null && conflicts.unsettled > 0;
        }

        void set(int index, int v) {
            cells[index] = v == NONE ? EMPTY_CELL : cellOf(v, originOf(PENDING, index));
        }
    }

    /** What a merge left undecided, kept as it was then, whatever is painted over it. */
    private static final class Conflicts {
        final int[] indices = new int[ALL_CELLS];
        final int[] mine = new int[ALL_CELLS];
        final int[] others = new int[ALL_CELLS];
        final int[] bases = new int[ALL_CELLS];
        final boolean[] settled = new boolean[ALL_CELLS];
        int count;
        int unsettled;

        void forget() {
            count = 0;
            unsettled = 0;
        }

        void add(int index, int mineValue, int otherValue, int baseValue) {
            if (count >= ALL_CELLS) {
                return;
            }
            indices[count] = index;
            mine[count] = mineValue;
            others[count] = otherValue;
            bases[count] = baseValue;
            settled[count] = false;
            count++;
            unsettled++;
        }

        boolean has(int i) {
            return i >= 0 && i < count;
        }

        void markSettled(int i) {
            if (has(i) && !settled[i]) {
                settled[i] = true;
                unsettled--;
            }
        }

        int tell(int i, int what) {
            if (!has(i)) {
                return NONE;
            }
            switch (what) {
                case 0:
                    return layerOf(indices[i]);
                case 1:
                    return xOf(indices[i]);
                case 2:
                    return yOf(indices[i]);
                case 3:
                    return mine[i];
                case 4:
                    return others[i];
                case 5:
                    return bases[i];
                case 6:
                    return settled[i] ? 1 : 0;
                default:
                    return NONE;
            }
        }
    }

    /** The values of a base; it needs no origins, as no kind decides anything there. */
    private static final class BaseRow {
        final int[] values = new int[ALL_CELLS];

        void take(long[] cells) {
            for (int i = 0; i < ALL_CELLS; i++) {
                values[i] = valueOf(cells[i]);
            }
        }

        void mergeWith(long[] cells, int[] base) {
            for (int i = 0; i < ALL_CELLS; i++) {
                int other = valueOf(cells[i]);
                if (values[i] == base[i]) {
                    values[i] = other;
                } else if (isConflict(values[i], other, base[i])) {
                    values[i] = NONE;
                }
            }
        }
    }

    /** The different blocks that were met, with a hash table to find them by. */
    private static final class BlockTable {
        final int[] values = new int[MOST_BLOCKS * BLOCK_CELLS];
        // A slot holds a block's number and 1, or 0 if it is free.
        final int[] slots = new int[BLOCK_SLOTS];
        int count;

        void forget() {
            Arrays.fill(slots, 0);
            count = 0;
        }

        void addAll(long[] cells, int layer) {
            for (int y = 0; y < SIDE; y += BLOCK_SIDE) {
                for (int x = 0; x < SIDE; x += BLOCK_SIDE) {
                    if (count < MOST_BLOCKS && read(cells, indexOf(layer, x, y))) {
                        keepIfNew();
                    }
                }
            }
        }

        /** Reads a block behind those that are kept; tells whether it has any value. */
        boolean read(long[] cells, int corner) {
            boolean any = false;
            int at = count * BLOCK_CELLS;
            for (int i = 0; i < BLOCK_CELLS; i++) {
                int v = valueOf(cells[corner + i / BLOCK_SIDE * SIDE + i % BLOCK_SIDE]);
                values[at + i] = v;
                any = any || v != NONE;
            }
            return any;
        }

        void keepIfNew() {
            int slot = hash(count) >>> SLOT_SHIFT;
            for (int tries = 0; tries < BLOCK_SLOTS; tries++) {
                if (slots[slot] == 0) {
                    count++;
                    slots[slot] = count;
                    return;
                }
                if (isSame(slots[slot] - 1, count)) {
                    return;
                }
                slot = (slot + 1) % BLOCK_SLOTS;
            }
        }

        int hash(int block) {
            int h = 0;
            int at = block * BLOCK_CELLS;
            for (int i = 0; i < BLOCK_CELLS; i++) {
                h = (h ^ values[at + i]) * HASH_FACTOR;
                h = h ^ h >>> 15;
            }
            return h * HASH_FACTOR;
        }

        boolean isSame(int a, int b) {
            int atA = a * BLOCK_CELLS;
            int atB = b * BLOCK_CELLS;
            for (int i = 0; i < BLOCK_CELLS; i++) {
                if (values[atA + i] != values[atB + i]) {
                    return false;
                }
            }
            return true;
        }
    }

    public SurveyStore() {
        long[] nothing = new long[ALL_CELLS];
        Arrays.fill(nothing, EMPTY_CELL);
        commits[0] = new Commit(NO_COMMIT, NO_COMMIT, 1, nothing);
        made = 1;
        branches[0] = new Branch();
        branches[0].startAt(0, nothing);
        regionWidth = SIDE;
        regionHeight = SIDE;
        Arrays.fill(entryFrom, NONE);
        Arrays.fill(entryTo, NONE);
    }

    public boolean kind(int layer, int kind) {
        if (!isLayer(layer) || kind < 0 || kind >= KINDS) {
            return false;
        }
        kinds[layer] = kind;
        return true;
    }

    public void branch(int b, int commit) throws IllegalArgumentException, IllegalStateException {
        Commit start = commitAt(commit);
        if (b < 0 || b >= BRANCHES || start == null) {
            throw new IllegalArgumentException();
        }
        if (branchAt(b) != null) {
            throw new IllegalStateException();
        }
        if (branches[b] == null) {
            branches[b] = new Branch();
        }
        branches[b].startAt(commit, start.cells);
    }

    public boolean drop(int b) {
        Branch branch = branchAt(b);
        if (branch == null) {
            return false;
        }
        branch.there = false;
        return true;
    }

    public boolean region(int x, int y, int w, int h) {
        if (w < 1 || h < 1 || !fits(x, w) || !fits(y, h)) {
            return false;
        }
        regionX = x;
        regionY = y;
        regionWidth = w;
        regionHeight = h;
        return true;
    }

    public void paint(int b, int layer, int v) throws IllegalArgumentException {
        Branch branch = branchToEdit(b, layer);
        refuseUnlessValue(v);
        for (int y = regionY; y < regionY + regionHeight; y++) {
            for (int x = regionX; x < regionX + regionWidth; x++) {
                branch.set(indexOf(layer, x, y), v);
            }
        }
    }

    public boolean corner(int i, int x, int y) {
        if (i < 0 || i >= CORNERS || !isPoint(x) || !isPoint(y)) {
            return false;
        }
        cornerX[i] = x;
        cornerY[i] = y;
        return true;
    }

    public void polygon(int b, int layer, int n, int v) throws IllegalArgumentException {
        Branch branch = branchToEdit(b, layer);
        refuseUnlessValue(v);
        if (n < FEWEST_CORNERS || n > CORNERS) {
            throw new IllegalArgumentException();
        }
        for (int y = 0; y < SIDE; y++) {
            for (int x = 0; x < SIDE; x++) {
                if (isInside(n, x, y)) {
                    branch.set(indexOf(layer, x, y), v);
                }
            }
        }
    }

    public void copy(int b, int layer, int commit, int from, int x, int y) throws IllegalArgumentException {
        Branch branch = branchToEdit(b, layer);
        Commit source = commitAt(commit);
        if (source == null || !isLayer(from) || !fits(x, regionWidth) || !fits(y, regionHeight)) {
            throw new IllegalArgumentException();
        }
        for (int row = 0; row < regionHeight; row++) {
            int fromIndex = indexOf(from, regionX, regionY + row);
            System.arraycopy(source.cells, fromIndex, branch.cells, indexOf(layer, x, y + row), regionWidth);
        }
    }

    public boolean entry(int i, int from, int to) {
        if (i < 0 || i >= ENTRIES || !isValue(from) || !isValue(to)) {
            return false;
        }
        entryFrom[i] = from;
        entryTo[i] = to;
        return true;
    }

    public void map(int b, int layer) throws IllegalArgumentException {
        Branch branch = branchToEdit(b, layer);
        for (int y = regionY; y < regionY + regionHeight; y++) {
            for (int x = regionX; x < regionX + regionWidth; x++) {
                int index = indexOf(layer, x, y);
                int v = valueOf(branch.cells[index]);
                setIfOther(branch, index, mapped(v));
            }
        }
    }

    public void combine(int b, int layer, int second, int way) throws IllegalArgumentException {
        Branch branch = branchToEdit(b, layer);
        if (!isLayer(second) || way < 0 || way >= WAYS) {
            throw new IllegalArgumentException();
        }
        for (int y = regionY; y < regionY + regionHeight; y++) {
            for (int x = regionX; x < regionX + regionWidth; x++) {
                int index = indexOf(layer, x, y);
                int v = valueOf(branch.cells[index]);
                int w = valueOf(branch.cells[indexOf(second, x, y)]);
                setIfOther(branch, index, combined(v, w, way));
            }
        }
    }

    public int commit(int b) throws IllegalArgumentException, IllegalStateException {
        Branch branch = branchAt(b);
        if (branch == null) {
            throw new IllegalArgumentException();
        }
        if (!isChanged(branch) || branch.hasUnsettled() || made >= COMMITS) {
            throw new IllegalStateException();
        }
        int number = made;
        claimPending(branch.cells, number);
        int ancestors = 1 << number | ancestorsOf(branch.head) | ancestorsOf(branch.merging);
        commits[number] = new Commit(branch.head, branch.merging, ancestors, branch.cells.clone());
        made++;
        branch.restAt(number);
        return number;
    }

    public int merge(int b, int commit) throws IllegalArgumentException, IllegalStateException {
        Branch branch = branchAt(b);
        Commit other = commitAt(commit);
        if (branch == null || other == null) {
            throw new IllegalArgumentException();
        }
        if (isChanged(branch) || contains(ancestorsOf(branch.head), commit)) {
            throw new IllegalStateException();
        }
        BaseRow base = baseOf(1 << branch.head, commit, 0);
        Conflicts conflicts = branch.freshConflicts();
        mergeCells(branch.cells, other.cells, base.values, conflicts);
        branch.merging = commit;
        return conflicts.count;
    }

    public int conflict(int b, int i, int what) {
        Branch branch = branchAt(b);
        if (branch == null || branch.conflicts == null) {
            return NONE;
        }
        return branch.conflicts.tell(i, what);
    }

    public int settle(int b, int i, int v) throws IllegalArgumentException {
        Branch branch = branchAt(b);
        if (branch == null || branch.conflicts == null || !branch.conflicts.has(i) || !isValue(v)) {
            throw new IllegalArgumentException();
        }
        branch.set(branch.conflicts.indices[i], v);
        branch.conflicts.markSettled(i);
        return branch.conflicts.unsettled;
    }

    public int value(int place, int layer, int x, int y) {
        return valueOf(cellAt(place, layer, x, y));
    }

    public int origin(int place, int layer, int x, int y, int what) {
        long cell = cellAt(place, layer, x, y);
        if (valueOf(cell) == NONE) {
            return NONE;
        }
        switch (what) {
            case 0:
                return originCommitOf(cell);
            case 1:
                return layerOf(originIndexOf(cell));
            case 2:
                return xOf(originIndexOf(cell));
            case 3:
                return yOf(originIndexOf(cell));
            default:
                return NONE;
        }
    }

    public int total(int place, int layer, int what) throws IllegalArgumentException {
        long[] cells = cellsOf(place);
        if (cells == null || !isLayer(layer) || what < 0 || what >= TOTALS) {
            throw new IllegalArgumentException();
        }
        int sum = 0;
        int count = 0;
        int least = NONE;
        int greatest = NONE;
        for (int y = regionY; y < regionY + regionHeight; y++) {
            for (int x = regionX; x < regionX + regionWidth; x++) {
                int v = valueOf(cells[indexOf(layer, x, y)]);
                if (v != NONE) {
                    least = count == 0 ? v : Math.min(least, v);
                    greatest = Math.max(greatest, v);
                    sum += v;
                    count++;
                }
            }
        }
        switch (what) {
            case 0:
                return sum;
            case 1:
                return count;
            case 2:
                return least;
            default:
                return greatest;
        }
    }

    public int differing(int a, int b, int layer) {
        long[] one = cellsOf(a);
        long[] two = cellsOf(b);
        if (one == null || two == null || !isLayer(layer)) {
            return -1;
        }
        int count = 0;
        for (int i = layer * LAYER_CELLS; i < (layer + 1) * LAYER_CELLS; i++) {
            if (valueOf(one[i]) != valueOf(two[i])) {
                count++;
            }
        }
        return count;
    }

    public int differs(int a, int b, int layer, int k) {
        long[] one = cellsOf(a);
        long[] two = cellsOf(b);
        if (one == null || two == null || !isLayer(layer)) {
            return -1;
        }
        int count = 0;
        int first = layer * LAYER_CELLS;
        for (int i = 0; i < LAYER_CELLS; i++) {
            if (valueOf(one[first + i]) != valueOf(two[first + i])) {
                if (count == k) {
                    return i;
                }
                count++;
            }
        }
        return -1;
    }

    public int nearest(int a, int b, int k) {
        if (commitAt(a) == null || commitAt(b) == null) {
            return -1;
        }
        int found = nearestOf(1 << a, b);
        int count = 0;
        for (int n = 0; n < made; n++) {
            if (contains(found, n)) {
                if (count == k) {
                    return n;
                }
                count++;
            }
        }
        return -1;
    }

    public int about(int place, int what) {
        Commit commit = commitAt(place);
        if (commit != null) {
            return aboutCommit(commit, place, what);
        }
        Branch branch = branchOfPlace(place);
        if (branch != null) {
            return aboutBranch(branch, what);
        }
        return -1;
    }

    public int blocks(int layer) {
        if (!isLayer(layer)) {
            return -1;
        }
        if (blockTable == null) {
            blockTable = new BlockTable();
        }
        blockTable.forget();
        for (int place = 0; place < PLACES; place++) {
            long[] cells = cellsOf(place);
            if (cells != null) {
                blockTable.addAll(cells, layer);
            }
        }
        return blockTable.count;
    }

    private static boolean isLayer(int layer) {
        return layer >= 0 && layer < LAYERS;
    }

    private static boolean isCoordinate(int c) {
        return c >= 0 && c < SIDE;
    }

    private static boolean isPoint(int c) {
        return c >= 0 && c <= SIDE;
    }

    private static boolean isValue(int v) {
        return v == NONE || v >= -LARGEST_VALUE && v <= LARGEST_VALUE;
    }

    // The length is not added to the start: the sum of two wild arguments could wrap around.
    private static boolean fits(int start, int length) {
        return start >= 0 && length <= SIDE && start <= SIDE - length;
    }

    private static boolean contains(int set, int number) {
        return (set >> number & 1) == 1;
    }

    private static int indexOf(int layer, int x, int y) {
        return layer * LAYER_CELLS + y * SIDE + x;
    }

    private static int layerOf(int index) {
        return index / LAYER_CELLS;
    }

    private static int yOf(int index) {
        return index / SIDE % SIDE;
    }

    private static int xOf(int index) {
        return index % SIDE;
    }

    private static long cellOf(int v, int origin) {
        return (long) v << 32 | origin;
    }

    private static int valueOf(long cell) {
        return (int) (cell >> 32);
    }

    private static int originOf(int number, int index) {
        return number << INDEX_BITS | index;
    }

    private static int originIndexOf(long cell) {
        return (int) cell & INDEX_MASK;
    }

    private static int originCommitOf(long cell) {
        return valueOf(cell) == NONE ? NONE : (int) cell >> INDEX_BITS;
    }

    private static boolean isConflict(int mine, int other, int base) {
        return mine != base && other != base && mine != other;
    }

    private Commit commitAt(int number) {
        return number >= 0 && number < COMMITS ? commits[number] : null;
    }

    private Branch branchAt(int b) {
        if (b < 0 || b >= BRANCHES || branches[b] == null || !branches[b].there) {
            return null;
        }
        return branches[b];
    }

    private Branch branchOfPlace(int place) {
        return place < COMMITS ? null : branchAt(place - COMMITS);
    }

    private long[] cellsOf(int place) {
        Commit commit = commitAt(place);
        if (commit != null) {
            return commit.cells;
        }
        Branch branch = branchOfPlace(place);
        return branch == null ? null : branch.cells;
    }

    private long cellAt(int place, int layer, int x, int y) {
        long[] cells = cellsOf(place);
        if (cells == null || !isLayer(layer) || !isCoordinate(x) || !isCoordinate(y)) {
            return EMPTY_CELL;
        }
        return cells[indexOf(layer, x, y)];
    }

    private Branch branchToEdit(int b, int layer) {
        Branch branch = branchAt(b);
        if (branch == null || !isLayer(layer)) {
            throw new IllegalArgumentException();
        }
        return branch;
    }

    private static void refuseUnlessValue(int v) {
        if (!isValue(v)) {
            throw new IllegalArgumentException();
        }
    }

    private static void setIfOther(Branch branch, int index, int v) {
        if (valueOf(branch.cells[index]) != v) {
            branch.set(index, v);
        }
    }

    /** Counts the sides right of the cell's middle, in half cells, so that the middle is whole. */
    private boolean isInside(int n, int x, int y) {
        boolean inside = false;
        for (int i = 0; i < n; i++) {
            if (isRightOf(i, (i + 1) % n, 2 * x + 1, 2 * y + 1)) {
                inside = !inside;
            }
        }
        return inside;
    }

    private boolean isRightOf(int one, int two, int x, int y) {
        int low = cornerY[one] <= cornerY[two] ? one : two;
        int high = one + two - low;
        int lowY = 2 * cornerY[low];
        int highY = 2 * cornerY[high];
        if (y < lowY || y >= highY) {
            return false;
        }
        int lowX = 2 * cornerX[low];
        int highX = 2 * cornerX[high];
        return (y - lowY) * (highX - lowX) > (x - lowX) * (highY - lowY);
    }

    private int mapped(int v) {
        for (int i = 0; i < ENTRIES; i++) {
            if (entryFrom[i] == v) {
                return entryTo[i];
            }
        }
        return v;
    }

    private static int combined(int v, int second, int way) {
        if (second == NONE) {
            return v;
        }
        if (v == NONE) {
            return second;
        }
        switch (way) {
            case 0:
                return Math.max(-LARGEST_VALUE, Math.min(LARGEST_VALUE, v + second));
            case 1:
                return Math.max(v, second);
            default:
                return Math.min(v, second);
        }
    }

    private boolean isChanged(Branch branch) {
        if (branch.merging != NO_COMMIT) {
            return true;
        }
        Commit head = commitAt(branch.head);
        if (head == null) {
            return false;
        }
        for (int i = 0; i < ALL_CELLS; i++) {
            if (branch.cells[i] != head.cells[i]) {
                return true;
            }
        }
        return false;
    }

    private static void claimPending(long[] cells, int number) {
        for (int i = 0; i < ALL_CELLS; i++) {
            if (originCommitOf(cells[i]) == PENDING) {
                cells[i] = cellOf(valueOf(cells[i]), originOf(number, originIndexOf(cells[i])));
            }
        }
    }

    private int ancestorsOf(int number) {
        Commit commit = commitAt(number);
        return commit == null ? 0 : commit.ancestors;
    }

    /** The NEAREST of a set of commits and one more, as a set. */
    private int nearestOf(int set, int number) {
        int ofSet = 0;
        for (int n = 0; n < made; n++) {
            if (contains(set, n)) {
                ofSet |= ancestorsOf(n);
            }
        }
        int common = ofSet & ancestorsOf(number);
        int farther = 0;
        for (int n = 0; n < made; n++) {
            if (contains(common, n)) {
                farther |= ancestorsOf(n) & ~(1 << n);
            }
        }
        return common & ~farther;
    }

    /** THE BASE of a set of commits and one more, in the row of this depth. */
    private BaseRow baseOf(int set, int number, int depth) {
        BaseRow row = baseRowAt(depth);
        int found = nearestOf(set, number);
        int before = 0;
        for (int n = 0; n < made; n++) {
            if (contains(found, n)) {
                joinBase(row, before, n, depth);
                before |= 1 << n;
            }
        }
        return row;
    }

    // Each depth is about commits of lower numbers than the one above, so there are rows for all.
    private void joinBase(BaseRow row, int before, int number, int depth) {
        Commit commit = commitAt(number);
        if (commit == null) {
            return;
        }
        if (before == 0) {
            row.take(commit.cells);
        } else if (depth + 1 < COMMITS) {
            row.mergeWith(commit.cells, baseOf(before, number, depth + 1).values);
        }
    }

    private BaseRow baseRowAt(int depth) {
        if (baseRows[depth] == null) {
            baseRows[depth] = new BaseRow();
        }
        return baseRows[depth];
    }

    private void mergeCells(long[] cells, long[] others, int[] base, Conflicts conflicts) {
        for (int i = 0; i < ALL_CELLS; i++) {
            int mine = valueOf(cells[i]);
            int other = valueOf(others[i]);
            int kind = kinds[layerOf(i)];
            if (isConflict(mine, other, base[i])) {
                if (kind == 0) {
                    conflicts.add(i, mine, other, base[i]);
                } else if (otherWins(kind, cells[i], others[i])) {
                    cells[i] = others[i];
                }
            } else if (mine == base[i] && mine != other) {
                // Where both values are the same, mine stays, and with it my origin.
                cells[i] = others[i];
            }
        }
    }

    private static boolean otherWins(int kind, long mine, long other) {
        switch (kind) {
            case GREATER:
                return valueOf(other) > valueOf(mine);
            case LESSER:
                return valueOf(other) < valueOf(mine);
            case NEWER:
                return originCommitOf(other) > originCommitOf(mine);
            default:
                return false;
        }
    }

    private int aboutCommit(Commit commit, int number, int what) {
        switch (what) {
            case 0:
                return commit.firstParent;
            case 1:
                return commit.secondParent;
            case 2:
                return childrenOf(number);
            default:
                return -1;
        }
    }

    private int childrenOf(int number) {
        int count = 0;
        for (int n = 0; n < made; n++) {
            Commit commit = commitAt(n);
            if (commit != null && commit.hasParent(number)) {
                count++;
            }
        }
        return count;
    }

    private int aboutBranch(Branch branch, int what) {
        switch (what) {
            case 0:
                return branch.head;
            case 1:
                return branch.merging;
            case 2:
                return isChanged(branch) ? 1 : 0;
            default:
                return -1;
        }
    }
}
