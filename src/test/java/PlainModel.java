import java.math.BigDecimal;
import java.util.ArrayList;
import java.util.Arrays;
import java.util.HashMap;
import java.util.HashSet;
import java.util.List;
import java.util.Map;
import java.util.Set;
import java.util.TreeSet;

/**
 * The document once more, written with other means than the program: cells are objects, sets are
 * sets, and every base is made anew. ModelTest holds the program's answers against it.
 */
final class PlainModel {
    private static final int NONE = SurveyStore.NONE;
    private static final int PENDING = SurveyStore.PENDING;

    record Cell(int value, int commit, int layer, int x, int y) {
    }

    record Commit(List<Integer> parents, Cell[][][] cells) {
    }

    record Conflict(int layer, int x, int y, int mine, int other, int base) {
    }

    private static final class Branch {
        int head;
        int merging = -1;
        Cell[][][] cells;
        List<Conflict> conflicts = new ArrayList<>();
        Set<Integer> settled = new HashSet<>();
    }

    private interface Change {
        Integer of(int layer, int x, int y);
    }

    private final List<Commit> commits = new ArrayList<>();
    private final Map<Integer, Set<Integer>> ancestorsOf = new HashMap<>();
    private final Branch[] branches = new Branch[4];
    private final int[] kinds = new int[4];
    private int[] region = {0, 0, 32, 32};
    private final int[][] corners = new int[6][2];
    private final int[][] entries = new int[8][2];

    /** How many nearest commits the widest base of the last merge had, and how deep bases went. */
    int widestBase;
    int deepestBase;

    PlainModel() {
        commits.add(new Commit(List.of(), new Cell[4][32][32]));
        branches[0] = new Branch();
        branches[0].cells = new Cell[4][32][32];
        for (int[] entry : entries) {
            Arrays.fill(entry, NONE);
        }
    }

    int made() {
        return commits.size();
    }

    int head(int b) {
        return branches[b] == null ? -1 : branches[b].head;
    }

    int unsettled(int b) {
        return branches[b] == null ? 0 : branches[b].conflicts.size() - branches[b].settled.size();
    }

    boolean kind(int layer, int kind) {
        if (!in(layer, 0, 3) || !in(kind, 0, 3)) {
            return false;
        }
        kinds[layer] = kind;
        return true;
    }

    void branch(int b, int commit) {
        argument(in(b, 0, 3) && isCommit(commit));
        state(branches[b] == null);
        branches[b] = new Branch();
        branches[b].head = commit;
        branches[b].cells = copyOf(commits.get(commit).cells());
    }

    boolean drop(int b) {
        if (!isBranch(b)) {
            return false;
        }
        branches[b] = null;
        return true;
    }

    boolean region(int x, int y, int w, int h) {
        long right = (long) x + w;
        long bottom = (long) y + h;
        if (w < 1 || h < 1 || x < 0 || y < 0 || right > 32 || bottom > 32) {
            return false;
        }
        region = new int[] {x, y, w, h};
        return true;
    }

    void paint(int b, int layer, int v) {
        argument(isBranch(b) && in(layer, 0, 3) && isValue(v));
        change(branches[b], layer, (l, x, y) -> inRegion(x, y) ? v : null);
    }

    boolean corner(int i, int x, int y) {
        if (!in(i, 0, 5) || !in(x, 0, 32) || !in(y, 0, 32)) {
            return false;
        }
        corners[i] = new int[] {x, y};
        return true;
    }

    void polygon(int b, int layer, int n, int v) {
        argument(isBranch(b) && in(layer, 0, 3) && isValue(v) && in(n, 3, 6));
        change(branches[b], layer, (l, x, y) -> sidesRightOf(n, x, y) % 2 == 1 ? v : null);
    }

    void copy(int b, int layer, int commit, int from, int x, int y) {
        argument(isBranch(b) && in(layer, 0, 3) && isCommit(commit) && in(from, 0, 3));
        argument(in(x, 0, 32 - region[2]) && in(y, 0, 32 - region[3]));
        for (int dy = 0; dy < region[3]; dy++) {
            for (int dx = 0; dx < region[2]; dx++) {
                Cell cell = commits.get(commit).cells()[from][region[1] + dy][region[0] + dx];
                branches[b].cells[layer][y + dy][x + dx] = cell;
            }
        }
    }

    boolean entry(int i, int from, int to) {
        if (!in(i, 0, 7) || !isValue(from) || !isValue(to)) {
            return false;
        }
        entries[i] = new int[] {from, to};
        return true;
    }

    void map(int b, int layer) {
        argument(isBranch(b) && in(layer, 0, 3));
        Cell[][][] cells = branches[b].cells;
        change(branches[b], layer, (l, x, y) -> {
            int v = valueOf(cells[l][y][x]);
            for (int[] entry : entries) {
                if (inRegion(x, y) && entry[0] == v) {
                    return entry[1] == v ? null : entry[1];
                }
            }
            return null;
        });
    }

    void combine(int b, int layer, int second, int way) {
        argument(isBranch(b) && in(layer, 0, 3) && in(second, 0, 3) && in(way, 0, 2));
        Cell[][][] cells = branches[b].cells;
        change(branches[b], layer, (l, x, y) -> {
            int v = valueOf(cells[l][y][x]);
            int w = valueOf(cells[second][y][x]);
            if (!inRegion(x, y) || w == NONE) {
                return null;
            }
            if (v == NONE) {
                return w;
            }
            int sum = Math.max(-1000000, Math.min(1000000, v + w));
            int both = way == 0 ? sum : way == 1 ? Math.max(v, w) : Math.min(v, w);
            return both == v ? null : both;
        });
    }

    int commit(int b) {
        argument(isBranch(b));
        Branch branch = branches[b];
        state(isChanged(branch) && unsettled(b) == 0 && commits.size() < 24);
        int number = commits.size();
        for (int layer = 0; layer < 4; layer++) {
            for (Cell[] row : branch.cells[layer]) {
                for (int x = 0; x < 32; x++) {
                    Cell c = row[x];
                    if (c != null && c.commit() == PENDING) {
                        row[x] = new Cell(c.value(), number, c.layer(), c.x(), c.y());
                    }
                }
            }
        }
        List<Integer> parents = branch.merging < 0 ? List.of(branch.head) : List.of(branch.head, branch.merging);
        commits.add(new Commit(parents, copyOf(branch.cells)));
        branch.head = number;
        branch.merging = -1;
        branch.conflicts.clear();
        branch.settled.clear();
        return number;
    }

    int merge(int b, int commit) {
        argument(isBranch(b) && isCommit(commit));
        Branch branch = branches[b];
        state(!isChanged(branch) && !ancestors(branch.head).contains(commit));
        widestBase = 0;
        deepestBase = 0;
        int[][][] base = base(Set.of(branch.head), commit, 0);
        for (int layer = 0; layer < 4; layer++) {
            for (int y = 0; y < 32; y++) {
                for (int x = 0; x < 32; x++) {
                    Cell mine = branch.cells[layer][y][x];
                    Cell other = commits.get(commit).cells()[layer][y][x];
                    branch.cells[layer][y][x] = merged(branch, mine, other, base[layer][y][x], layer, x, y);
                }
            }
        }
        branch.merging = commit;
        return branch.conflicts.size();
    }

    private Cell merged(Branch branch, Cell mine, Cell other, int base, int layer, int x, int y) {
        int a = valueOf(mine);
        int o = valueOf(other);
        if (a == base) {
            return o == a ? mine : other;
        }
        if (o == base || o == a) {
            return mine;
        }
        switch (kinds[layer]) {
            case 1:
                return a > o ? mine : other;
            case 2:
                return a < o ? mine : other;
            case 3:
                int mineNumber = mine == null ? -1 : mine.commit();
                int otherNumber = other == null ? -1 : other.commit();
                return otherNumber > mineNumber ? other : mine;
            default:
                branch.conflicts.add(new Conflict(layer, x, y, a, o, base));
                return mine;
        }
    }

    private int[][][] base(Set<Integer> some, int c, int depth) {
        List<Integer> nearest = nearest(some, c);
        widestBase = Math.max(widestBase, nearest.size());
        deepestBase = Math.max(deepestBase, depth);
        int[][][] values = new int[4][32][32];
        for (int k = 0; k < nearest.size(); k++) {
            Cell[][][] other = commits.get(nearest.get(k)).cells();
            int[][][] under = k == 0 ? null : base(new HashSet<>(nearest.subList(0, k)), nearest.get(k), depth + 1);
            for (int layer = 0; layer < 4; layer++) {
                for (int y = 0; y < 32; y++) {
                    for (int x = 0; x < 32; x++) {
                        int o = valueOf(other[layer][y][x]);
                        int a = values[layer][y][x];
                        values[layer][y][x] = under == null ? o : mergedBase(a, o, under[layer][y][x]);
                    }
                }
            }
        }
        return values;
    }

    private static int mergedBase(int a, int o, int base) {
        if (a == base) {
            return o;
        }
        return o == base || o == a ? a : NONE;
    }

    private List<Integer> nearest(Set<Integer> some, int c) {
        Set<Integer> common = new TreeSet<>();
        for (int one : some) {
            common.addAll(ancestors(one));
        }
        common.retainAll(ancestors(c));
        List<Integer> nearest = new ArrayList<>();
        for (int n : common) {
            if (common.stream().noneMatch(m -> m != n && ancestors(m).contains(n))) {
                nearest.add(n);
            }
        }
        return nearest;
    }

    private Set<Integer> ancestors(int c) {
        if (!ancestorsOf.containsKey(c)) {
            Set<Integer> found = new TreeSet<>();
            found.add(c);
            for (int parent : commits.get(c).parents()) {
                found.addAll(ancestors(parent));
            }
            ancestorsOf.put(c, found);
        }
        return ancestorsOf.get(c);
    }

    int conflict(int b, int i, int what) {
        if (!isBranch(b) || !in(i, 0, branches[b].conflicts.size() - 1) || !in(what, 0, 6)) {
            return NONE;
        }
        Conflict c = branches[b].conflicts.get(i);
        int settled = branches[b].settled.contains(i) ? 1 : 0;
        return new int[] {c.layer(), c.x(), c.y(), c.mine(), c.other(), c.base(), settled}[what];
    }

    int settle(int b, int i, int v) {
        argument(isBranch(b) && in(i, 0, branches[b].conflicts.size() - 1) && isValue(v));
        Conflict c = branches[b].conflicts.get(i);
        branches[b].cells[c.layer()][c.y()][c.x()] = pending(v, c.layer(), c.x(), c.y());
        branches[b].settled.add(i);
        return unsettled(b);
    }

    int value(int place, int layer, int x, int y) {
        return valueOf(cell(place, layer, x, y));
    }

    int origin(int place, int layer, int x, int y, int what) {
        Cell c = cell(place, layer, x, y);
        if (c == null || !in(what, 0, 3)) {
            return NONE;
        }
        return new int[] {c.commit(), c.layer(), c.x(), c.y()}[what];
    }

    int total(int place, int layer, int what) {
        argument(cells(place) != null && in(layer, 0, 3) && in(what, 0, 3));
        List<Integer> values = new ArrayList<>();
        for (int y = 0; y < 32; y++) {
            for (int x = 0; x < 32; x++) {
                if (inRegion(x, y) && cell(place, layer, x, y) != null) {
                    values.add(cell(place, layer, x, y).value());
                }
            }
        }
        switch (what) {
            case 0:
                return values.stream().mapToInt(v -> v).sum();
            case 1:
                return values.size();
            case 2:
                return values.stream().mapToInt(v -> v).min().orElse(NONE);
            default:
                return values.stream().mapToInt(v -> v).max().orElse(NONE);
        }
    }

    private List<Integer> difference(int a, int b, int layer) {
        if (cells(a) == null || cells(b) == null || !in(layer, 0, 3)) {
            return null;
        }
        List<Integer> different = new ArrayList<>();
        for (int y = 0; y < 32; y++) {
            for (int x = 0; x < 32; x++) {
                if (value(a, layer, x, y) != value(b, layer, x, y)) {
                    different.add(32 * y + x);
                }
            }
        }
        return different;
    }

    int differing(int a, int b, int layer) {
        List<Integer> different = difference(a, b, layer);
        return different == null ? -1 : different.size();
    }

    int differs(int a, int b, int layer, int k) {
        List<Integer> different = difference(a, b, layer);
        return different == null || !in(k, 0, different.size() - 1) ? -1 : different.get(k);
    }

    int nearest(int a, int b, int k) {
        if (!isCommit(a) || !isCommit(b)) {
            return -1;
        }
        List<Integer> nearest = nearest(Set.of(a), b);
        return in(k, 0, nearest.size() - 1) ? nearest.get(k) : -1;
    }

    int about(int place, int what) {
        if (isCommit(place)) {
            List<Integer> parents = commits.get(place).parents();
            if (what == 0 || what == 1) {
                return parents.size() > what ? parents.get(what) : -1;
            }
            return what == 2 ? (int) commits.stream().filter(c -> c.parents().contains(place)).count() : -1;
        }
        if (place < 24 || !isBranch(place - 24)) {
            return -1;
        }
        Branch branch = branches[place - 24];
        switch (what) {
            case 0:
                return branch.head;
            case 1:
                return branch.merging;
            case 2:
                return isChanged(branch) ? 1 : 0;
            default:
                return -1;
        }
    }

    int blocks(int layer) {
        if (!in(layer, 0, 3)) {
            return -1;
        }
        Set<List<Integer>> different = new HashSet<>();
        for (int place = 0; place < 28; place++) {
            if (cells(place) == null) {
                continue;
            }
            for (int at = 0; at < 64; at++) {
                List<Integer> block = new ArrayList<>();
                for (int i = 0; i < 16; i++) {
                    block.add(value(place, layer, at % 8 * 4 + i % 4, at / 8 * 4 + i / 4));
                }
                if (block.stream().anyMatch(v -> v != NONE)) {
                    different.add(block);
                }
            }
        }
        return different.size();
    }

    private void change(Branch branch, int layer, Change change) {
        for (int y = 0; y < 32; y++) {
            for (int x = 0; x < 32; x++) {
                Integer v = change.of(layer, x, y);
                if (v != null) {
                    branch.cells[layer][y][x] = pending(v, layer, x, y);
                }
            }
        }
    }

    /** Where a side meets the line is compared exactly: halves are whole in decimals. */
    private int sidesRightOf(int n, int x, int y) {
        int sides = 0;
        for (int i = 0; i < n; i++) {
            int[] p = corners[i];
            int[] q = corners[(i + n - 1) % n];
            double middle = y + 0.5;
            if (middle < Math.min(p[1], q[1]) || middle >= Math.max(p[1], q[1])) {
                continue;
            }
            BigDecimal height = new BigDecimal(q[1] - p[1]);
            BigDecimal up = new BigDecimal(middle - p[1]);
            BigDecimal wide = new BigDecimal(q[0] - p[0]);
            BigDecimal right = new BigDecimal(x + 0.5 - p[0]);
            int order = up.multiply(wide).compareTo(right.multiply(height)) * height.signum();
            if (order > 0) {
                sides++;
            }
        }
        return sides;
    }

    private Cell[][][] cells(int place) {
        if (isCommit(place)) {
            return commits.get(place).cells();
        }
        return in(place, 24, 27) && isBranch(place - 24) ? branches[place - 24].cells : null;
    }

    private Cell cell(int place, int layer, int x, int y) {
        Cell[][][] cells = cells(place);
        boolean there = cells != null && in(layer, 0, 3) && in(x, 0, 31) && in(y, 0, 31);
        return there ? cells[layer][y][x] : null;
    }

    private boolean isChanged(Branch branch) {
        return branch.merging >= 0 || !Arrays.deepEquals(branch.cells, commits.get(branch.head).cells());
    }

    private boolean inRegion(int x, int y) {
        return in(x, region[0], region[0] + region[2] - 1) && in(y, region[1], region[1] + region[3] - 1);
    }

    private boolean isCommit(int c) {
        return in(c, 0, commits.size() - 1);
    }

    private boolean isBranch(int b) {
        return in(b, 0, 3) && branches[b] != null;
    }

    private static Cell pending(int v, int layer, int x, int y) {
        return v == NONE ? null : new Cell(v, PENDING, layer, x, y);
    }

    private static int valueOf(Cell cell) {
        return cell == null ? NONE : cell.value();
    }

    private static boolean in(int v, int least, int most) {
        return v >= least && v <= most;
    }

    private static boolean isValue(int v) {
        return v == NONE || in(v, -1000000, 1000000);
    }

    private static Cell[][][] copyOf(Cell[][][] cells) {
        Cell[][][] copy = new Cell[4][32][];
        for (int layer = 0; layer < 4; layer++) {
            for (int y = 0; y < 32; y++) {
                copy[layer][y] = cells[layer][y].clone();
            }
        }
        return copy;
    }

    private static void argument(boolean good) {
        if (!good) {
            throw new IllegalArgumentException();
        }
    }

    private static void state(boolean good) {
        if (!good) {
            throw new IllegalStateException();
        }
    }
}
