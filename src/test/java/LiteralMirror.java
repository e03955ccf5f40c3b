import java.util.ArrayList;
import java.util.Collections;
import java.util.List;
import java.util.Map;
import java.util.SortedSet;
import java.util.TreeMap;
import java.util.TreeSet;

/** The document told a second time, word by word and with the library's sets and maps, to compare answers with. */
final class LiteralMirror {
    private static final long NONE = -1000000000000L;

    private static final class Machine {
        final Map<Integer, Integer> stable = new TreeMap<>();
        final Map<Integer, Integer> cached = new TreeMap<>();
        SortedSet<Integer> marks = new TreeSet<>();
        boolean up = true;
        String role = "SECONDARY";
        int generation = 1;
        int base = 0;
        boolean alone = false;
        boolean witnessLine = true;

        int holds(int block) {
            return cached.containsKey(block) ? cached.get(block) : stable.getOrDefault(block, 0);
        }

        void cachedBecomeStable() {
            stable.putAll(cached);
            cached.clear();
        }
    }

    private final List<Machine> machines = List.of(new Machine(), new Machine());
    private final int length;
    private final List<int[]> batch = new ArrayList<>();
    private boolean mirrorLine = true;
    private boolean connected = true;
    private Integer source = null;
    private int witnessGeneration = 1;
    private int time = 0;
    private Integer holder = null;
    private int end = 0;

    LiteralMirror(int lease) {
        length = lease < 2 ? 2 : lease > 50 ? 50 : lease;
    }

    private Integer primary() {
        for (int n = 0; n < 2; n++) {
            if (machines.get(n).role.equals("PRIMARY")) {
                return n;
            }
        }
        return null;
    }

    private void becomesSecondary(int n) {
        if (machines.get(n).role.equals("PRIMARY")) {
            batch.clear();
        }
        machines.get(n).role = "SECONDARY";
    }

    private static boolean in(int low, int number, int high) {
        return low <= number && number <= high;
    }

    private static int told(SortedSet<Integer> extents) {
        int sum = 0;
        for (int e : extents) {
            sum += (int) Math.pow(2, e);
        }
        return sum;
    }

    private boolean leaseRuns() {
        return holder != null && end > time;
    }

    private void goesAlone(Machine m) {
        witnessGeneration += 1;
        m.base = m.generation;
        m.generation = witnessGeneration;
        m.alone = true;
    }

    private void write(int p, int block, int value) {
        machines.get(p).cached.put(block, value);
        if (connected) {
            machines.get(1 - p).cached.put(block, value);
        } else {
            machines.get(p).marks.add(block / 4);
        }
    }

    private void flush(int p) {
        machines.get(p).cachedBecomeStable();
        if (connected) {
            machines.get(1 - p).cachedBecomeStable();
        }
    }

    int stage(int cell, int value) {
        if (!in(0, cell, 23) || primary() == null) {
            return -1;
        }
        if (batch.size() == 3) {
            return -2;
        }
        batch.add(new int[] {cell, value});
        return batch.size();
    }

    int commit(int cut, int keep) {
        Integer p = primary();
        int n = batch.size();
        if (p == null || n == 0) {
            return -1;
        }
        Machine m = machines.get(p);
        if (!connected && !m.alone && !m.witnessLine) {
            return -3;
        }
        if (!connected && !m.alone) {
            goesAlone(m);
        }
        List<int[]> steps = commitSteps();
        boolean crashes = in(0, cut, 3 * n + 6);
        for (int[] step : crashes ? steps.subList(0, cut) : steps) {
            if (step == FLUSH) {
                flush(p);
            } else if (step != NO_CHANGE) {
                write(p, step[0], step[1]);
            }
        }
        if (crashes) {
            crash(p, keep);
            return -7;
        }
        batch.clear();
        return 0;
    }

    private static final int[] FLUSH = {};
    private static final int[] NO_CHANGE = {};

    private List<int[]> commitSteps() {
        List<int[]> steps = new ArrayList<>();
        steps.add(FLUSH);
        steps.add(new int[] {24, 0});
        steps.add(FLUSH);
        for (int i = 0; i < batch.size(); i++) {
            steps.add(new int[] {25 + 2 * i, batch.get(i)[0]});
            steps.add(new int[] {26 + 2 * i, batch.get(i)[1]});
        }
        steps.add(FLUSH);
        steps.add(new int[] {24, batch.size()});
        steps.add(FLUSH);
        steps.addAll(batch);
        steps.add(NO_CHANGE);
        return steps;
    }

    long cell(int cell) {
        return !in(0, cell, 23) || primary() == null ? NONE : machines.get(primary()).holds(cell);
    }

    int crash(int node, int keep) {
        if (!in(0, node, 1) || !machines.get(node).up) {
            return -1;
        }
        Machine m = machines.get(node);
        for (Map.Entry<Integer, Integer> entry : m.cached.entrySet()) {
            int block = entry.getKey();
            m.marks.add(block / 4);
            if (connected) {
                machines.get(1 - node).marks.add(block / 4);
            }
            if ((keep & 1 << block) != 0) {
                m.stable.put(block, entry.getValue());
            }
        }
        m.cached.clear();
        m.up = false;
        becomesSecondary(node);
        connected = false;
        source = null;
        return 0;
    }

    int restart(int node) {
        if (!in(0, node, 1) || machines.get(node).up) {
            return -1;
        }
        machines.get(node).up = true;
        return 0;
    }

    int swap(int node) {
        if (!in(0, node, 1) || machines.get(node).up) {
            return -1;
        }
        Machine m = machines.get(node);
        m.stable.clear();
        m.cached.clear();
        m.marks.clear();
        m.generation = 0;
        m.base = 0;
        m.alone = false;
        return 0;
    }

    int line(boolean up) {
        mirrorLine = up;
        if (!mirrorLine) {
            connected = false;
            source = null;
        }
        return 0;
    }

    int witnessLine(int node, boolean up) {
        if (!in(0, node, 1)) {
            return -1;
        }
        machines.get(node).witnessLine = up;
        return 0;
    }

    int connect() {
        Machine zero = machines.get(0);
        Machine one = machines.get(1);
        if (connected || !mirrorLine || !zero.up || !one.up) {
            return -1;
        }
        if (zero.generation == 0 && one.generation == 0) {
            return -6;
        }
        SortedSet<Integer> u = new TreeSet<>(zero.marks);
        u.addAll(one.marks);
        int from;
        if (zero.generation == one.generation) {
            from = primary() == null ? 0 : primary();
        } else {
            from = zero.generation > one.generation ? 0 : 1;
            Machine greater = machines.get(from);
            if (!(greater.alone && greater.base == machines.get(1 - from).generation)) {
                Collections.addAll(u, 0, 1, 2, 3, 4, 5, 6, 7);
            }
        }
        connected = true;
        if (u.isEmpty()) {
            finished(from);
            return 0;
        }
        Machine target = machines.get(1 - from);
        machines.get(from).marks = new TreeSet<>(u);
        target.marks.clear();
        target.generation = 0;
        target.alone = false;
        source = from;
        return u.size();
    }

    private void finished(int from) {
        machines.get(1 - from).generation = machines.get(from).generation;
        for (Machine m : machines) {
            m.cachedBecomeStable();
            m.alone = false;
            m.marks.clear();
        }
        source = null;
    }

    int resync(int count) {
        if (!in(1, count, 4) || source == null) {
            return -1;
        }
        Machine from = machines.get(source);
        Machine target = machines.get(1 - source);
        for (int i = 0; i < count && !from.marks.isEmpty(); i++) {
            int e = from.marks.first();
            from.marks.remove(e);
            for (int block = 4 * e; block <= 4 * e + 3; block++) {
                target.cached.put(block, from.holds(block));
            }
        }
        if (from.marks.isEmpty()) {
            finished(source);
        }
        return from.marks.size();
    }

    int promote(int node, boolean force) {
        if (!in(0, node, 1)) {
            return -1;
        }
        Machine m = machines.get(node);
        if (!m.up || m.role.equals("PRIMARY") || !m.witnessLine) {
            return -1;
        }
        if (leaseRuns() && holder == 1 - node) {
            return -4;
        }
        if (m.generation == 0) {
            return -6;
        }
        boolean old = m.generation != witnessGeneration;
        if (old && !force) {
            return -5;
        }
        becomesSecondary(1 - node);
        m.role = "PRIMARY";
        holder = node;
        end = time + length;
        if (old || !connected && !m.alone) {
            goesAlone(m);
        }
        flush(node);
        int mark = m.holds(24);
        if (!in(1, mark, 3)) {
            return 0;
        }
        for (int i = 0; i <= mark - 1; i++) {
            if (in(0, m.holds(25 + 2 * i), 23)) {
                write(node, m.holds(25 + 2 * i), m.holds(26 + 2 * i));
            }
        }
        return mark;
    }

    int demote(int node) {
        if (!in(0, node, 1) || !machines.get(node).role.equals("PRIMARY")) {
            return -1;
        }
        becomesSecondary(node);
        if (holder != null && holder == node) {
            holder = null;
        }
        return 0;
    }

    int renew() {
        if (primary() == null || !machines.get(primary()).witnessLine) {
            return -1;
        }
        end = time + length;
        return end;
    }

    int tick(int by) {
        if (!in(0, by, 100)) {
            return -1;
        }
        time += by;
        if (!leaseRuns()) {
            holder = null;
            becomesSecondary(0);
            becomesSecondary(1);
        }
        return time;
    }

    long block(int node, int block, boolean stable) {
        if (!in(0, node, 1) || !in(0, block, 31)) {
            return NONE;
        }
        Machine m = machines.get(node);
        return stable ? m.stable.getOrDefault(block, 0) : m.holds(block);
    }

    int node(int node, int what) {
        if (!in(0, node, 1) || !in(0, what, 7)) {
            return -1;
        }
        Machine m = machines.get(node);
        return List.of(m.up ? 1 : 0, m.role.equals("PRIMARY") ? 1 : 0, m.generation, m.base, m.alone ? 1 : 0,
            told(m.marks), m.cached.size(), m.witnessLine ? 1 : 0).get(what);
    }

    int mirror(int what) {
        if (!in(0, what, 6)) {
            return -1;
        }
        return List.of(connected ? 1 : 0, source == null ? 2 : source, witnessGeneration, holder == null ? 2 : holder,
            holder == null ? 0 : end, batch.size(), mirrorLine ? 1 : 0).get(what);
    }

    /** As Mirrors.state tells it. */
    String state() {
        StringBuilder all = new StringBuilder();
        for (int what = 0; what <= 6; what++) {
            all.append(mirror(what)).append(' ');
        }
        for (int node = 0; node < 2; node++) {
            all.append("| ");
            for (int what = 0; what <= 7; what++) {
                all.append(node(node, what)).append(' ');
            }
            for (int block = 0; block < 32; block++) {
                all.append(block(node, block, true)).append(':').append(block(node, block, false)).append(' ');
            }
        }
        for (int cell = 0; cell < 24; cell++) {
            all.append(cell(cell)).append(' ');
        }
        return all.toString();
    }
}
