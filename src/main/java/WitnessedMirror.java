import java.util.Arrays;

/** Two nodes that mirror a disk, a witness that lends one of them the lease, and a journal on the disk. */
public final class WitnessedMirror {
    public static final int DONE = 0;
    public static final int REFUSED = -1;
    public static final int FULL = -2;
    public static final int FROZEN = -3;
    public static final int HELD = -4;
    public static final int OUTDATED = -5;
    public static final int UNFIT = -6;
    public static final int CRASHED = -7;
    public static final long NONE = -1000000000000L;

    private static final int NODES = 2;
    /** Stands where a node's number would, if there is no such node. */
    private static final int NOBODY = 2;

    private static final int BLOCKS = 32;
    private static final int CELLS = 24;
    private static final int MARK_BLOCK = 24;
    private static final int FIRST_ENTRY_BLOCK = 25;
    private static final int BATCH_LIMIT = 3;

    private static final int EXTENTS = 8;
    private static final int EXTENT_BLOCKS = 4;
    private static final int ALL_EXTENTS = 255;

    private static final int SHORTEST_LEASE = 2;
    private static final int LONGEST_LEASE = 50;
    private static final int LONGEST_TICK = 100;
    private static final int MOST_RESYNCED = 4;

    private final Node[] nodes = new Node[NODES];
    private final Witness witness;
    private final Batch batch = new Batch();
    private boolean lineUp = true;
    private boolean connected = true;
    private boolean syncing = false;
    private int source = 0;

    public WitnessedMirror(int lease) {
        nodes[0] = new Node();
        nodes[1] = new Node();
        witness = new Witness(Math.max(SHORTEST_LEASE, Math.min(LONGEST_LEASE, lease)));
    }

    public int stage(int cell, int value) {
        if (!isCell(cell) || findPrimary() == NOBODY) {
            return REFUSED;
        }
        if (batch.size == BATCH_LIMIT) {
            return FULL;
        }
        batch.append(cell, value);
        return batch.size;
    }

    public int commit(int cut, int keep) {
        int primary = findPrimary();
        if (primary == NOBODY || batch.size == 0) {
            return REFUSED;
        }
        if (isUnpaired(primary)) {
            if (!nodes[primary].witnessLineUp) {
                return FROZEN;
            }
            goAlone(primary);
        }
        int steps = 3 * batch.size + 7;
        boolean isCut = cut >= 0 && cut < steps;
        int done = isCut ? cut : steps;
        for (int step = 0; step < done; step++) {
            doCommitStep(primary, step);
        }
        if (isCut) {
            bringDown(primary, keep);
            return CRASHED;
        }
        batch.size = 0;
        return DONE;
    }

    public long cell(int cell) {
        int primary = findPrimary();
        if (!isCell(cell) || primary == NOBODY) {
            return NONE;
        }
        return nodes[primary].disk.held(cell);
    }

    public int crash(int node, int keep) {
        if (!isNode(node) || !nodes[node].up) {
            return REFUSED;
        }
        bringDown(node, keep);
        return DONE;
    }

    public int restart(int node) {
        if (!isNode(node) || nodes[node].up) {
            return REFUSED;
        }
        nodes[node].up = true;
        return DONE;
    }

    public int swap(int node) {
        if (!isNode(node) || nodes[node].up) {
            return REFUSED;
        }
        nodes[node].renewDisk();
        return DONE;
    }

    public int line(boolean up) {
        lineUp = up;
        if (!up) {
            disconnect();
        }
        return DONE;
    }

    public int witnessLine(int node, boolean up) {
        if (!isNode(node)) {
            return REFUSED;
        }
        nodes[node].witnessLineUp = up;
        return DONE;
    }

    public int connect() {
        if (connected || !lineUp || !nodes[0].up || !nodes[1].up) {
            return REFUSED;
        }
        if (nodes[0].generation == 0 && nodes[1].generation == 0) {
            return UNFIT;
        }
        source = chooseSource();
        int differing = extentsThatMayDiffer();
        connected = true;
        if (differing == 0) {
            finishSync();
        } else {
            startSync(differing);
        }
        return Integer.bitCount(differing);
    }

    public int resync(int count) {
        if (count < 1 || count > MOST_RESYNCED || !syncing) {
            return REFUSED;
        }
        Node from = nodes[source];
        for (int i = 0; i < count && from.marks != 0; i++) {
            int extent = Integer.numberOfTrailingZeros(from.marks);
            from.marks &= ~(1 << extent);
            copyExtent(extent);
        }
        int left = Integer.bitCount(from.marks);
        if (left == 0) {
            finishSync();
        }
        return left;
    }

    public int promote(int node, boolean force) {
        if (!isNode(node) || !nodes[node].mayAskForLease()) {
            return REFUSED;
        }
        Node chosen = nodes[node];
        if (witness.isLentTo(1 - node)) {
            return HELD;
        }
        if (chosen.generation == 0) {
            return UNFIT;
        }
        boolean outdated = chosen.generation != witness.generation;
        if (outdated && !force) {
            return OUTDATED;
        }
        makeSecondary(1 - node);
        chosen.primary = true;
        witness.lendTo(node);
        if (outdated || isUnpaired(node)) {
            goAlone(node);
        }
        flushBy(node);
        return redoJournal(node);
    }

    public int demote(int node) {
        if (!isNode(node) || !nodes[node].primary) {
            return REFUSED;
        }
        makeSecondary(node);
        if (witness.holder == node) {
            witness.holder = NOBODY;
        }
        return DONE;
    }

    public int renew() {
        int primary = findPrimary();
        if (primary == NOBODY || !nodes[primary].witnessLineUp) {
            return REFUSED;
        }
        witness.extendLease();
        return witness.end;
    }

    public int tick(int by) {
        if (by < 0 || by > LONGEST_TICK) {
            return REFUSED;
        }
        witness.time += by;
        if (!witness.isRunning()) {
            witness.holder = NOBODY;
            makeSecondary(0);
            makeSecondary(1);
        }
        return witness.time;
    }

    public long block(int node, int block, boolean stable) {
        if (!isNode(node) || block < 0 || block >= BLOCKS) {
            return NONE;
        }
        Disk disk = nodes[node].disk;
        return stable ? disk.stable[block] : disk.held(block);
    }

    public int node(int node, int what) {
        if (!isNode(node)) {
            return REFUSED;
        }
        Node told = nodes[node];
        switch (what) {
            case 0: return asNumber(told.up);
            case 1: return asNumber(told.primary);
            case 2: return told.generation;
            case 3: return told.base;
            case 4: return asNumber(told.alone);
            case 5: return told.marks;
            case 6: return told.disk.countCached();
            case 7: return asNumber(told.witnessLineUp);
            default: return REFUSED;
        }
    }

    public int mirror(int what) {
        switch (what) {
            case 0: return asNumber(connected);
            case 1: return syncing ? source : NOBODY;
            case 2: return witness.generation;
            case 3: return witness.holder;
            case 4: return witness.holder == NOBODY ? 0 : witness.end;
            case 5: return batch.size;
            case 6: return asNumber(lineUp);
            default: return REFUSED;
        }
    }

    private static boolean isNode(int number) {
        return number >= 0 && number < NODES;
    }

    private static boolean isCell(int number) {
        return number >= 0 && number < CELLS;
    }

    private static int asNumber(boolean yes) {
        return yes ? 1 : 0;
    }

    private int findPrimary() {
        if (nodes[0].primary) {
            return 0;
        }
        return nodes[1].primary ? 1 : NOBODY;
    }

    private void makeSecondary(int node) {
        if (nodes[node].primary) {
            nodes[node].primary = false;
            batch.size = 0;
        }
    }

    private void disconnect() {
        connected = false;
        syncing = false;
    }

    /** Whether the node, to write by itself, would first have to go alone. */
    private boolean isUnpaired(int node) {
        return !connected && !nodes[node].alone;
    }

    private void goAlone(int node) {
        witness.generation++;
        nodes[node].base = nodes[node].generation;
        nodes[node].generation = witness.generation;
        nodes[node].alone = true;
    }

    private void bringDown(int node, int keep) {
        int unsure = nodes[node].disk.cachedExtents();
        nodes[node].marks |= unsure;
        if (connected) {
            nodes[1 - node].marks |= unsure;
        }
        nodes[node].disk.settle(keep);
        nodes[node].up = false;
        makeSecondary(node);
        disconnect();
    }

    private void writeBy(int primary, int block, int value) {
        nodes[primary].disk.put(block, value);
        if (connected) {
            nodes[1 - primary].disk.put(block, value);
        } else {
            nodes[primary].marks |= 1 << (block / EXTENT_BLOCKS);
        }
    }

    private void flushBy(int primary) {
        nodes[primary].disk.flush();
        if (connected) {
            nodes[1 - primary].disk.flush();
        }
    }

    private void doCommitStep(int primary, int step) {
        int n = batch.size;
        int entriesEnd = 3 + 2 * n;
        int cellsStart = entriesEnd + 3;
        if (step == 0 || step == 2 || step == entriesEnd || step == entriesEnd + 2) {
            flushBy(primary);
        } else if (step == 1) {
            writeBy(primary, MARK_BLOCK, 0);
        } else if (step < entriesEnd) {
            int word = step - 3;
            int written = word % 2 == 0 ? batch.cells[word / 2] : batch.values[word / 2];
            writeBy(primary, FIRST_ENTRY_BLOCK + word, written);
        } else if (step == entriesEnd + 1) {
            writeBy(primary, MARK_BLOCK, n);
        } else if (step < cellsStart + n) {
            int entry = step - cellsStart;
            writeBy(primary, batch.cells[entry], batch.values[entry]);
        }
    }

    private int redoJournal(int primary) {
        Disk disk = nodes[primary].disk;
        int entries = disk.held(MARK_BLOCK);
        if (entries < 1 || entries > BATCH_LIMIT) {
            return 0;
        }
        for (int i = 0; i < entries; i++) {
            int target = disk.held(FIRST_ENTRY_BLOCK + 2 * i);
            if (isCell(target)) {
                writeBy(primary, target, disk.held(FIRST_ENTRY_BLOCK + 2 * i + 1));
            }
        }
        return entries;
    }

    private int chooseSource() {
        if (nodes[0].generation == nodes[1].generation) {
            return nodes[1].primary ? 1 : 0;
        }
        return nodes[0].generation > nodes[1].generation ? 0 : 1;
    }

    private int extentsThatMayDiffer() {
        Node from = nodes[source];
        Node to = nodes[1 - source];
        boolean marksTellAll = from.generation == to.generation
            || (from.alone && from.base == to.generation);
        return marksTellAll ? from.marks | to.marks : ALL_EXTENTS;
    }

    private void startSync(int differing) {
        Node target = nodes[1 - source];
        nodes[source].marks = differing;
        target.marks = 0;
        target.generation = 0;
        target.alone = false;
        syncing = true;
    }

    private void finishSync() {
        nodes[1 - source].generation = nodes[source].generation;
        for (int i = 0; i < NODES; i++) {
            nodes[i].disk.flush();
            nodes[i].alone = false;
            nodes[i].marks = 0;
        }
        syncing = false;
    }

    private void copyExtent(int extent) {
        Disk from = nodes[source].disk;
        Disk to = nodes[1 - source].disk;
        int first = extent * EXTENT_BLOCKS;
        for (int block = first; block < first + EXTENT_BLOCKS; block++) {
            to.put(block, from.held(block));
        }
    }

    private static final class Disk {
        final int[] stable = new int[BLOCKS];
        final int[] cached = new int[BLOCKS];
        /** Bit b tells whether block b has a cached value: a cached value may equal the stable one. */
        int cachedBits = 0;

        boolean isCached(int block) {
            return (cachedBits >>> block & 1) == 1;
        }

        int held(int block) {
            return isCached(block) ? cached[block] : stable[block];
        }

        void put(int block, int value) {
            cached[block] = value;
            cachedBits |= 1 << block;
        }

        void flush() {
            settle(-1);
        }

        /** Ends the cache: the blocks whose bits are in keep become stable, the others are lost. */
        void settle(int keep) {
            for (int block = 0; block < BLOCKS; block++) {
                if (isCached(block) && (keep >>> block & 1) == 1) {
                    stable[block] = cached[block];
                }
            }
            cachedBits = 0;
        }

        int countCached() {
            return Integer.bitCount(cachedBits);
        }

        int cachedExtents() {
            int extents = 0;
            for (int extent = 0; extent < EXTENTS; extent++) {
                if ((cachedBits >>> (extent * EXTENT_BLOCKS) & 15) != 0) {
                    extents |= 1 << extent;
                }
            }
            return extents;
        }

        void erase() {
            Arrays.fill(stable, 0);
            cachedBits = 0;
        }
    }

    private static final class Node {
        final Disk disk = new Disk();
        boolean up = true;
        boolean primary = false;
        int generation = 1;
        int base = 0;
        boolean alone = false;
        int marks = 0;
        boolean witnessLineUp = true;

        boolean mayAskForLease() {
            return up && !primary && witnessLineUp;
        }

        void renewDisk() {
            disk.erase();
            generation = 0;
            base = 0;
            alone = false;
            marks = 0;
        }
    }

    private static final class Witness {
        final int length;
        int generation = 1;
        int time = 0;
        int holder = NOBODY;
        int end = 0;

        Witness(int length) {
            this.length = length;
        }

        boolean isRunning() {
            return holder != NOBODY && end > time;
        }

        boolean isLentTo(int node) {
            return holder == node && isRunning();
        }

        void lendTo(int node) {
            holder = node;
            extendLease();
        }

        void extendLease() {
            end = time + length;
        }
    }

    private static final class Batch {
        final int[] cells = new int[BATCH_LIMIT];
        final int[] values = new int[BATCH_LIMIT];
        int size = 0;

        void append(int cell, int value) {
            if (size >= BATCH_LIMIT) {
                return;
            }
            cells[size] = cell;
            values[size] = value;
            size++;
        }
    }
}
