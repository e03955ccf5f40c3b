/** The numbers by which node(node, what) and mirror(what) are asked. */
interface Whats {
    int UP = 0;
    int PRIMARY = 1;
    int GENERATION = 2;
    int BASE = 3;
    int ALONE = 4;
    int MARKS = 5;
    int CACHED = 6;
    int WITNESS_LINE = 7;

    int CONNECTED = 0;
    int SOURCE = 1;
    int WITNESS_GENERATION = 2;
    int HOLDER = 3;
    int LEASE_END = 4;
    int BATCH = 5;
    int MIRROR_LINE = 6;
}
