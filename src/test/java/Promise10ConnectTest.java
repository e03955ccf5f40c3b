public final class Promise10ConnectTest {
    private static final Due due = new Due("Promise10ConnectTest");

    public static void main(String[] args) {
        refusals();
        unfit();
        equalGenerationsWithoutMarks();
        equalGenerationsWithMarks();
        equalGenerationsWithPrimary1();
        aloneOnItsBase();
        aloneOnAnotherBase();
        greaterButNotAlone();
        marksOfBothNodes();
        nothingWrittenAlone();
        node1IsTheGreater();
        due.end();
    }

    private static void refusals() {
        WitnessedMirror x = new WitnessedMirror(50);
        due.is("connect when connected", -1, x.connect());
        x.line(false);
        due.is("connect with the line cut", -1, x.connect());
        x.line(true);
        x.crash(0, 0);
        due.is("connect with 0 down", -1, x.connect());
        x.restart(0);
        x.crash(1, 0);
        due.is("connect with 1 down", -1, x.connect());
        x.restart(1);
        due.is("connect", 0, x.connect());
        due.is("connect again", -1, x.connect());
        WitnessedMirror y = Mirrors.syncingNewDisk();
        due.is("connect when syncing", -1, y.connect());
    }

    private static void unfit() {
        WitnessedMirror x = new WitnessedMirror(50);
        x.crash(0, 0);
        x.crash(1, 0);
        x.swap(0);
        x.swap(1);
        x.restart(0);
        due.is("REFUSED comes before UNFIT", -1, x.connect());
        x.restart(1);
        due.is("connect of two new disks", -6, x.connect());
        due.is("connected", 0, x.mirror(Mirrors.CONNECTED));
    }

    private static void equalGenerationsWithoutMarks() {
        WitnessedMirror x = Mirrors.withPrimary(0);
        Mirrors.write(x, 5, 50);
        x.line(false);
        x.line(true);
        due.is("cached before", 1, x.node(1, Mirrors.CACHED));
        due.is("connect", 0, x.connect());
        due.is("connected", 1, x.mirror(Mirrors.CONNECTED));
        due.is("no syncing", 2, x.mirror(Mirrors.SOURCE));
        for (int n = 0; n < 2; n++) {
            due.is("cached", 0, x.node(n, Mirrors.CACHED));
            due.is("stable", 50, x.block(n, 5, true));
            due.is("generation", 1, x.node(n, Mirrors.GENERATION));
        }
        due.is("primary stays", 1, x.node(0, Mirrors.PRIMARY));
    }

    private static void equalGenerationsWithMarks() {
        WitnessedMirror x = Mirrors.withPrimary(1);
        Mirrors.write(x, 5, 50);
        x.crash(1, 0);
        x.restart(1);
        due.is("connect", 1, x.connect());
        due.is("source is node 0 if none is PRIMARY", 0, x.mirror(Mirrors.SOURCE));
        due.is("marks of the source", 2, x.node(0, Mirrors.MARKS));
        due.is("marks of the target", 0, x.node(1, Mirrors.MARKS));
        due.is("generation of the source", 1, x.node(0, Mirrors.GENERATION));
        due.is("generation of the target", 0, x.node(1, Mirrors.GENERATION));
        due.is("cached of the source stay", 1, x.node(0, Mirrors.CACHED));
        due.is("connected", 1, x.mirror(Mirrors.CONNECTED));
    }

    private static void equalGenerationsWithPrimary1() {
        WitnessedMirror x = Mirrors.withPrimary(1);
        Mirrors.write(x, 5, 50);
        x.crash(0, 0);
        x.restart(0);
        due.is("connect", 1, x.connect());
        due.is("source is the PRIMARY", 1, x.mirror(Mirrors.SOURCE));
        due.is("marks of the source", 2, x.node(1, Mirrors.MARKS));
        due.is("marks of the target", 0, x.node(0, Mirrors.MARKS));
        due.is("generation of the target", 0, x.node(0, Mirrors.GENERATION));
        due.is("resync", 0, x.resync(1));
        due.is("copied", 50, x.block(0, 5, true));
    }

    private static void aloneOnItsBase() {
        WitnessedMirror x = Mirrors.withNode0Alone();
        x.line(true);
        due.is("connect", 2, x.connect());
        due.is("source", 0, x.mirror(Mirrors.SOURCE));
        due.is("marks of the source", 65, x.node(0, Mirrors.MARKS));
        due.is("source stays ALONE while syncing", 1, x.node(0, Mirrors.ALONE));
        due.is("generation of the source", 2, x.node(0, Mirrors.GENERATION));
        due.is("generation of the target", 0, x.node(1, Mirrors.GENERATION));
    }

    private static void aloneOnAnotherBase() {
        WitnessedMirror x = Mirrors.withNode0Alone();
        x.demote(0);
        x.promote(1, true);
        due.is("generation of 1", 3, x.node(1, Mirrors.GENERATION));
        due.is("base of 1", 1, x.node(1, Mirrors.BASE));
        x.line(true);
        due.is("connect", 8, x.connect());
        due.is("source", 1, x.mirror(Mirrors.SOURCE));
        due.is("marks of the source", 255, x.node(1, Mirrors.MARKS));
        due.is("marks of the target", 0, x.node(0, Mirrors.MARKS));
        due.is("target is not ALONE", 0, x.node(0, Mirrors.ALONE));
        due.is("base of the target stays", 1, x.node(0, Mirrors.BASE));
    }

    private static void greaterButNotAlone() {
        WitnessedMirror x = Mirrors.withPrimary(0);
        x.crash(1, 0);
        x.swap(1);
        x.restart(1);
        due.is("connect", 8, x.connect());
        due.is("source", 0, x.mirror(Mirrors.SOURCE));
    }

    private static void marksOfBothNodes() {
        WitnessedMirror x = Mirrors.withPrimary(0);
        Mirrors.write(x, 21, 50);
        x.line(false);
        x.crash(1, 0);
        x.restart(1);
        Mirrors.write(x, 2, 5);
        due.is("marks of 0", 65, x.node(0, Mirrors.MARKS));
        due.is("marks of 1", 32, x.node(1, Mirrors.MARKS));
        x.line(true);
        due.is("connect", 3, x.connect());
        due.is("marks of the source", 97, x.node(0, Mirrors.MARKS));
        due.is("marks of the target", 0, x.node(1, Mirrors.MARKS));
    }

    private static void nothingWrittenAlone() {
        WitnessedMirror x = new WitnessedMirror(50);
        x.line(false);
        x.promote(1, false);
        due.is("alone", 1, x.node(1, Mirrors.ALONE));
        x.line(true);
        due.is("connect", 0, x.connect());
        due.is("no syncing", 2, x.mirror(Mirrors.SOURCE));
        due.is("not ALONE", 0, x.node(1, Mirrors.ALONE));
        due.is("generation of 1", 2, x.node(1, Mirrors.GENERATION));
        due.is("generation of 0", 2, x.node(0, Mirrors.GENERATION));
        due.is("base of 1 stays", 1, x.node(1, Mirrors.BASE));
        due.is("base of 0 stays", 0, x.node(0, Mirrors.BASE));
    }

    private static void node1IsTheGreater() {
        WitnessedMirror x = Mirrors.withPrimary(1);
        x.crash(0, 0);
        Mirrors.write(x, 13, 1);
        x.demote(1);
        x.restart(0);
        due.is("connect", 2, x.connect());
        due.is("source", 1, x.mirror(Mirrors.SOURCE));
    }
}
