public final class Promise04CellTest {
    private static final Due due = new Due("Promise04CellTest");
    private static final long NONE = -1000000000000L;

    public static void main(String[] args) {
        WitnessedMirror x = new WitnessedMirror(50);
        due.is("cell without a primary", NONE, x.cell(0));
        x.promote(0, false);
        due.is("cell(-1)", NONE, x.cell(-1));
        due.is("cell(24)", NONE, x.cell(24));
        due.is("cell(31)", NONE, x.cell(31));
        due.is("cell(MIN)", NONE, x.cell(Integer.MIN_VALUE));
        due.is("cell(0)", 0, x.cell(0));
        x.stage(0, 7);
        x.stage(23, -8);
        due.is("staged cell", 0, x.cell(0));
        x.commit(-1, 0);
        due.is("cached cell", 7, x.cell(0));
        due.is("cell 23", -8, x.cell(23));
        due.is("not yet stable", 0, x.block(0, 0, true));
        Mirrors.write(x, 1, 9);
        due.is("stable cell", 7, x.cell(0));
        x.line(false);
        Mirrors.write(x, 0, 10);
        due.is("cell of primary 0", 10, x.cell(0));
        x.demote(0);
        due.is("cell after demote", NONE, x.cell(0));
        x.promote(1, true);
        due.is("cell of primary 1", 7, x.cell(0));
        due.end();
    }
}
