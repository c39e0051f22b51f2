/** Promises 8, 9, 17 and 18: designs, lots that are shared, aims found anew, and edges. */
public final class DesignTest {
    public static void main(String[] args) {
        designByHand();
        designTakesBack();
        designWithoutLots();
        ofSeveralTheLowest();
        oldLacksNothing();
        laidLacksToo();
        aimsBelowZero();
        share();
        shareLeavesLaid();
        shareRunsOut();
        aimAnew();
        edge();
        edgeOfWhatIsNotOpen();
        Check.end("designs");
    }

    private static void designByHand() {
        TesseraeRow row = new TesseraeRow();
        row.lot(9000, 1, 0, true);
        row.lot(12000, 2, 0, true);
        row.picture(2, 2, 100);
        Check.noSuch(row, "design(1)", () -> row.design(1));
        Check.noSuch(row, "design(-1)", () -> row.design(-1));
        Check.due("design", row.design(0), 3);
        cellIs(row, 0, 0, 0, 100f);
        cellIs(row, 1, 0, 1, 104.375f);
        cellIs(row, 0, 1, 1, 100.1953125f);
        cellIs(row, 1, 1, -1, 87.07763671875f);
        Check.due("OPEN without a lot", row.ofCell(0, 1, 1, 0), TesseraeRow.OPEN);
        Check.due("left of 0", row.ofLot(0, 0), 0);
        Check.due("left of 1", row.ofLot(1, 0), 0);
        Check.due("promised of 1", row.ofLot(1, 1), 2);
    }

    private static void cellIs(TesseraeRow row, int x, int y, int lot, float aim) {
        Check.due("lot at " + x + ", " + y, row.ofCell(0, x, y, 1), lot);
        Check.due("aim at " + x + ", " + y, row.ofCell(0, x, y, 3), Check.bits(aim));
        Check.due("aim anew at " + x + ", " + y, row.aimAnew(0, x, y), Check.bits(aim));
    }

    private static void designTakesBack() {
        TesseraeRow row = new TesseraeRow();
        row.lot(1000, 3, 0, true);
        row.picture(2, 1, 10);
        row.picture(3, 1, 10);
        Check.due("design(0)", row.design(0), 2);
        Check.due("design(1)", row.design(1), 1);
        Check.due("design(0) again", row.design(0), 2);
        Check.due("promised in both", row.ofLot(0, 1), 3);
        row.lot(9000, 9, 0, true);
        row.cell(0, 0, 0, 90);
        row.cell(0, 1, 0, 90);
        Check.due("design(0) of another tone", row.design(0), 2);
        Check.due("left of 0", row.ofLot(0, 0), 2);
        Check.due("design(1) takes what is free", row.design(1), 3);
        Check.due("promised of 0", row.ofLot(0, 1), 3);
        Check.due("promised of 1", row.ofLot(1, 1), 2);
    }

    private static void designWithoutLots() {
        TesseraeRow row = new TesseraeRow();
        row.lot(1000, 3, 0, false);
        row.picture(2, 1, 10);
        Check.due("design", row.design(0), 0);
        Check.due("aim", row.ofCell(0, 1, 0, 3), Check.bits(10f));
        Check.due("left", row.ofLot(0, 0), 3);
    }

    private static void ofSeveralTheLowest() {
        TesseraeRow row = new TesseraeRow();
        row.lot(11000, 1, 0, true);
        row.lot(9000, 1, 1, true);
        row.lot(11000, 1, 0, true);
        row.picture(1, 1, 100);
        row.design(0);
        Check.due("of several the lowest", row.ofCell(0, 0, 0, 1), 0);
    }

    private static void oldLacksNothing() {
        TesseraeRow row = new TesseraeRow();
        row.lot(9900, 9, 0, true);
        row.picture(3, 1, 100);
        row.old(0, 1, 0, 50);
        Check.due("design", row.design(0), 2);
        Check.due("aim of OLD", row.ofCell(0, 1, 0, 3), Check.bits(50.4375f));
        Check.due("aim behind OLD", row.ofCell(0, 2, 0, 3), Check.bits(100f));
    }

    private static void laidLacksToo() {
        TesseraeRow row = new TesseraeRow();
        row.lot(9600, 1, 0, true);
        row.lot(2000, 9, 1, true);
        row.picture(2, 1, 100);
        row.design(0);
        row.load(0, 0);
        row.send(0, 0);
        row.pass(1);
        Check.due("design", row.design(0), 1);
        cellIs(row, 0, 0, 0, 100f);
        cellIs(row, 1, 0, 1, 101.75f);
        Check.due("still LAID", row.ofCell(0, 0, 0, 0), TesseraeRow.LAID);
    }

    private static void aimsBelowZero() {
        TesseraeRow row = new TesseraeRow();
        row.lot(25500, 9, 0, true);
        row.picture(2, 1, 0);
        row.design(0);
        cellIs(row, 1, 0, 0, -111.5625f);
    }

    private static void shareLeavesLaid() {
        TesseraeRow row = new TesseraeRow();
        row.lot(10000, 9, 0, true);
        row.lot(5000, 9, 1, true);
        row.picture(4, 1, 100);
        row.design(0);
        row.load(0, 0);
        row.send(0, 0);
        row.pass(2);
        Check.due("share behind what is LAID", row.share(0, 0, 1), 1);
        Check.same("lots behind it", Check.cells(row, 0, 1), "0 0 0 1");
        Check.due("laid of 0", row.ofLot(0, 2), 2);
    }

    private static void share() {
        TesseraeRow row = new TesseraeRow();
        row.lot(10000, 9, 0, true);
        row.lot(5000, 9, 1, true);
        row.lot(100, 9, 1, false);
        row.picture(3, 3, 100);
        row.picture(2, 1, 100);
        row.cell(0, 0, 0, 50);
        row.cell(0, 1, 0, 50);
        row.old(0, 2, 2, 3);
        row.design(0);
        Check.noSuch(row, "share(2, ..)", () -> row.share(2, 0, 1));
        Check.noSuch(row, "share(-1, ..)", () -> row.share(-1, 0, 0));
        Check.noSuch(row, "share(0, 3, ..)", () -> row.share(0, 3, 3));
        Check.noSuch(row, "share(0, 0, 3)", () -> row.share(0, 0, 3));
        Check.noSuch(row, "share(0, -1, 1)", () -> row.share(0, -1, 1));
        Check.outOfRange(row, "share(0, 1, 1)", () -> row.share(0, 1, 1));
        Check.due("share with one that isn't there", row.share(0, 0, 2), 0);
        Check.due("share in a picture without promises", row.share(1, 0, 1), 0);
        int before = row.ofCell(0, 1, 2, 3);
        Check.due("share", row.share(0, 0, 1), 3);
        // (1, 0) was of lot 1 already; (0, 1), (2, 1) and (1, 2) change.
        Check.same("lots behind it", Check.cells(row, 0, 1), "1 1 0 / 1 0 1 / 0 1 -1");
        Check.due("aims are kept", row.ofCell(0, 1, 2, 3), before);
        Check.due("left of 0", row.ofLot(0, 0), 9 - 3);
        Check.due("promised of 1", row.ofLot(1, 1), 5);
        Check.due("share back", row.share(0, 1, 0), 4);
        Check.same("lots behind that", Check.cells(row, 0, 1), "1 0 0 / 0 0 0 / 0 0 -1");
    }

    private static void shareRunsOut() {
        TesseraeRow row = new TesseraeRow();
        row.lot(10000, 9, 0, true);
        row.lot(100, 2, 1, true);
        row.picture(3, 3, 100);
        row.design(0);
        Check.due("share runs out", row.share(0, 0, 1), 2);
        Check.same("lots behind it", Check.cells(row, 0, 1), "0 1 0 / 1 0 0 / 0 0 0");
        Check.due("share of what is out", row.share(0, 0, 1), 0);
        Check.due("left of 1", row.ofLot(1, 0), 0);
        Check.due("left of 0", row.ofLot(0, 0), 2);
    }

    private static void aimAnew() {
        TesseraeRow row = new TesseraeRow();
        row.lot(9000, 9, 0, true);
        row.lot(7400, 9, 0, true);
        row.picture(2, 2, 90);
        Check.due("aim anew ahead of a design", row.aimAnew(0, 1, 1), Check.bits(90f));
        row.design(0);
        row.cell(0, 0, 0, 106);
        // (0, 0) lacks 16 now, (1, 0) what is brought of it, 7, and (0, 1) its 5 and a part of that 7.
        Check.due("aim anew at 0, 0", row.aimAnew(0, 0, 0), Check.bits(106f));
        Check.due("aim anew at 1, 0", row.aimAnew(0, 1, 0), Check.bits(97f));
        Check.due("aim anew at 0, 1", row.aimAnew(0, 0, 1), Check.bits(96.3125f));
        Check.due("aim anew at 1, 1", row.aimAnew(0, 1, 1), Check.bits(90f + 1f + 2.1875f + 2.76171875f));
        Check.due("the kept aim", row.ofCell(0, 1, 1, 3), Check.bits(90f));
        row.share(0, 0, 1);
        // (1, 0) lacks 97 - 74 = 23 then, and (0, 1) is 74 too: it lacks 90 + 5 + 4.3125 - 74.
        Check.due("aim anew behind a share", row.aimAnew(0, 0, 1), Check.bits(99.3125f));
        Check.due("aim anew behind both", row.aimAnew(0, 1, 1), Check.bits(90f + 1f + 7.1875f + 25.3125f * 0.4375f));
        Check.noSuch(row, "aimAnew(1, ..)", () -> row.aimAnew(1, 0, 0));
        Check.noSuch(row, "aimAnew(0, 2, 0)", () -> row.aimAnew(0, 2, 0));
        Check.noSuch(row, "aimAnew(0, 0, 2)", () -> row.aimAnew(0, 0, 2));
        Check.noSuch(row, "aimAnew(0, -1, 1)", () -> row.aimAnew(0, -1, 1));
    }

    private static void edge() {
        TesseraeRow row = new TesseraeRow();
        row.lot(9000, 1, 0, true);
        row.lot(12025, 9, 0, true);
        row.picture(2, 2, 100);
        Check.due("edge of OPEN ones", row.edge(0), 0);
        row.cell(0, 1, 0, 110);
        row.design(0);
        // To the right 90 - 120.25 for 100 - 110, below 90 - 120.25 for 0, and on the right 0 for 10.
        Check.due("lots", row.ofLot(1, 1), 3);
        Check.due("edge", row.edge(0), Check.bits(30.25f));
        Check.noSuch(row, "edge(1)", () -> row.edge(1));
        Check.noSuch(row, "edge(-1)", () -> row.edge(-1));
    }

    private static void edgeOfWhatIsNotOpen() {
        TesseraeRow row = new TesseraeRow();
        row.picture(3, 1, 100);
        row.old(0, 0, 0, 10);
        row.old(0, 2, 0, 200);
        Check.due("edge with OPEN between", row.edge(0), 0);
        row.lot(15000, 1, 0, true);
        row.design(0);
        // 10 - 150 for 10 - 100, and 150 - 200 for 100 - 200.
        Check.due("edge of PROMISED and OLD", row.edge(0), Check.bits(50f));
        row.picture(2, 1, 100);
        row.lot(18000, 1, 0, true);
        row.design(1);
        Check.due("edge of PROMISED and OPEN", row.edge(1), 0);
        row.cell(0, 1, 0, 70);
        Check.due("edge by what is wanted now", row.edge(0), Check.bits(80f));
    }
}
