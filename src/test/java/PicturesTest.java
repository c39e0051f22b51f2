/** Promises 4, 5, 6, 7, 16 and 20: pictures, their cells, and old pavements. */
public final class PicturesTest {
    public static void main(String[] args) {
        pictureEdges();
        atMostFive();
        cell();
        old();
        ofCell();
        ofPicture();
        fillEdges();
        fillInRounds();
        fillCutsTheMiddle();
        fillFromLaidNotFromPromised();
        Check.end("pictures");
    }

    private static void pictureEdges() {
        TesseraeRow row = new TesseraeRow();
        Check.outOfRange(row, "picture(0, 1, 0)", () -> row.picture(0, 1, 0));
        Check.outOfRange(row, "picture(9, 1, 0)", () -> row.picture(9, 1, 0));
        Check.outOfRange(row, "picture(1, 0, 0)", () -> row.picture(1, 0, 0));
        Check.outOfRange(row, "picture(1, 9, 0)", () -> row.picture(1, 9, 0));
        Check.outOfRange(row, "picture(-1, -1, 0)", () -> row.picture(-1, -1, 0));
        Check.outOfRange(row, "picture(1, 1, -1)", () -> row.picture(1, 1, -1));
        Check.outOfRange(row, "picture(1, 1, 256)", () -> row.picture(1, 1, 256));
        Check.due("picture(1, 1, 0)", row.picture(1, 1, 0), 0);
        Check.due("picture(8, 8, 255)", row.picture(8, 8, 255), 1);
        Check.due("OPEN of 1", row.ofPicture(0, 0), 1);
        Check.due("OPEN of 64", row.ofPicture(1, 0), 64);
        Check.due("wanted in the last cell", row.ofCell(1, 7, 7, 2), 255);
    }

    private static void atMostFive() {
        TesseraeRow row = new TesseraeRow();
        for (int i = 0; i < 5; i++) {
            Check.due("picture " + i, row.picture(i + 1, 2, i), i);
        }
        Check.notNow(row, "a sixth picture", () -> row.picture(1, 1, 1));
        Check.outOfRange(row, "a sixth picture, out of range", () -> row.picture(1, 1, 256));
        Check.noSuch(row, "ofPicture(5, 0)", () -> row.ofPicture(5, 0));
    }

    /** A picture of a column more than rows, with a cell of each kind in its first row. */
    private static TesseraeRow allKinds() {
        TesseraeRow row = new TesseraeRow();
        row.lot(4050, 2, 0, true);
        row.picture(4, 3, 40);
        row.old(0, 2, 0, 9);
        row.design(0);
        row.load(0, 0);
        row.send(0, 0);
        row.pass(1);
        return row;
    }

    private static void cell() {
        TesseraeRow row = allKinds();
        Check.noSuch(row, "cell(1, ..)", () -> row.cell(1, 0, 0, 0));
        Check.noSuch(row, "cell(-1, ..)", () -> row.cell(-1, 0, 0, 0));
        Check.noSuch(row, "cell at (4, 0)", () -> row.cell(0, 4, 0, 0));
        Check.noSuch(row, "cell at (0, 3)", () -> row.cell(0, 0, 3, 0));
        Check.noSuch(row, "cell at (-1, 1)", () -> row.cell(0, -1, 1, 0));
        Check.noSuch(row, "cell at (1, -1)", () -> row.cell(0, 1, -1, 256));
        Check.outOfRange(row, "cell of tone -1", () -> row.cell(0, 3, 0, -1));
        Check.outOfRange(row, "cell of tone 256, LAID", () -> row.cell(0, 0, 0, 256));
        Check.notNow(row, "cell that is LAID", () -> row.cell(0, 0, 0, 5));
        Check.notNow(row, "cell that is OLD", () -> row.cell(0, 2, 0, 5));
        Check.due("cell that is PROMISED", row.cell(0, 1, 0, 0), 40);
        Check.due("cell that is OPEN", row.cell(0, 3, 2, 255), 40);
        Check.due("cell again", row.cell(0, 3, 2, 7), 255);
        Check.due("wanted then", row.ofCell(0, 3, 2, 2), 7);
        Check.due("still PROMISED", row.ofCell(0, 1, 0, 0), TesseraeRow.PROMISED);
        Check.due("wanted beside it", row.ofCell(0, 2, 2, 2), 40);
    }

    private static void old() {
        TesseraeRow row = allKinds();
        Check.noSuch(row, "old(1, ..)", () -> row.old(1, 0, 0, 0));
        Check.noSuch(row, "old at (4, 2)", () -> row.old(0, 4, 2, 256));
        Check.noSuch(row, "old at (3, 3)", () -> row.old(0, 3, 3, 0));
        Check.outOfRange(row, "old of tone -1", () -> row.old(0, 3, 0, -1));
        Check.outOfRange(row, "old of tone 256, OLD", () -> row.old(0, 2, 0, 256));
        Check.notNow(row, "old of LAID", () -> row.old(0, 0, 0, 1));
        Check.notNow(row, "old of PROMISED", () -> row.old(0, 1, 0, 1));
        Check.notNow(row, "old of OLD", () -> row.old(0, 2, 0, 1));
        Check.due("old", row.old(0, 3, 0, 255), 2);
        Check.due("old", row.old(0, 0, 1, 0), 3);
        Check.due("is OLD", row.ofCell(0, 3, 0, 0), TesseraeRow.OLD);
        Check.due("of no lot", row.ofCell(0, 3, 0, 1), -1);
        Check.due("wanted", row.ofCell(0, 3, 0, 2), 255);
        Check.due("never laid", row.ofCell(0, 3, 0, 4), -1);
    }

    private static void ofCell() {
        TesseraeRow row = new TesseraeRow();
        row.lot(9900, 9, 0, false);
        row.lot(4050, 2, 0, true);
        row.picture(4, 1, 40);
        row.old(0, 2, 0, 9);
        Check.due("aim ahead of a design", row.ofCell(0, 0, 0, 3), 0);
        row.pass(4);
        row.design(0);
        row.load(0, 1);
        row.send(0, 0);
        row.pass(1);
        int[][] due = {
            {TesseraeRow.LAID, 1, 40, Check.bits(40f), 5},
            {TesseraeRow.PROMISED, 1, 40, Check.bits(39.78125f), -1},
            {TesseraeRow.OLD, -1, 9, Check.bits(8.685546875f), -1},
            {TesseraeRow.OPEN, -1, 40, Check.bits(40f), -1},
        };
        for (int x = 0; x < due.length; x++) {
            for (int what = 0; what <= 4; what++) {
                Check.due("ofCell(0, " + x + ", 0, " + what + ")", row.ofCell(0, x, 0, what), due[x][what]);
            }
        }
        row.cell(0, 1, 0, 200);
        Check.due("an aim is kept", row.ofCell(0, 1, 0, 3), Check.bits(39.78125f));
        Check.outOfRange(row, "ofCell what -1", () -> row.ofCell(0, 0, 0, -1));
        Check.outOfRange(row, "ofCell what 5", () -> row.ofCell(0, 0, 0, 5));
        Check.noSuch(row, "ofCell at (4, 0)", () -> row.ofCell(0, 4, 0, 5));
        Check.noSuch(row, "ofCell at (0, 1)", () -> row.ofCell(0, 0, 1, 0));
        Check.noSuch(row, "ofCell at (0, most)", () -> row.ofCell(0, 0, Integer.MAX_VALUE, 0));
        Check.noSuch(row, "ofCell(1, ..)", () -> row.ofCell(1, 0, 0, 0));
    }

    private static void ofPicture() {
        TesseraeRow row = allKinds();
        int[] due = {9, 1, 1, 1};
        for (int what = 0; what <= 3; what++) {
            Check.due("ofPicture(0, " + what + ")", row.ofPicture(0, what), due[what]);
        }
        Check.outOfRange(row, "ofPicture(0, -1)", () -> row.ofPicture(0, -1));
        Check.outOfRange(row, "ofPicture(0, 4)", () -> row.ofPicture(0, 4));
        Check.noSuch(row, "ofPicture(1, 4)", () -> row.ofPicture(1, 4));
        Check.noSuch(row, "ofPicture(-1, 0)", () -> row.ofPicture(-1, 0));
    }

    private static void fillEdges() {
        TesseraeRow row = new TesseraeRow();
        row.picture(2, 2, 77);
        Check.noSuch(row, "fill(1)", () -> row.fill(1));
        Check.noSuch(row, "fill(-1)", () -> row.fill(-1));
        Check.due("fill without any tone", row.fill(0), 0);
        wanted(row, "77 77 / 77 77");
        for (int place = 0; place < 4; place++) {
            row.old(0, place % 2, place / 2, place);
        }
        Check.due("fill of nothing but OLD", row.fill(0), 0);
        wanted(row, "0 1 / 2 3");
    }

    private static void fillInRounds() {
        TesseraeRow row = new TesseraeRow();
        row.picture(5, 2, 200);
        row.old(0, 0, 0, 10);
        row.old(0, 4, 1, 31);
        Check.due("fill", row.fill(0), 8);
        // The middle column is reached in the second round, from both sides.
        wanted(row, "10 10 20 31 31 / 10 10 20 31 31");
        Check.due("filled cells stay OPEN", row.ofPicture(0, TesseraeRow.OPEN), 8);
        row.cell(0, 2, 0, 99);
        Check.due("fill begins anew", row.fill(0), 8);
        wanted(row, "10 10 20 31 31 / 10 10 20 31 31");
    }

    private static void fillCutsTheMiddle() {
        TesseraeRow row = new TesseraeRow();
        row.picture(3, 3, 0);
        int[] around = {255, 254, 253, 1, 2, 3, 4, 7};
        for (int i = 0; i < 8; i++) {
            int place = i < 4 ? i : i + 1;
            row.old(0, place % 3, place / 3, around[i]);
        }
        Check.due("fill of one", row.fill(0), 1);
        // 779 / 8 = 97.375
        Check.due("the middle, cut", row.ofCell(0, 1, 1, 2), 97);
    }

    private static void fillFromLaidNotFromPromised() {
        TesseraeRow row = new TesseraeRow();
        row.lot(25500, 9, 0, true);
        row.picture(4, 1, 50);
        row.cell(0, 1, 0, 90);
        row.design(0);
        row.load(0, 0);
        row.send(0, 0);
        row.pass(1);
        Check.due("fill from one that is LAID", row.fill(0), 3);
        wanted(row, "50 50 50 50");
        Check.due("still PROMISED", row.ofPicture(0, TesseraeRow.PROMISED), 3);
    }

    private static void wanted(TesseraeRow row, String due) {
        Check.same("wanted", Check.cells(row, 0, 2), due);
    }
}
