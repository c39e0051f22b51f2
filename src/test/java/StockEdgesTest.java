/**
 * Lots, pictures, cells and old pavements at their edges: a test for each sentence of the document that names
 * one and is not about a call that is refused (those are in RefusedTest).
 */
public final class StockEdgesTest {
    public static void main(String[] args) {
        lotsFromZeroToEleven();
        lotOfTheLeastAndOfTheMost();
        tonesOfLotsAreFloatsOfHundredths();
        lotThatComesLater();
        lateLotThatIsFull();
        noStoneIsPromisedTwice();
        oneStone();
        fiveHundredStones();
        picturesFromZeroToFour();
        sidesOfOneAndEight();
        columnsAreNotRows();
        allCellsAreOpenAtFirst();
        cellOfTheLeastAndGreatestTone();
        cellLeavesWhatItIs();
        oldOfTheLeastAndGreatestTone();
        oldToTheLastCell();
        oldIsOfNoLot();
        cellsThatAreNotLaidHaveNoHour();
        fillWithoutAnyTone();
        fillWhereAllHaveATone();
        fillOfOneCell();
        fillFromOneCornerToTheOther();
        fillAslantAlone();
        fillDoesNotGoRoundTheEnds();
        fillByTheRoundAheadAlone();
        fillCutsEachTone();
        fillCutsInEachRound();
        fillOfTheGreatestSum();
        fillFromLaid();
        fillNotFromPromised();
        fillBeginsAnew();
        fillChangesOnlyWhatIsWanted();
        fillOfOnePictureAlone();
        Check.end("edges of the stock");
    }

    // ---- lots

    private static void lotsFromZeroToEleven() {
        TesseraeRow row = new TesseraeRow();
        for (int i = 0; i < 12; i++) {
            Check.due("number of a lot", row.lot(1000 * i, 1, i / 6, true), i);
        }
        row.picture(1, 1, 255);
        Check.due("design from the twelfth lot", row.design(0), 1);
        Check.due("the twelfth lot", row.ofCell(0, 0, 0, 1), 11);
        row.cell(0, 0, 0, 0);
        row.design(0);
        Check.due("the first lot", row.ofCell(0, 0, 0, 1), 0);
    }

    private static void lotOfTheLeastAndOfTheMost() {
        TesseraeRow row = new TesseraeRow();
        Check.due("the least lot", row.lot(0, 1, TesseraeRow.GLASS, false), 0);
        Check.due("the greatest lot", row.lot(25500, 500, TesseraeRow.MARBLE, true), 1);
        int[] least = {1, 0, 0, 0, 0};
        int[] greatest = {500, 0, 0, 1, Check.bits(255f)};
        for (int what = 0; what <= 4; what++) {
            Check.due("of the least lot " + what, row.ofLot(0, what), least[what]);
            Check.due("of the greatest lot " + what, row.ofLot(1, what), greatest[what]);
        }
    }

    private static void tonesOfLotsAreFloatsOfHundredths() {
        TesseraeRow row = new TesseraeRow();
        row.lot(1, 1, 0, true);
        row.lot(25499, 1, 0, true);
        row.lot(10010, 1, 0, true);
        Check.due("bits of 0.01", row.ofLot(0, 4), 0x3C23D70A);
        Check.due("bits of 254.99", row.ofLot(1, 4), 0x437EFD71);
        Check.due("bits of 100.1", row.ofLot(2, 4), 0x42C83333);
    }

    private static void lotThatComesLater() {
        TesseraeRow row = new TesseraeRow();
        row.lot(5000, 2, 0, false);
        row.lot(9000, 1, 0, true);
        row.picture(3, 1, 50);
        Check.due("design without the late lot", row.design(0), 1);
        Check.same("lots", Check.cells(row, 0, 1), "1 -1 -1");
        Check.due("left of it", row.ofLot(0, 0), 2);
        Check.due("it isn't there", row.ofLot(0, 3), 0);
        Check.due("it comes", row.comes(0), 2);
        Check.due("it is there", row.ofLot(0, 3), 1);
        Check.same("by coming alone nothing is promised", Check.cells(row, 0, 1), "1 -1 -1");
        Check.due("design with it", row.design(0), 3);
        Check.same("lots then", Check.cells(row, 0, 1), "0 0 1");
    }

    private static void lateLotThatIsFull() {
        TesseraeRow row = new TesseraeRow();
        row.lot(5000, 500, 1, false);
        row.lot(5000, 1, 1, false);
        Check.due("comes of 1", row.comes(1), 1);
        Check.due("comes of 500", row.comes(0), 500);
    }

    private static void noStoneIsPromisedTwice() {
        TesseraeRow row = new TesseraeRow();
        row.lot(5000, 3, 0, true);
        row.picture(2, 1, 50);
        row.picture(2, 1, 50);
        row.picture(1, 1, 50);
        Check.due("the first takes two", row.design(0), 2);
        Check.due("the second takes what is left", row.design(1), 1);
        Check.due("the third takes none", row.design(2), 0);
        Check.due("none left", row.ofLot(0, 0), 0);
        Check.due("promised", row.ofLot(0, 1), 3);
    }

    private static void oneStone() {
        TesseraeRow row = new TesseraeRow();
        row.lot(5000, 1, 0, true);
        row.picture(1, 1, 50);
        for (int i = 0; i < 3; i++) {
            Check.due("the one stone is taken back and promised again", row.design(0), 1);
            Check.due("none is left", row.ofLot(0, 0), 0);
        }
    }

    private static void fiveHundredStones() {
        TesseraeRow row = new TesseraeRow();
        row.lot(5000, 500, 0, true);
        for (int i = 0; i < 5; i++) {
            row.picture(8, 8, 50);
            Check.due("all of a great picture", row.design(i), 64);
        }
        Check.due("left of 500", row.ofLot(0, 0), 180);
        Check.due("promised of 500", row.ofLot(0, 1), 320);
    }

    // ---- pictures

    private static void picturesFromZeroToFour() {
        TesseraeRow row = new TesseraeRow();
        for (int i = 0; i < 5; i++) {
            Check.due("number of a picture", row.picture(2, 1, 10 * i), i);
        }
        for (int i = 0; i < 5; i++) {
            Check.due("each has its own tone", row.cell(i, 1, 0, 100 + i), 10 * i);
        }
        for (int i = 0; i < 5; i++) {
            Check.same("each has its own cells", Check.cells(row, i, 2), 10 * i + " " + (100 + i));
        }
    }

    private static void sidesOfOneAndEight() {
        int[][] sides = {{1, 1}, {1, 8}, {8, 1}, {8, 8}};
        TesseraeRow row = new TesseraeRow();
        for (int i = 0; i < sides.length; i++) {
            int width = sides[i][0];
            int height = sides[i][1];
            Check.due("picture of " + width + ", " + height, row.picture(width, height, 9), i);
            Check.due("its cells", row.ofPicture(i, TesseraeRow.OPEN), width * height);
            Check.due("its last cell", row.cell(i, width - 1, height - 1, 7), 9);
            Check.due("old, its last cell", row.old(i, width - 1, height - 1, 7), 1);
            Check.due("aim of its last cell", row.aimAnew(i, width - 1, height - 1), Check.bits(7f));
        }
    }

    private static void columnsAreNotRows() {
        TesseraeRow row = new TesseraeRow();
        row.picture(8, 1, 1);
        row.picture(1, 8, 1);
        row.picture(3, 2, 1);
        Check.noSuch(row, "a column for a row", () -> row.ofCell(0, 0, 7, 0));
        Check.noSuch(row, "a row for a column", () -> row.ofCell(1, 7, 0, 0));
        row.cell(2, 2, 0, 5);
        row.cell(2, 0, 1, 6);
        Check.same("columns first, rows behind", Check.cells(row, 2, 2), "1 1 5 / 6 1 1");
    }

    private static void allCellsAreOpenAtFirst() {
        TesseraeRow row = new TesseraeRow();
        row.lot(100, 9, 0, true);
        row.picture(2, 2, 0);
        int[] due = {TesseraeRow.OPEN, -1, 0, 0, -1};
        for (int what = 0; what <= 4; what++) {
            String all = due[what] + " " + due[what] + " / " + due[what] + " " + due[what];
            Check.same("ofCell " + what + " at first", Check.cells(row, 0, what), all);
        }
        int[] kinds = {4, 0, 0, 0};
        for (int what = 0; what <= 3; what++) {
            Check.due("ofPicture " + what + " at first", row.ofPicture(0, what), kinds[what]);
        }
    }

    private static void cellOfTheLeastAndGreatestTone() {
        TesseraeRow row = new TesseraeRow();
        row.picture(1, 1, 255);
        Check.due("cell of 0", row.cell(0, 0, 0, 0), 255);
        Check.due("cell of 255", row.cell(0, 0, 0, 255), 0);
        Check.due("cell of the same", row.cell(0, 0, 0, 255), 255);
        Check.due("wanted", row.ofCell(0, 0, 0, 2), 255);
    }

    private static void cellLeavesWhatItIs() {
        TesseraeRow row = new TesseraeRow();
        row.lot(100, 1, 0, true);
        row.picture(2, 1, 40);
        row.design(0);
        String aims = Check.cells(row, 0, 3);
        row.cell(0, 0, 0, 9);
        row.cell(0, 1, 0, 8);
        Check.same("kinds", Check.cells(row, 0, 0), "1 0");
        Check.same("lots", Check.cells(row, 0, 1), "0 -1");
        Check.same("aims", Check.cells(row, 0, 3), aims);
        Check.due("promised", row.ofLot(0, 1), 1);
    }

    private static void oldOfTheLeastAndGreatestTone() {
        TesseraeRow row = new TesseraeRow();
        row.picture(2, 1, 40);
        Check.due("old of 0", row.old(0, 0, 0, 0), 1);
        Check.due("old of 255", row.old(0, 1, 0, 255), 2);
        Check.same("wanted from then on", Check.cells(row, 0, 2), "0 255");
    }

    private static void oldToTheLastCell() {
        TesseraeRow row = new TesseraeRow();
        row.lot(100, 9, 0, true);
        row.picture(2, 2, 40);
        for (int i = 0; i < 4; i++) {
            Check.due("old cells then", row.old(0, i % 2, i / 2, 50 + i), i + 1);
        }
        Check.due("OPEN", row.ofPicture(0, TesseraeRow.OPEN), 0);
        Check.due("design of nothing but OLD", row.design(0), 0);
        Check.due("left", row.ofLot(0, 0), 9);
        Check.due("OLD yet", row.ofPicture(0, TesseraeRow.OLD), 4);
    }

    private static void oldIsOfNoLot() {
        TesseraeRow row = new TesseraeRow();
        row.lot(4000, 9, 0, true);
        row.picture(2, 1, 40);
        row.old(0, 0, 0, 40);
        row.design(0);
        Check.same("lots", Check.cells(row, 0, 1), "-1 0");
        Check.due("promised", row.ofLot(0, 1), 1);
        Check.due("laid", row.ofLot(0, 2), 0);
    }

    private static void cellsThatAreNotLaidHaveNoHour() {
        TesseraeRow row = new TesseraeRow();
        row.lot(4000, 2, 0, true);
        row.picture(4, 1, 40);
        row.old(0, 0, 0, 40);
        row.design(0);
        row.load(0, 0);
        row.send(0, 0);
        row.pass(1);
        Check.same("kinds", Check.cells(row, 0, 0), "3 2 1 0");
        Check.same("hours", Check.cells(row, 0, 4), "-1 1 -1 -1");
    }

    // ---- old pavements

    private static void fillWithoutAnyTone() {
        TesseraeRow row = new TesseraeRow();
        row.picture(2, 2, 40);
        row.cell(0, 1, 1, 50);
        Check.due("fill without OLD and LAID", row.fill(0), 0);
        Check.same("what was wanted is kept", Check.cells(row, 0, 2), "40 40 / 40 50");
    }

    private static void fillWhereAllHaveATone() {
        TesseraeRow row = new TesseraeRow();
        row.picture(2, 1, 40);
        row.old(0, 0, 0, 10);
        row.old(0, 1, 0, 90);
        Check.due("fill without gaps", row.fill(0), 0);
        Check.same("OLD ones keep theirs", Check.cells(row, 0, 2), "10 90");
    }

    private static void fillOfOneCell() {
        TesseraeRow row = new TesseraeRow();
        row.picture(1, 1, 40);
        Check.due("fill of one that is OPEN", row.fill(0), 0);
        row.old(0, 0, 0, 7);
        Check.due("fill of one that is OLD", row.fill(0), 0);
        Check.due("its tone", row.ofCell(0, 0, 0, 2), 7);
    }

    /** Seven rounds, as far as they can go: the ones that go on as long as a cell gets a tone. */
    private static void fillFromOneCornerToTheOther() {
        int[][] corners = {{0, 0}, {7, 0}, {0, 7}, {7, 7}};
        TesseraeRow row = new TesseraeRow();
        for (int i = 0; i < corners.length; i++) {
            row.picture(8, 8, 40);
            row.old(i, corners[i][0], corners[i][1], 200 + i);
            Check.due("fill from a corner", row.fill(i), 63);
            for (int place = 0; place < 64; place++) {
                Check.due("its tone", row.ofCell(i, place % 8, place / 8, 2), 200 + i);
            }
        }
    }

    private static void fillAslantAlone() {
        int[][] corners = {{0, 0}, {2, 0}, {0, 2}, {2, 2}};
        for (int[] corner : corners) {
            TesseraeRow row = new TesseraeRow();
            row.picture(3, 3, 40);
            row.old(0, corner[0], corner[1], 60);
            row.old(0, 1, 1, 200);
            Check.due("fill round a middle", row.fill(0), 7);
            int across = row.ofCell(0, 2 - corner[0], 2 - corner[1], 2);
            Check.due("aslant of the middle alone", across, 200);
        }
    }

    private static void fillDoesNotGoRoundTheEnds() {
        TesseraeRow row = new TesseraeRow();
        row.picture(3, 3, 40);
        row.old(0, 2, 0, 10);
        row.old(0, 0, 2, 20);
        Check.due("fill", row.fill(0), 7);
        // A row's last cell is not beside the next one's first: of these only 10 or only 20 would be 15 else.
        Check.same("tones", Check.cells(row, 0, 2), "15 10 10 / 20 15 10 / 20 20 15");
    }

    private static void fillByTheRoundAheadAlone() {
        TesseraeRow row = new TesseraeRow();
        row.picture(5, 1, 40);
        row.old(0, 0, 0, 10);
        row.old(0, 4, 0, 90);
        Check.due("fill", row.fill(0), 3);
        // Were tones of the same round used, the third one would be 10 already, or the fourth one less than 90.
        Check.same("tones", Check.cells(row, 0, 2), "10 10 50 90 90");
    }

    private static void fillCutsEachTone() {
        int[][] pairs = {{0, 1, 0}, {1, 2, 1}, {254, 255, 254}, {255, 255, 255}, {0, 255, 127}};
        for (int[] pair : pairs) {
            TesseraeRow row = new TesseraeRow();
            row.picture(3, 1, 40);
            row.old(0, 0, 0, pair[0]);
            row.old(0, 2, 0, pair[1]);
            row.fill(0);
            Check.due("the middle of " + pair[0] + " and " + pair[1], row.ofCell(0, 1, 0, 2), pair[2]);
        }
        TesseraeRow row = new TesseraeRow();
        row.picture(3, 2, 40);
        row.old(0, 0, 0, 1);
        row.old(0, 1, 0, 2);
        row.old(0, 2, 0, 2);
        row.fill(0);
        Check.due("5 / 3, cut", row.ofCell(0, 1, 1, 2), 1);
    }

    private static void fillCutsInEachRound() {
        TesseraeRow row = new TesseraeRow();
        row.picture(5, 2, 40);
        row.old(0, 0, 0, 1);
        row.old(0, 0, 1, 2);
        row.old(0, 4, 0, 2);
        row.old(0, 4, 1, 3);
        row.fill(0);
        // The middle of 1.5 and 2.5 would be 2; that of 1 and 2 is 1.5, and 1 when cut.
        Check.same("tones", Check.cells(row, 0, 2), "1 1 1 2 2 / 2 1 1 2 3");
    }

    private static void fillOfTheGreatestSum() {
        TesseraeRow row = new TesseraeRow();
        row.picture(3, 3, 0);
        for (int place = 0; place < 9; place++) {
            if (place != 4) {
                row.old(0, place % 3, place / 3, 255);
            }
        }
        Check.due("fill of one among eight", row.fill(0), 1);
        Check.due("its tone", row.ofCell(0, 1, 1, 2), 255);
    }

    private static void fillFromLaid() {
        TesseraeRow row = new TesseraeRow();
        row.lot(25500, 1, 0, true);
        row.picture(3, 1, 40);
        row.cell(0, 0, 0, 80);
        row.design(0);
        row.load(0, 0);
        row.send(0, 0);
        row.pass(1);
        row.old(0, 2, 0, 20);
        Check.due("fill between LAID and OLD", row.fill(0), 1);
        Check.same("by what is wanted where it is LAID", Check.cells(row, 0, 2), "80 50 20");
    }

    private static void fillNotFromPromised() {
        TesseraeRow row = new TesseraeRow();
        row.lot(25500, 9, 0, true);
        row.picture(3, 1, 40);
        row.design(0);
        Check.due("fill of nothing but PROMISED", row.fill(0), 0);
        Check.same("what was wanted is kept", Check.cells(row, 0, 2), "40 40 40");
    }

    private static void fillBeginsAnew() {
        TesseraeRow row = new TesseraeRow();
        row.picture(3, 1, 40);
        row.old(0, 0, 0, 10);
        Check.due("fill", row.fill(0), 2);
        Check.due("the same again is filled too", row.fill(0), 2);
        row.old(0, 2, 0, 30);
        Check.due("fill behind another OLD one", row.fill(0), 1);
        Check.same("tones", Check.cells(row, 0, 2), "10 20 30");
    }

    private static void fillChangesOnlyWhatIsWanted() {
        TesseraeRow row = new TesseraeRow();
        row.lot(5000, 1, 0, true);
        row.picture(3, 1, 40);
        row.old(0, 0, 0, 10);
        row.design(0);
        String aims = Check.cells(row, 0, 3);
        Check.due("fill", row.fill(0), 2);
        Check.same("tones", Check.cells(row, 0, 2), "10 10 10");
        Check.same("kinds", Check.cells(row, 0, 0), "3 1 0");
        Check.same("lots", Check.cells(row, 0, 1), "-1 0 -1");
        Check.same("aims", Check.cells(row, 0, 3), aims);
        Check.due("promised", row.ofLot(0, 1), 1);
    }

    private static void fillOfOnePictureAlone() {
        TesseraeRow row = new TesseraeRow();
        row.picture(2, 1, 40);
        row.picture(2, 1, 40);
        row.old(0, 0, 0, 10);
        row.old(1, 0, 0, 20);
        row.fill(1);
        Check.same("the other one", Check.cells(row, 0, 2), "10 40");
        Check.same("this one", Check.cells(row, 1, 2), "20 20");
    }
}
