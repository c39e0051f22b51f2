/**
 * Designs, lots that are shared, aims found anew and edges, each where it is at an end: a test for each
 * sentence of the document that names one and is not about a call that is refused.
 */
public final class DesignEdgesTest {
    public static void main(String[] args) {
        nothingIsBroughtToTheFirst();
        beyondTheRightIsLost();
        beyondTheLeftIsLost();
        beyondTheRightBelowIsLost();
        beyondTheLastRowIsLost();
        oneColumn();
        eachPartGoesToItsCell();
        partsAreAddedOneBehindTheOther();
        nearestAsFloatsAre();
        ofSeveralTheLowestNumber();
        ofSeveralTheLowestThatCanBe();
        nearestToTheAimNotToWhatIsWanted();
        lotsRunOutOnTheWay();
        openLacksNothing();
        oldLacksNothing();
        laidLacksByItsOwnLot();
        designTakesBackInItAlone();
        designOfAllLaid();
        aimsAreZeroAheadOfAnyDesign();
        aimsAreKeptUntilTheNextDesign();
        aimsBelowZeroHaveTheirSign();
        shareOfOddCellsAlone();
        shareOneBehindTheOtherUntilOut();
        shareWithALateLot();
        shareWithALotThatIsOut();
        shareOfALotThatNoCellHas();
        shareLeavesLaidAndOtherPictures();
        shareGoesAcrossMaterials();
        aimAnewOfTheFirst();
        aimAnewBehindFourCells();
        aimAnewIsTheAimBehindADesign();
        aimAnewByLotsOfNow();
        aimAnewBehindWhatLacksNothing();
        aimAnewInTheLastOfTheGreatest();
        edgeWithoutAnyTwo();
        edgeBesideOpenOnes();
        edgeOfOldOnes();
        edgeOfLaidOnes();
        edgeWithoutSign();
        edgeOfAnyTwo();
        edgeAsFloatsAre();
        Check.end("edges of designs");
    }

    private static float parts(float... brought) {
        float sum = 0f;
        for (float part : brought) {
            sum = sum + part;
        }
        return sum;
    }

    /** The aims of a picture row by row. */
    private static void aims(String of, TesseraeRow row, int picture, float... due) {
        StringBuilder got = new StringBuilder();
        StringBuilder want = new StringBuilder();
        for (String bits : Check.cells(row, picture, 3).replace("/ ", "").split(" ")) {
            got.append(Float.intBitsToFloat(Integer.parseInt(bits))).append(' ');
        }
        for (float aim : due) {
            want.append(aim).append(' ');
        }
        Check.same("aims " + of, got.toString(), want.toString());
    }

    /** A picture in which all cells ahead of one are OLD, and one stone that lacks 10 there. */
    private static TesseraeRow lackingAt(int place, int width, int height) {
        TesseraeRow row = new TesseraeRow();
        row.lot(9000, 1, 0, true);
        row.picture(width, height, 100);
        for (int i = 0; i < place; i++) {
            row.old(0, i % width, i / width, 100);
        }
        row.design(0);
        return row;
    }

    // ---- what is brought

    private static void nothingIsBroughtToTheFirst() {
        TesseraeRow row = lackingAt(0, 1, 1);
        aims("of one cell", row, 0, 100f);
        row.design(0);
        aims("of one cell again, nothing being left of the design ahead", row, 0, 100f);
    }

    private static void beyondTheRightIsLost() {
        aims("behind a row's last cell", lackingAt(2, 3, 2), 0, 100f, 100f, 100f, 100f, 101.875f, 103.125f);
    }

    private static void beyondTheLeftIsLost() {
        aims("behind a row's first cell", lackingAt(0, 3, 2), 0, 100f, 104.375f, 100f, 103.125f, 100.625f, 100f);
    }

    private static void beyondTheRightBelowIsLost() {
        aims("two rows behind a row's last cell", lackingAt(1, 2, 3), 0, 100f, 100f, 101.875f, 103.125f, 100f, 100f);
    }

    private static void beyondTheLastRowIsLost() {
        aims("in the last row", lackingAt(3, 3, 2), 0, 100f, 100f, 100f, 100f, 104.375f, 100f);
        aims("in the last cell", lackingAt(5, 3, 2), 0, 100f, 100f, 100f, 100f, 100f, 100f);
    }

    private static void oneColumn() {
        aims("in one column", lackingAt(0, 1, 3), 0, 100f, 103.125f, 100f);
    }

    private static void eachPartGoesToItsCell() {
        aims("round the middle of the top", lackingAt(1, 3, 3), 0,
                100f, 100f, 104.375f, 101.875f, 103.125f, 100.625f, 100f, 100f, 100f);
    }

    /** With these tones another order, or more exact numbers, would end in other bits. */
    private static void partsAreAddedOneBehindTheOther() {
        int[][] lotsAndTones = {{3333, 79}, {3417, 79}, {3508, 196}, {3529, 53}};
        for (int[] pair : lotsAndTones) {
            TesseraeRow row = new TesseraeRow();
            row.lot(pair[0], 9, 0, true);
            row.picture(3, 2, pair[1]);
            row.design(0);
            float stone = (float) pair[0] / 100;
            float wanted = pair[1];
            float first = wanted - stone;
            float secondAim = wanted + parts(first * 0.4375f);
            float second = secondAim - stone;
            float thirdAim = wanted + parts(second * 0.4375f);
            float third = thirdAim - stone;
            float fourthAim = wanted + parts(first * 0.3125f, second * 0.1875f);
            float fourth = fourthAim - stone;
            float fifthAim = wanted + parts(first * 0.0625f, second * 0.3125f, third * 0.1875f, fourth * 0.4375f);
            float fifth = fifthAim - stone;
            float sixthAim = wanted + parts(second * 0.0625f, third * 0.3125f, fifth * 0.4375f);
            aims("of " + pair[0], row, 0, wanted, secondAim, thirdAim, fourthAim, fifthAim, sixthAim);
            Check.due("anew, of " + pair[0], row.aimAnew(0, 1, 1), Check.bits(fifthAim));
        }
    }

    // ---- which lot

    private static int lotOfOneCell(int wanted, int... hundredths) {
        TesseraeRow row = new TesseraeRow();
        for (int tone : hundredths) {
            row.lot(tone, 1, 0, true);
        }
        row.picture(1, 1, wanted);
        row.design(0);
        return row.ofCell(0, 0, 0, 1);
    }

    private static void nearestAsFloatsAre() {
        // 0.92 and 1.08 are 0.08 from 1 each, but as floats the first one is nearer; of 0.71 and 1.29 the second.
        Check.due("nearest of 1.08, 0.92", lotOfOneCell(1, 108, 92), 1);
        Check.due("nearest of 0.92, 1.08", lotOfOneCell(1, 92, 108), 0);
        Check.due("nearest of 0.71, 1.29", lotOfOneCell(1, 71, 129), 1);
        // Here more exact numbers would have 1.52 nearer, but the differences as floats are the same.
        Check.due("nearest of 0.48, 1.52", lotOfOneCell(1, 48, 152), 0);
        Check.due("nearest of 1.52, 0.48", lotOfOneCell(1, 152, 48), 0);
        Check.due("nearest by a hundredth", lotOfOneCell(100, 9000, 9001, 8999), 1);
        Check.due("nearest at the ends", lotOfOneCell(255, 0, 25500, 25499), 1);
        Check.due("nearest at the other end", lotOfOneCell(0, 25500, 1, 0), 2);
    }

    private static void ofSeveralTheLowestNumber() {
        Check.due("of the same tone", lotOfOneCell(100, 3000, 9000, 9000, 9000), 1);
        Check.due("of one above and one below", lotOfOneCell(100, 11000, 9000), 0);
        Check.due("of one below and one above", lotOfOneCell(100, 9000, 11000), 0);
        Check.due("of all twelve", lotOfOneCell(7, 700, 700, 700, 700, 700, 700, 700, 700, 700, 700, 700, 700), 0);
    }

    private static void ofSeveralTheLowestThatCanBe() {
        TesseraeRow row = new TesseraeRow();
        row.lot(9000, 5, 0, false);
        row.lot(9000, 1, 0, true);
        row.lot(11000, 1, 1, true);
        row.lot(9000, 1, 1, true);
        for (int i = 0; i < 4; i++) {
            row.picture(1, 1, 100);
            row.design(i);
        }
        for (int i = 0; i < 3; i++) {
            Check.due("the lowest that is there and is left", row.ofCell(i, 0, 0, 1), i + 1);
        }
        Check.due("none", row.ofCell(3, 0, 0, 1), -1);
    }

    private static void nearestToTheAimNotToWhatIsWanted() {
        TesseraeRow row = new TesseraeRow();
        row.lot(9000, 1, 0, true);
        row.lot(9900, 1, 0, true);
        row.lot(10500, 1, 0, true);
        row.picture(2, 1, 94);
        row.cell(0, 1, 0, 101);
        // The first one lacks 4, so that the second one's aim is 102.75.
        row.design(0);
        Check.same("lots", Check.cells(row, 0, 1), "0 2");
    }

    private static void lotsRunOutOnTheWay() {
        TesseraeRow row = new TesseraeRow();
        row.lot(10000, 3, 0, true);
        row.lot(0, 2, 0, true);
        row.picture(3, 2, 100);
        Check.due("design", row.design(0), 5);
        Check.same("the nearest, then the farther, then none", Check.cells(row, 0, 1), "0 0 0 / 1 1 -1");
        Check.due("left of the nearest", row.ofLot(0, 0), 0);
        Check.due("left of the farther", row.ofLot(1, 0), 0);
    }

    // ---- what lacks something

    private static void openLacksNothing() {
        TesseraeRow row = new TesseraeRow();
        row.picture(2, 2, 100);
        Check.due("design without lots", row.design(0), 0);
        aims("without lots", row, 0, 100f, 100f, 100f, 100f);
        row.lot(0, 500, 0, false);
        Check.due("design with a late lot", row.design(0), 0);
        aims("with a late lot", row, 0, 100f, 100f, 100f, 100f);
        row.lot(0, 1, 0, true);
        Check.due("design with one stone", row.design(0), 1);
        aims("with one stone", row, 0, 100f, 143.75f, 131.25f, 106.25f);
    }

    private static void oldLacksNothing() {
        TesseraeRow row = new TesseraeRow();
        row.lot(0, 9, 0, true);
        row.picture(3, 1, 100);
        row.old(0, 0, 0, 255);
        row.old(0, 2, 0, 0);
        Check.due("design", row.design(0), 1);
        aims("at OLD ones", row, 0, 255f, 100f, 43.75f);
    }

    private static void laidLacksByItsOwnLot() {
        TesseraeRow row = new TesseraeRow();
        row.lot(9000, 2, 0, true);
        row.picture(3, 1, 100);
        row.design(0);
        row.load(0, 0);
        row.send(0, 0);
        row.pass(2);
        row.lot(10000, 9, 0, true);
        Check.due("design behind what is LAID", row.design(0), 1);
        // The lot 1 would be nearer, but what is laid isn't taken up.
        Check.same("lots", Check.cells(row, 0, 1), "0 0 1");
        aims("behind what is LAID", row, 0, 100f, 104.375f, 106.2890625f);
        Check.due("laid", row.ofLot(0, 2), 2);
    }

    private static void designTakesBackInItAlone() {
        TesseraeRow row = new TesseraeRow();
        row.lot(5000, 3, 0, true);
        row.picture(2, 1, 50);
        row.picture(2, 1, 50);
        row.design(0);
        row.design(1);
        row.lot(20000, 9, 0, true);
        row.cell(0, 0, 0, 200);
        row.cell(0, 1, 0, 200);
        Check.due("design of another tone", row.design(0), 2);
        Check.same("taken back, and promised anew", Check.cells(row, 0, 1), "1 1");
        Check.same("kept in the other picture", Check.cells(row, 1, 1), "0 -1");
        Check.due("left", row.ofLot(0, 0), 2);
        Check.due("promised", row.ofLot(0, 1), 1);
    }

    private static void designOfAllLaid() {
        TesseraeRow row = new TesseraeRow();
        row.lot(5000, 9, 0, true);
        row.picture(2, 1, 50);
        row.design(0);
        row.load(0, 0);
        row.send(0, 0);
        row.pass(2);
        Check.due("design of nothing but LAID", row.design(0), 0);
        Check.same("still LAID", Check.cells(row, 0, 0), "2 2");
        Check.due("left", row.ofLot(0, 0), 7);
    }

    // ---- aims that are kept

    private static void aimsAreZeroAheadOfAnyDesign() {
        TesseraeRow row = new TesseraeRow();
        row.lot(5000, 9, 0, true);
        row.picture(2, 1, 255);
        row.picture(2, 1, 255);
        row.cell(0, 0, 0, 9);
        row.old(0, 1, 0, 8);
        row.fill(0);
        row.aimAnew(0, 1, 0);
        row.design(1);
        Check.same("aims ahead of any design of the picture", Check.cells(row, 0, 3), "0 0");
    }

    private static void aimsAreKeptUntilTheNextDesign() {
        TesseraeRow row = new TesseraeRow();
        row.lot(9000, 2, 0, true);
        row.lot(20000, 9, 1, true);
        row.lot(20100, 9, 1, false);
        row.picture(4, 1, 100);
        row.picture(1, 1, 33);
        row.old(0, 3, 0, 7);
        row.design(0);
        String kept = Check.cells(row, 0, 3);
        row.cell(0, 0, 0, 5);
        row.share(0, 0, 1);
        row.design(1);
        row.comes(2);
        row.load(0, 0);
        row.send(0, 0);
        row.pass(1);
        row.fill(0);
        row.aimAnew(0, 2, 0);
        Check.same("aims behind all else", Check.cells(row, 0, 3), kept);
        row.design(0);
        // 5 is LAID with a stone of 90, and filling brought the 5 and the 7 to the ones between. The other stone
        // of 90 is in the other picture, so that these are of 200.
        Check.same("wanted", Check.cells(row, 0, 2), "5 5 7 7");
        float second = 5f + -85f * 0.4375f;
        float third = 7f + (second - 200f) * 0.4375f;
        aims("behind the next design", row, 0, 5f, second, third, 7f + (third - 200f) * 0.4375f);
    }

    private static void aimsBelowZeroHaveTheirSign() {
        TesseraeRow row = new TesseraeRow();
        row.lot(25500, 9, 0, true);
        row.picture(2, 1, 0);
        row.design(0);
        Check.due("-111.5625", row.ofCell(0, 1, 0, 3), 0xC2DF2000);
        Check.due("-111.5625 anew", row.aimAnew(0, 1, 0), 0xC2DF2000);
        row.cell(0, 1, 0, 111);
        Check.due("-0.5625 anew", row.aimAnew(0, 1, 0), 0xBF100000);
    }

    // ---- lots that are shared

    /** A picture of lot 0 throughout, of the tone 100, and lot 1 of the tone 50. */
    private static TesseraeRow designed(int width, int height, int manyOfTheOther) {
        TesseraeRow row = new TesseraeRow();
        row.lot(10000, 100, TesseraeRow.GLASS, true);
        row.lot(5000, manyOfTheOther, TesseraeRow.MARBLE, true);
        row.picture(width, height, 100);
        row.design(0);
        return row;
    }

    private static void shareOfOddCellsAlone() {
        TesseraeRow row = designed(3, 3, 9);
        Check.due("share", row.share(0, 0, 1), 4);
        Check.same("the odd ones", Check.cells(row, 0, 1), "0 1 0 / 1 0 1 / 0 1 0");
        Check.due("share again", row.share(0, 0, 1), 0);
        Check.due("left of the one", row.ofLot(0, 0), 95);
        Check.due("promised of the other", row.ofLot(1, 1), 4);
        Check.due("still PROMISED", row.ofPicture(0, TesseraeRow.PROMISED), 9);
        Check.due("share in one cell, which is even", designed(1, 1, 9).share(0, 0, 1), 0);
    }

    private static void shareOneBehindTheOtherUntilOut() {
        TesseraeRow row = designed(3, 3, 3);
        Check.due("share", row.share(0, 0, 1), 3);
        Check.same("the first odd ones", Check.cells(row, 0, 1), "0 1 0 / 1 0 1 / 0 0 0");
        Check.due("left of the other", row.ofLot(1, 0), 0);
        Check.due("left of the one", row.ofLot(0, 0), 94);
        Check.due("share with exactly as many", designed(3, 3, 4).share(0, 0, 1), 4);
    }

    private static void shareWithALateLot() {
        TesseraeRow row = designed(2, 1, 9);
        row.lot(100, 9, 0, false);
        Check.due("share with a late lot", row.share(0, 0, 2), 0);
        Check.same("nothing is given", Check.cells(row, 0, 1), "0 0");
        row.comes(2);
        Check.due("share when it came", row.share(0, 0, 2), 1);
        Check.same("given then", Check.cells(row, 0, 1), "0 2");
    }

    private static void shareWithALotThatIsOut() {
        TesseraeRow row = designed(2, 1, 1);
        row.picture(1, 1, 50);
        row.design(1);
        Check.due("share with a lot that is out", row.share(0, 0, 1), 0);
        Check.due("left of the one", row.ofLot(0, 0), 98);
        Check.same("nothing is given", Check.cells(row, 0, 1), "0 0");
        row.cell(1, 0, 0, 100);
        row.design(1);
        Check.due("share when one is left again", row.share(0, 0, 1), 1);
    }

    private static void shareOfALotThatNoCellHas() {
        TesseraeRow row = designed(2, 2, 9);
        Check.due("share of what no cell has", row.share(0, 1, 0), 0);
        row.picture(2, 2, 100);
        Check.due("share where all are OPEN", row.share(1, 0, 1), 0);
        row.old(1, 1, 0, 3);
        Check.due("share where an odd one is OLD", row.share(1, 0, 1), 0);
        Check.same("the other picture", Check.cells(row, 0, 1), "0 0 / 0 0");
    }

    private static void shareLeavesLaidAndOtherPictures() {
        TesseraeRow row = designed(4, 1, 9);
        row.picture(4, 1, 100);
        row.design(1);
        row.load(0, 0);
        row.send(0, 0);
        row.pass(2);
        Check.due("share", row.share(0, 0, 1), 1);
        Check.same("what is LAID stays", Check.cells(row, 0, 1), "0 0 0 1");
        Check.same("the other picture stays", Check.cells(row, 1, 1), "0 0 0 0");
        Check.due("laid", row.ofLot(0, 2), 2);
    }

    private static void shareGoesAcrossMaterials() {
        TesseraeRow row = designed(2, 1, 9);
        row.share(0, 0, 1);
        row.load(0, 0);
        row.send(0, 0);
        Check.due("GLASS up to the MARBLE that was shared", row.pass(3), 1);
    }

    // ---- aims found anew

    private static void aimAnewOfTheFirst() {
        TesseraeRow row = designed(2, 2, 9);
        row.cell(0, 0, 0, 0);
        Check.due("nothing is ahead of the first", row.aimAnew(0, 0, 0), 0);
        row.cell(0, 0, 0, 255);
        Check.due("what is wanted now", row.aimAnew(0, 0, 0), Check.bits(255f));
    }

    private static void aimAnewBehindFourCells() {
        int[][] changed = {{0, 0}, {1, 0}, {2, 0}, {0, 1}};
        float[] weights = {0.0625f, 0.3125f, 0.1875f, 0.4375f};
        for (int i = 0; i < 4; i++) {
            TesseraeRow row = new TesseraeRow();
            row.lot(10000, 1, 0, true);
            row.picture(3, 3, 100);
            // The one stone goes to the cell that is to lack something: the ones ahead of it are OLD.
            for (int k = 0; k < i; k++) {
                row.old(0, changed[k][0], changed[k][1], 100);
            }
            row.design(0);
            row.cell(0, changed[i][0], changed[i][1], 116);
            Check.due("anew behind one of four, " + i, row.aimAnew(0, 1, 1), Check.bits(100f + 16f * weights[i]));
        }
    }

    private static void aimAnewIsTheAimBehindADesign() {
        TesseraeRow row = new TesseraeRow();
        row.lot(3333, 9, 0, true);
        row.lot(12345, 20, 1, true);
        row.lot(20001, 30, 1, true);
        row.picture(8, 8, 100);
        for (int place = 0; place < 64; place += 3) {
            row.cell(0, place % 8, place / 8, place * 4);
        }
        row.old(0, 3, 3, 250);
        row.design(0);
        for (int place = 63; place >= 0; place--) {
            int x = place % 8;
            int y = place / 8;
            Check.due("anew at " + x + ", " + y, row.aimAnew(0, x, y), row.ofCell(0, x, y, 3));
        }
    }

    private static void aimAnewByLotsOfNow() {
        TesseraeRow row = designed(3, 1, 9);
        row.share(0, 0, 1);
        Check.due("ahead of what was shared", row.aimAnew(0, 1, 0), Check.bits(100f));
        Check.due("behind what was shared", row.aimAnew(0, 2, 0), Check.bits(121.875f));
        Check.due("the kept aim", row.ofCell(0, 2, 0, 3), Check.bits(100f));
        row.load(0, 0);
        row.send(0, 0);
        row.cell(0, 0, 0, 132);
        row.pass(1);
        Check.due("behind what is LAID", row.aimAnew(0, 1, 0), Check.bits(114f));
        row.lot(100, 9, 0, true);
        Check.due("a lot that no cell has changes nothing", row.aimAnew(0, 1, 0), Check.bits(114f));
    }

    private static void aimAnewBehindWhatLacksNothing() {
        TesseraeRow row = new TesseraeRow();
        row.picture(3, 2, 100);
        row.old(0, 0, 0, 250);
        row.old(0, 2, 0, 0);
        Check.due("behind OLD and OPEN ones", row.aimAnew(0, 1, 1), Check.bits(100f));
        row.lot(0, 9, 0, true);
        Check.due("a lot ahead of a design brings nothing", row.aimAnew(0, 1, 1), Check.bits(100f));
        Check.due("and it changes nothing", row.ofCell(0, 1, 1, 3), 0);
    }

    private static void aimAnewInTheLastOfTheGreatest() {
        TesseraeRow row = designed(8, 8, 9);
        row.cell(0, 6, 6, 132);
        // 32 is lacking there: of it 14 aside, 6, 10 and 2 below, and of these again what goes on to the last.
        float last = 100f + parts(2f, 14f * 0.3125f, parts(10f, 14f * 0.1875f, 6f * 0.4375f) * 0.4375f);
        Check.due("in the last one", row.aimAnew(0, 7, 7), Check.bits(last));
        Check.due("which is", Check.bits(last), Check.bits(113.046875f));
    }

    // ---- edges

    private static void edgeWithoutAnyTwo() {
        TesseraeRow row = new TesseraeRow();
        row.lot(0, 1, 0, true);
        row.picture(1, 1, 255);
        Check.due("edge of one OPEN cell", row.edge(0), 0);
        row.design(0);
        Check.due("edge of one cell that isn't OPEN", row.edge(0), 0);
        row.picture(8, 8, 255);
        Check.due("edge of OPEN ones", row.edge(1), 0);
    }

    private static void edgeBesideOpenOnes() {
        TesseraeRow row = new TesseraeRow();
        row.lot(0, 1, 0, true);
        row.picture(2, 2, 100);
        row.design(0);
        Check.due("edge of one that is PROMISED and OPEN ones", row.edge(0), 0);
        row.old(0, 1, 1, 7);
        Check.due("edge of one aslant of it", row.edge(0), 0);
        row.old(0, 0, 1, 100);
        Check.due("edge of one below", row.edge(0), Check.bits(100f));
    }

    private static void edgeOfOldOnes() {
        TesseraeRow row = new TesseraeRow();
        row.picture(2, 2, 100);
        row.old(0, 0, 0, 0);
        row.old(0, 1, 0, 255);
        row.old(0, 0, 1, 255);
        Check.due("OLD ones are of the tone that is wanted", row.edge(0), 0);
    }

    private static void edgeOfLaidOnes() {
        TesseraeRow row = designed(2, 1, 9);
        row.cell(0, 0, 0, 130);
        row.load(0, 0);
        row.send(0, 0);
        row.pass(1);
        Check.due("LAID and PROMISED", row.edge(0), Check.bits(30f));
        row.pass(1);
        Check.due("LAID and LAID", row.edge(0), Check.bits(30f));
    }

    private static void edgeWithoutSign() {
        for (int tone : new int[] {0, 200}) {
            TesseraeRow row = new TesseraeRow();
            row.lot(100 * tone, 2, 0, true);
            row.picture(2, 1, 100);
            row.picture(1, 2, 100);
            row.old(0, 0, 0, 100);
            row.old(1, 0, 0, 100);
            row.design(0);
            row.design(1);
            Check.due("edge to the right, of " + tone, row.edge(0), Check.bits(100f));
            Check.due("edge below, of " + tone, row.edge(1), Check.bits(100f));
            row.cell(0, 1, 0, tone);
            Check.due("edge where the stone is as is wanted", row.edge(0), 0);
        }
    }

    /** One stone is 10 below what is wanted, another 15 above: 25 where they are beside one another, 15 elsewhere. */
    private static void edgeOfAnyTwo() {
        for (int i = 0; i < 9; i++) {
            for (int j = 0; j < 9; j++) {
                TesseraeRow row = designed(3, 3, 9);
                row.cell(0, i % 3, i / 3, 110);
                Check.due("edge round " + i, row.edge(0), Check.bits(10f));
                row.cell(0, j % 3, j / 3, 85);
                int apart = Math.abs(i % 3 - j % 3) + Math.abs(i / 3 - j / 3);
                Check.due("edge of " + i + " and " + j, row.edge(0), Check.bits(apart == 1 ? 25f : 15f));
            }
        }
    }

    private static void edgeAsFloatsAre() {
        TesseraeRow row = new TesseraeRow();
        row.lot(2510, 1, 0, true);
        row.lot(7098, 1, 0, true);
        row.picture(2, 1, 25);
        row.design(0);
        row.cell(0, 0, 0, 0);
        row.cell(0, 1, 0, 37);
        // Other orders of these operations, or more exact numbers, would end in 8.880003.
        Check.due("edge", row.edge(0), Check.bits(8.880005f));
    }
}
