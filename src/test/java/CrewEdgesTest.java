/**
 * Crews, trays and hours at their edges: a test for each sentence of the document that names one and is not
 * about a call that is refused.
 */
public final class CrewEdgesTest {
    public static void main(String[] args) {
        crewsAsAtFirst();
        driesAnHourAtFirst();
        allThreeCrewsWork();
        rateOfOneAndNine();
        rateIsNotCarriedOver();
        rateFromNowOn();
        dryOfZeroAndNine();
        sendToNoneAndBack();
        sendWhereItIsAlready();
        newTrayIsEmpty();
        trayOfTheSameMaterialIsNewToo();
        trayForFourLots();
        loadAgainOnAFullTray();
        loadOfAnotherMaterialOnAFullTray();
        loadOfALateLot();
        trayThatIsTakenAwayOnTheWay();
        passOfOneAndAHundred();
        passOfManyCalls();
        passWithoutAnythingToLay();
        passWaitsAtOpen();
        passGoesBeyondOldAndLaid();
        passStopsInTheMiddleOfARow();
        passToThePicturesEnd();
        firstRowHasNoneAbove();
        rowAboveOfOldOnes();
        rowAboveDriesToTheVeryHour();
        rowAboveDriesFromItsLatestStone();
        rowAboveOfOneHourDriesFromTheRight();
        rowAboveDriesAsItsCrewDidThen();
        onlyTheRowAboveHasToBeDry();
        oneCrewBehindTheOtherInAnHour();
        laidIsNotTakenUp();
        stonesOfACrewAreCountedInAllPictures();
        Check.end("edges of crews");
    }

    /** Picture 0 of lot 0, GLASS, throughout; crew 0 is there with the lot on its tray. */
    private static TesseraeRow ready(int width, int height) {
        TesseraeRow row = new TesseraeRow();
        row.lot(10000, 500, TesseraeRow.GLASS, true);
        row.picture(width, height, 100);
        row.design(0);
        come(row, 0);
        return row;
    }

    private static void come(TesseraeRow row, int crew) {
        row.load(crew, 0);
        row.send(crew, 0);
    }

    // ---- crews

    private static void crewsAsAtFirst() {
        TesseraeRow row = new TesseraeRow();
        row.lot(0, 1, TesseraeRow.MARBLE, true);
        row.lot(0, 1, TesseraeRow.GLASS, true);
        for (int crew = 0; crew < 3; crew++) {
            int[] due = {-1, TesseraeRow.GLASS, 0, 0};
            for (int what = 0; what <= 3; what++) {
                Check.due("ofCrew at first", row.ofCrew(crew, what), due[what]);
            }
            Check.due("no MARBLE at first", row.load(crew, 0), false);
            Check.due("GLASS at first", row.load(crew, 1), true);
            Check.due("lots on the tray", row.tray(crew, 0), 1);
            Check.due("nowhere at first", row.send(crew, -1), -1);
            Check.due("rate at first", row.crew(crew, 2, 2), 1);
        }
    }

    private static void driesAnHourAtFirst() {
        for (int crew = 0; crew < 3; crew++) {
            TesseraeRow row = new TesseraeRow();
            row.lot(10000, 9, TesseraeRow.GLASS, true);
            row.picture(1, 3, 100);
            row.design(0);
            come(row, crew);
            Check.due("the first one", row.pass(1), 1);
            int next = (crew + 1) % 3;
            row.send(crew, -1);
            come(row, next);
            row.crew(next, 9, 0);
            Check.due("dry an hour later", row.pass(1), 2);
        }
        // All in one hour: what crew 0 laid in it isn't dry for crew 1.
        TesseraeRow row = ready(1, 3);
        come(row, 1);
        Check.due("not dry in the same hour", row.pass(1), 1);
        Check.due("nor in the next one the one behind it", row.pass(1), 1);
        TesseraeRow second = ready(1, 3);
        second.send(0, -1);
        come(second, 1);
        come(second, 2);
        Check.due("neither of crew 1", second.pass(1), 1);
    }

    private static void allThreeCrewsWork() {
        TesseraeRow row = ready(3, 1);
        come(row, 1);
        come(row, 2);
        Check.due("a stone of each", row.pass(1), 3);
        for (int crew = 0; crew < 3; crew++) {
            Check.due("laid of each", row.ofCrew(crew, 3), 1);
        }
    }

    private static void rateOfOneAndNine() {
        TesseraeRow row = ready(8, 2);
        row.crew(0, 1, 0);
        Check.due("rate 1", row.pass(1), 1);
        Check.due("the rate was 1", row.crew(0, 9, 0), 1);
        Check.due("rate 9", row.pass(1), 9);
        Check.due("the rate was 9", row.crew(0, 9, 9), 9);
        Check.due("up to the end", row.pass(1), 6);
    }

    private static void rateIsNotCarriedOver() {
        TesseraeRow row = ready(2, 4);
        row.crew(0, 3, 2);
        Check.due("a row, and a third stone has to wait", row.pass(1), 2);
        Check.due("waits", row.pass(1), 0);
        Check.due("no more than a row", row.pass(1), 2);
        TesseraeRow waited = ready(8, 1);
        waited.send(0, -1);
        waited.pass(50);
        waited.send(0, 0);
        Check.due("no more than by the rate behind a long rest", waited.pass(1), 1);
    }

    private static void rateFromNowOn() {
        TesseraeRow row = ready(8, 1);
        row.pass(2);
        row.crew(0, 4, 1);
        row.crew(1, 9, 1);
        Check.due("by the new rate", row.pass(1), 4);
        Check.due("laid in all", row.ofCrew(0, 3), 6);
    }

    private static void dryOfZeroAndNine() {
        TesseraeRow row = ready(1, 3);
        row.crew(0, 9, 0);
        Check.due("without drying all in one hour", row.pass(1), 3);
        TesseraeRow slow = ready(1, 3);
        slow.crew(0, 9, 9);
        Check.due("the first of 9 hours for drying", slow.pass(1), 1);
        Check.due("8 hours are not enough", slow.pass(8), 0);
        Check.due("the ninth", slow.pass(1), 1);
        Check.due("its hour", slow.ofCell(0, 0, 1, 4), 10);
        Check.due("and again", slow.pass(9), 1);
    }

    private static void sendToNoneAndBack() {
        TesseraeRow row = ready(3, 1);
        Check.due("send to none", row.send(0, -1), 0);
        Check.due("is nowhere", row.ofCrew(0, 0), -1);
        Check.due("lays nothing", row.pass(2), 0);
        Check.due("send back", row.send(0, 0), -1);
        Check.due("its tray is as it was", row.ofCrew(0, 2), 1);
        Check.due("lays again", row.pass(1), 1);
    }

    private static void sendWhereItIsAlready() {
        TesseraeRow row = ready(1, 1);
        Check.due("send where it is", row.send(0, 0), 0);
        Check.due("is there", row.ofCrew(0, 0), 0);
        for (int i = 1; i < 5; i++) {
            row.picture(1, 1, 0);
            Check.due("send to the next", row.send(0, i), i - 1);
        }
        Check.due("is at the last", row.ofCrew(0, 0), 4);
    }

    // ---- trays

    private static void newTrayIsEmpty() {
        TesseraeRow row = ready(3, 1);
        Check.due("lots on the one before", row.tray(0, TesseraeRow.MARBLE), 1);
        Check.due("of MARBLE", row.ofCrew(0, 1), TesseraeRow.MARBLE);
        Check.due("empty", row.ofCrew(0, 2), 0);
        Check.due("the lot isn't on it", row.pass(1), 0);
        Check.due("it was empty", row.tray(0, TesseraeRow.GLASS), 0);
        Check.due("GLASS again, but empty", row.pass(1), 0);
        Check.due("load", row.load(0, 0), true);
        Check.due("lays again", row.pass(1), 1);
    }

    private static void trayOfTheSameMaterialIsNewToo() {
        TesseraeRow row = ready(3, 1);
        Check.due("lots on the one before", row.tray(0, TesseraeRow.GLASS), 1);
        Check.due("empty", row.ofCrew(0, 2), 0);
        Check.due("lays nothing", row.pass(1), 0);
    }

    /** Five lots of a tone each, a cell each. */
    private static TesseraeRow fiveLots() {
        TesseraeRow row = new TesseraeRow();
        row.picture(5, 1, 0);
        for (int i = 0; i < 5; i++) {
            row.lot(5000 * i, 1, TesseraeRow.GLASS, true);
            row.cell(0, i, 0, 50 * i);
        }
        row.design(0);
        row.send(0, 0);
        row.crew(0, 9, 0);
        return row;
    }

    private static void trayForFourLots() {
        TesseraeRow row = fiveLots();
        Check.same("a lot each", Check.cells(row, 0, 1), "0 1 2 3 4");
        for (int lot = 3; lot >= 0; lot--) {
            Check.due("load of one of four", row.load(0, lot), true);
        }
        Check.due("a fifth one", row.load(0, 4), false);
        Check.due("lots on the tray", row.ofCrew(0, 2), 4);
        Check.due("four lots are laid, the fifth is not", row.pass(2), 4);
        Check.due("lots on it that are laid to the last stone", row.tray(0, TesseraeRow.GLASS), 4);
        Check.due("the fifth on a new one", row.load(0, 4), true);
        Check.due("it is laid", row.pass(1), 1);
    }

    private static void loadAgainOnAFullTray() {
        TesseraeRow row = fiveLots();
        for (int lot = 0; lot < 4; lot++) {
            row.load(0, lot);
        }
        for (int lot = 0; lot < 4; lot++) {
            Check.due("load of one that is there, with 3 others", row.load(0, lot), true);
        }
        Check.due("each is there once", row.tray(0, TesseraeRow.GLASS), 4);
        row.load(0, 0);
        Check.due("load again", row.load(0, 0), true);
        Check.due("once", row.ofCrew(0, 2), 1);
    }

    private static void loadOfAnotherMaterialOnAFullTray() {
        TesseraeRow row = fiveLots();
        row.lot(0, 1, TesseraeRow.MARBLE, true);
        Check.due("MARBLE on an empty tray of GLASS", row.load(0, 5), false);
        Check.due("still empty", row.ofCrew(0, 2), 0);
        for (int lot = 0; lot < 4; lot++) {
            row.load(0, lot);
        }
        Check.due("MARBLE on a full one", row.load(0, 5), false);
        row.tray(0, TesseraeRow.MARBLE);
        Check.due("GLASS on an empty one of MARBLE", row.load(0, 0), false);
        Check.due("MARBLE on it", row.load(0, 5), true);
        Check.due("one lot", row.ofCrew(0, 2), 1);
    }

    private static void loadOfALateLot() {
        TesseraeRow row = new TesseraeRow();
        row.lot(10000, 9, TesseraeRow.GLASS, false);
        row.picture(1, 1, 100);
        Check.due("load of a late lot", row.load(0, 0), true);
        row.send(0, 0);
        row.design(0);
        Check.due("nothing of it to be laid", row.pass(1), 0);
        row.comes(0);
        row.design(0);
        Check.due("laid when it came", row.pass(1), 1);
    }

    private static void trayThatIsTakenAwayOnTheWay() {
        TesseraeRow row = ready(3, 1);
        row.pass(1);
        row.tray(0, TesseraeRow.GLASS);
        Check.due("waits for the lot", row.pass(5), 0);
        Check.due("another crew's tray", row.load(1, 0), true);
        Check.due("is not this one's", row.pass(1), 0);
        row.load(0, 0);
        Check.due("goes on", row.pass(5), 2);
    }

    // ---- hours

    private static void passOfOneAndAHundred() {
        TesseraeRow row = ready(8, 8);
        Check.due("one hour", row.pass(1), 1);
        Check.due("hour 1", row.hour(), 1);
        Check.due("a hundred", row.pass(100), 63);
        Check.due("hour 101", row.hour(), 101);
        Check.due("the last one's hour", row.ofCell(0, 7, 7, 4), 64);
    }

    private static void passOfManyCalls() {
        TesseraeRow row = ready(1, 2);
        row.crew(0, 1, 9);
        row.send(0, -1);
        int calls = 480;
        for (int i = 0; i < calls; i++) {
            Check.due("nothing to lay", row.pass(100), 0);
        }
        row.send(0, 0);
        Check.due("hour", row.hour(), 48000);
        Check.due("lay then", row.pass(9), 1);
        Check.due("dries then as ever", row.pass(1), 1);
        Check.same("hours", Check.cells(row, 0, 4), "48001 / 48010");
    }

    private static void passWithoutAnythingToLay() {
        TesseraeRow row = new TesseraeRow();
        Check.due("pass without pictures", row.pass(1), 0);
        row.picture(1, 1, 0);
        row.send(0, 0);
        row.old(0, 0, 0, 0);
        Check.due("pass where all is OLD", row.pass(1), 0);
        Check.due("hour", row.hour(), 2);
    }

    private static void passWaitsAtOpen() {
        TesseraeRow row = new TesseraeRow();
        row.lot(10000, 9, TesseraeRow.GLASS, true);
        row.picture(3, 1, 100);
        row.load(0, 0);
        row.send(0, 0);
        row.crew(0, 9, 1);
        Check.due("all are OPEN", row.pass(2), 0);
        row.design(0);
        Check.due("all are PROMISED", row.pass(1), 3);
        TesseraeRow few = new TesseraeRow();
        few.lot(10000, 1, TesseraeRow.GLASS, true);
        few.picture(3, 1, 100);
        few.design(0);
        few.load(0, 0);
        few.send(0, 0);
        Check.due("up to the first that is OPEN", few.pass(5), 1);
        Check.same("kinds", Check.cells(few, 0, 0), "2 0 0");
    }

    private static void passGoesBeyondOldAndLaid() {
        TesseraeRow row = new TesseraeRow();
        row.lot(10000, 9, TesseraeRow.GLASS, true);
        row.picture(4, 1, 100);
        row.old(0, 0, 0, 5);
        row.old(0, 2, 0, 5);
        row.design(0);
        come(row, 0);
        Check.due("behind OLD", row.pass(1), 1);
        Check.same("kinds", Check.cells(row, 0, 0), "3 2 3 1");
        Check.due("behind LAID and OLD", row.pass(1), 1);
        Check.same("kinds then", Check.cells(row, 0, 0), "3 2 3 2");
    }

    private static void passStopsInTheMiddleOfARow() {
        TesseraeRow row = new TesseraeRow();
        row.lot(10000, 9, TesseraeRow.GLASS, true);
        row.lot(0, 9, TesseraeRow.MARBLE, true);
        row.picture(4, 1, 100);
        row.cell(0, 2, 0, 0);
        row.design(0);
        row.crew(0, 9, 0);
        come(row, 0);
        Check.due("up to the MARBLE", row.pass(3), 2);
        Check.same("none behind it is laid ahead", Check.cells(row, 0, 0), "2 2 1 1");
    }

    private static void passToThePicturesEnd() {
        TesseraeRow row = ready(3, 3);
        row.crew(0, 9, 0);
        Check.due("the whole picture", row.pass(1), 9);
        Check.due("none is left to lay", row.pass(9), 0);
        Check.due("laid by the crew", row.ofCrew(0, 3), 9);
        Check.due("LAID", row.ofPicture(0, TesseraeRow.LAID), 9);
        Check.due("promised", row.ofLot(0, 1), 0);
        Check.due("laid of the lot", row.ofLot(0, 2), 9);
    }

    // ---- rows that are dry

    private static void firstRowHasNoneAbove() {
        TesseraeRow row = ready(3, 1);
        row.crew(0, 9, 9);
        Check.due("the first row waits for none", row.pass(1), 3);
    }

    private static void rowAboveOfOldOnes() {
        TesseraeRow row = new TesseraeRow();
        row.lot(10000, 9, TesseraeRow.GLASS, true);
        row.picture(2, 2, 100);
        row.old(0, 0, 0, 5);
        row.old(0, 1, 0, 5);
        row.design(0);
        row.crew(0, 9, 9);
        come(row, 0);
        Check.due("below a row of nothing but OLD", row.pass(1), 2);
    }

    private static void rowAboveDriesToTheVeryHour() {
        for (int dry = 0; dry <= 9; dry++) {
            TesseraeRow row = ready(1, 2);
            row.crew(0, 1, dry);
            Check.due("the first", row.pass(1), 1);
            if (dry > 1) {
                Check.due("an hour less than " + dry, row.pass(dry - 1), 0);
            }
            Check.due("the hour of " + dry, row.pass(1), 1);
            Check.due("laid in it", row.ofCell(0, 0, 1, 4), 1 + Math.max(dry, 1));
        }
    }

    private static void rowAboveDriesFromItsLatestStone() {
        TesseraeRow row = ready(3, 2);
        row.crew(0, 1, 9);
        row.pass(2);
        row.crew(0, 1, 2);
        Check.due("the latest of the row, in the hour 3", row.pass(1), 1);
        Check.due("the hour 4", row.pass(1), 0);
        // The ones of 9 hours would be dry in the hours 10 and 11 only, but are not the latest.
        Check.due("the hour 5", row.pass(1), 1);
        TesseraeRow withOld = new TesseraeRow();
        withOld.lot(10000, 9, TesseraeRow.GLASS, true);
        withOld.picture(2, 2, 100);
        withOld.old(0, 1, 0, 5);
        withOld.design(0);
        withOld.crew(0, 9, 3);
        come(withOld, 0);
        Check.due("a row with an OLD one at its end", withOld.pass(1), 1);
        Check.due("dries from the one that is LAID", withOld.pass(2), 0);
        Check.due("dry", withOld.pass(1), 2);
    }

    private static void rowAboveOfOneHourDriesFromTheRight() {
        int[][] hours = {{9, 2, 2}, {1, 5, 5}, {3, 3, 3}};
        for (int[] dry : hours) {
            TesseraeRow row = ready(2, 2);
            come(row, 1);
            row.crew(0, 1, dry[0]);
            row.crew(1, 1, dry[1]);
            Check.due("a stone of each", row.pass(1), 2);
            Check.due("an hour less than the one to the right", row.pass(dry[2] - 1), 0);
            Check.due("its hour", row.pass(1), 2);
        }
    }

    private static void rowAboveDriesAsItsCrewDidThen() {
        TesseraeRow row = ready(1, 2);
        row.crew(0, 1, 4);
        row.pass(1);
        row.crew(0, 1, 0);
        Check.due("the hours for drying of then, not of now", row.pass(3), 0);
        Check.due("dry", row.pass(1), 1);
        TesseraeRow other = ready(1, 2);
        other.crew(0, 1, 1);
        other.crew(1, 1, 9);
        other.pass(1);
        other.send(0, -1);
        come(other, 1);
        Check.due("those of the crew that laid it, not of the one that goes on", other.pass(1), 1);
    }

    private static void onlyTheRowAboveHasToBeDry() {
        TesseraeRow row = ready(1, 3);
        row.crew(0, 1, 9);
        row.pass(1);
        row.crew(0, 1, 0);
        Check.due("the second one, dry at once", row.pass(9), 1);
        Check.due("the third one", row.pass(1), 1);
        TesseraeRow aside = ready(2, 1);
        aside.crew(0, 1, 9);
        Check.due("none waits for the one aside", aside.pass(2), 2);
    }

    private static void oneCrewBehindTheOtherInAnHour() {
        TesseraeRow row = ready(2, 3);
        come(row, 2);
        row.crew(0, 2, 0);
        row.crew(2, 9, 5);
        Check.due("crew 0 a row, crew 2 the next one in the same hour", row.pass(1), 4);
        Check.due("of crew 0", row.ofCrew(0, 3), 2);
        Check.due("of crew 2", row.ofCrew(2, 3), 2);
        TesseraeRow rising = ready(1, 1);
        come(rising, 1);
        come(rising, 2);
        rising.pass(1);
        Check.due("the one stone is the lowest crew's", rising.ofCrew(0, 3), 1);
        Check.due("none of the others", rising.ofCrew(1, 3) + rising.ofCrew(2, 3), 0);
    }

    private static void laidIsNotTakenUp() {
        TesseraeRow row = ready(2, 1);
        row.pass(1);
        row.lot(500, 9, TesseraeRow.MARBLE, true);
        row.share(0, 0, 1);
        row.design(0);
        row.fill(0);
        Check.same("LAID yet", Check.cells(row, 0, 0), "2 1");
        Check.due("its lot", row.ofCell(0, 0, 0, 1), 0);
        Check.due("its hour", row.ofCell(0, 0, 0, 4), 1);
        Check.due("laid of the lot", row.ofLot(0, 2), 1);
    }

    private static void stonesOfACrewAreCountedInAllPictures() {
        TesseraeRow row = ready(1, 1);
        row.picture(2, 1, 100);
        row.design(1);
        row.pass(1);
        row.send(0, 1);
        row.pass(2);
        row.tray(0, TesseraeRow.MARBLE);
        row.send(0, -1);
        Check.due("laid in both", row.ofCrew(0, 3), 3);
    }
}
