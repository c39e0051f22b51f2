/** Promises 10 to 15 and 21: crews, their trays, and the hours. */
public final class CrewsTest {
    public static void main(String[] args) {
        send();
        crew();
        tray();
        load();
        passEdges();
        waitsForWhatIsNotOnTheTray();
        dryingRows();
        dryingOfTheFarthestRight();
        oldRowsAreDry();
        crewsByRisingNumbers();
        ofCrew();
        Check.end("crews");
    }

    /** Stones of lot 0 promised in all cells of picture 0, and crew 0 with them on its tray. */
    private static TesseraeRow ready(int width, int height) {
        TesseraeRow row = new TesseraeRow();
        row.lot(10000, 100, TesseraeRow.GLASS, true);
        row.picture(width, height, 100);
        row.design(0);
        row.load(0, 0);
        row.send(0, 0);
        return row;
    }

    private static void send() {
        TesseraeRow row = new TesseraeRow();
        row.picture(1, 1, 0);
        row.picture(1, 1, 0);
        Check.noSuch(row, "send(-1, 0)", () -> row.send(-1, 0));
        Check.noSuch(row, "send(3, 0)", () -> row.send(3, 0));
        Check.noSuch(row, "send(0, 2)", () -> row.send(0, 2));
        Check.noSuch(row, "send(0, -2)", () -> row.send(0, -2));
        Check.due("send at first", row.send(2, 1), -1);
        Check.due("send on", row.send(2, 0), 1);
        Check.due("send to none", row.send(2, -1), 0);
        Check.due("send to none again", row.send(2, -1), -1);
        Check.due("another crew", row.ofCrew(0, 0), -1);
    }

    private static void crew() {
        TesseraeRow row = new TesseraeRow();
        Check.noSuch(row, "crew(3, ..)", () -> row.crew(3, 0, 0));
        Check.noSuch(row, "crew(-1, ..)", () -> row.crew(-1, 1, 1));
        Check.outOfRange(row, "rate 0", () -> row.crew(0, 0, 0));
        Check.outOfRange(row, "rate 10", () -> row.crew(0, 10, 0));
        Check.outOfRange(row, "dry -1", () -> row.crew(0, 5, -1));
        Check.outOfRange(row, "dry 10", () -> row.crew(0, 5, 10));
        Check.due("rate at first", row.crew(0, 9, 9), 1);
        Check.due("rate before", row.crew(0, 1, 0), 9);
        Check.due("rate of another", row.crew(1, 2, 3), 1);
        Check.due("rate then", row.crew(0, 4, 0), 1);
    }

    private static void tray() {
        TesseraeRow row = new TesseraeRow();
        row.lot(0, 1, TesseraeRow.GLASS, true);
        row.lot(0, 1, TesseraeRow.MARBLE, true);
        Check.noSuch(row, "tray(3, ..)", () -> row.tray(3, 2));
        Check.noSuch(row, "tray(-1, ..)", () -> row.tray(-1, 0));
        row.load(0, 0);
        Check.outOfRange(row, "tray(0, 2)", () -> row.tray(0, 2));
        Check.outOfRange(row, "tray(0, -1)", () -> row.tray(0, -1));
        Check.due("tray before, of 1", row.tray(0, TesseraeRow.GLASS), 1);
        Check.due("tray before, empty", row.tray(0, TesseraeRow.MARBLE), 0);
        Check.due("its material", row.ofCrew(0, 1), TesseraeRow.MARBLE);
        Check.due("no GLASS on MARBLE", row.load(0, 0), false);
        Check.due("MARBLE on MARBLE", row.load(0, 1), true);
        Check.due("tray before, of MARBLE", row.tray(0, TesseraeRow.MARBLE), 1);
    }

    private static void load() {
        TesseraeRow row = new TesseraeRow();
        for (int i = 0; i < 6; i++) {
            row.lot(0, 1, i == 5 ? TesseraeRow.MARBLE : TesseraeRow.GLASS, i % 2 == 0);
        }
        Check.noSuch(row, "load(3, 0)", () -> row.load(3, 0) ? 1 : 0);
        Check.noSuch(row, "load(-1, 0)", () -> row.load(-1, 0) ? 1 : 0);
        Check.noSuch(row, "load(0, 6)", () -> row.load(0, 6) ? 1 : 0);
        Check.noSuch(row, "load(0, -1)", () -> row.load(0, -1) ? 1 : 0);
        Check.due("MARBLE on GLASS", row.load(0, 5), false);
        for (int i = 0; i < 4; i++) {
            Check.due("load " + i, row.load(0, i), true);
            Check.due("load again " + i, row.load(0, i), true);
            Check.due("lots on it", row.ofCrew(0, 2), i + 1);
        }
        Check.due("a fifth one", row.load(0, 4), false);
        Check.due("one of the four", row.load(0, 1), true);
        Check.due("lots on it", row.ofCrew(0, 2), 4);
        Check.due("tray of another crew", row.ofCrew(1, 2), 0);
        row.tray(0, TesseraeRow.GLASS);
        Check.due("the fifth one on a new tray", row.load(0, 4), true);
        Check.due("lots on the new one", row.ofCrew(0, 2), 1);
    }

    private static void passEdges() {
        TesseraeRow row = new TesseraeRow();
        Check.outOfRange(row, "pass(0)", () -> row.pass(0));
        Check.outOfRange(row, "pass(-1)", () -> row.pass(-1));
        Check.outOfRange(row, "pass(101)", () -> row.pass(101));
        Check.due("pass(1)", row.pass(1), 0);
        Check.due("hour", row.hour(), 1);
        Check.due("pass(100)", row.pass(100), 0);
        Check.due("hour", row.hour(), 101);
        TesseraeRow other = ready(4, 1);
        Check.due("pass lays by the rate", other.pass(3), 3);
        other.crew(0, 9, 1);
        Check.due("pass lays to the end", other.pass(2), 1);
        Check.due("nothing behind that", other.pass(100), 0);
        Check.due("laid of the lot", other.ofLot(0, 2), 4);
        Check.due("promised of the lot", other.ofLot(0, 1), 0);
        Check.due("left of the lot", other.ofLot(0, 0), 96);
        other.design(0);
        Check.due("what is laid stays", other.ofPicture(0, TesseraeRow.LAID), 4);
    }

    private static void waitsForWhatIsNotOnTheTray() {
        TesseraeRow row = new TesseraeRow();
        row.lot(10000, 9, TesseraeRow.GLASS, true);
        row.lot(2000, 9, TesseraeRow.MARBLE, true);
        row.picture(3, 1, 100);
        row.cell(0, 1, 0, 20);
        row.design(0);
        row.crew(0, 9, 0);
        Check.due("nowhere", row.pass(1), 0);
        row.send(0, 0);
        Check.due("an empty tray", row.pass(1), 0);
        row.load(0, 0);
        Check.due("up to the MARBLE", row.pass(2), 1);
        row.tray(0, TesseraeRow.MARBLE);
        row.load(0, 1);
        Check.due("the MARBLE alone", row.pass(1), 1);
        Check.due("the last one not", row.ofCell(0, 2, 0, 0), TesseraeRow.PROMISED);
        Check.due("laid at", row.ofCell(0, 1, 0, 4), 5);
        TesseraeRow open = new TesseraeRow();
        open.lot(10000, 1, TesseraeRow.GLASS, true);
        open.picture(2, 1, 100);
        open.load(0, 0);
        open.send(0, 0);
        Check.due("OPEN", open.pass(3), 0);
        open.old(0, 0, 0, 3);
        open.design(0);
        Check.due("behind OLD", open.pass(1), 1);
    }

    private static void dryingRows() {
        TesseraeRow row = ready(2, 3);
        row.crew(0, 9, 3);
        Check.due("the first row", row.pass(1), 2);
        Check.due("not dry yet", row.pass(2), 0);
        row.crew(0, 1, 0);
        Check.due("dry in the hour 4", row.pass(1), 1);
        row.crew(0, 9, 9);
        Check.due("the row's end", row.pass(1), 1);
        Check.due("its latest stone counts", row.pass(8), 0);
        Check.due("dry in the hour 14", row.pass(1), 2);
        Check.due("hour", row.hour(), 14);
        Check.due("laid at", row.ofCell(0, 0, 2, 4), 14);
        TesseraeRow fast = ready(2, 3);
        fast.crew(0, 9, 0);
        Check.due("without drying in one hour", fast.pass(1), 6);
        TesseraeRow atFirst = ready(1, 3);
        Check.due("one hour for drying at first", atFirst.pass(3), 3);
        TesseraeRow atFirstTwo = ready(1, 2);
        atFirstTwo.load(1, 0);
        atFirstTwo.send(1, 0);
        Check.due("dry an hour later", atFirstTwo.pass(1), 1);
    }

    /** Two crews lay a row in the same hour: the stone farthest to the right dries as its crew's do. */
    private static void dryingOfTheFarthestRight() {
        TesseraeRow row = ready(2, 2);
        row.crew(0, 1, 9);
        row.crew(1, 1, 2);
        row.load(1, 0);
        row.send(1, 0);
        Check.due("a row by both", row.pass(1), 2);
        row.crew(1, 1, 9);
        Check.due("not dry yet", row.pass(1), 0);
        Check.due("dry by the second crew's hours", row.pass(1), 2);
    }

    private static void oldRowsAreDry() {
        TesseraeRow row = new TesseraeRow();
        row.lot(10000, 100, TesseraeRow.GLASS, true);
        row.picture(2, 3, 100);
        row.old(0, 0, 0, 1);
        row.old(0, 1, 0, 1);
        row.old(0, 1, 1, 1);
        row.design(0);
        row.load(0, 0);
        row.send(0, 0);
        row.crew(0, 9, 2);
        Check.due("behind a row of OLD ones", row.pass(1), 1);
        Check.due("OLD ones don't make it dry", row.pass(1), 0);
        Check.due("dry", row.pass(1), 2);
    }

    private static void crewsByRisingNumbers() {
        TesseraeRow row = ready(5, 1);
        row.crew(2, 3, 1);
        row.load(2, 0);
        row.send(2, 0);
        Check.due("both", row.pass(1), 4);
        Check.due("of crew 0", row.ofCrew(0, 3), 1);
        Check.due("of crew 2", row.ofCrew(2, 3), 3);
        Check.due("the last one", row.pass(1), 1);
        Check.due("of crew 0, the lowest", row.ofCrew(0, 3), 2);
    }

    private static void ofCrew() {
        TesseraeRow row = ready(3, 1);
        row.pass(2);
        int[] due = {0, TesseraeRow.GLASS, 1, 2};
        int[] other = {-1, TesseraeRow.GLASS, 0, 0};
        for (int what = 0; what <= 3; what++) {
            Check.due("ofCrew(0, " + what + ")", row.ofCrew(0, what), due[what]);
            Check.due("ofCrew(1, " + what + ")", row.ofCrew(1, what), other[what]);
        }
        Check.outOfRange(row, "ofCrew(0, -1)", () -> row.ofCrew(0, -1));
        Check.outOfRange(row, "ofCrew(0, 4)", () -> row.ofCrew(0, 4));
        Check.noSuch(row, "ofCrew(3, 4)", () -> row.ofCrew(3, 4));
        Check.noSuch(row, "ofCrew(-1, 0)", () -> row.ofCrew(-1, 0));
    }
}
