/** Promises 1, 2, 3 and 19: a new object, and lots. */
public final class LotsTest {
    public static void main(String[] args) {
        newObject();
        lotEdges();
        atMostTwelve();
        allTones();
        comes();
        ofLot();
        Check.end("lots");
    }

    private static void newObject() {
        TesseraeRow row = new TesseraeRow();
        Check.due("hour at first", row.hour(), 0);
        Check.same("a new object", Check.state(row),
                "hour 0\ncrew 0 -1 0 0 0\ncrew 1 -1 0 0 0\ncrew 2 -1 0 0 0\n");
        Check.noSuch(row, "ofLot(0, 0) at first", () -> row.ofLot(0, 0));
        Check.noSuch(row, "ofPicture(0, 0) at first", () -> row.ofPicture(0, 0));
        new TesseraeRow().lot(1, 1, 0, true);
        Check.noSuch(row, "ofLot(0, 0) behind a lot of another object", () -> row.ofLot(0, 0));
    }

    private static void lotEdges() {
        TesseraeRow row = new TesseraeRow();
        Check.outOfRange(row, "lot(-1, ..)", () -> row.lot(-1, 1, 0, true));
        Check.outOfRange(row, "lot(25501, ..)", () -> row.lot(25501, 1, 0, true));
        Check.outOfRange(row, "lot(least, ..)", () -> row.lot(Integer.MIN_VALUE, 1, 0, true));
        Check.outOfRange(row, "lot(0, 0, ..)", () -> row.lot(0, 0, 0, true));
        Check.outOfRange(row, "lot(0, 501, ..)", () -> row.lot(0, 501, 0, true));
        Check.outOfRange(row, "lot(0, 1, -1, ..)", () -> row.lot(0, 1, -1, true));
        Check.outOfRange(row, "lot(0, 1, 2, ..)", () -> row.lot(0, 1, 2, true));
        Check.due("lot(0, 1, GLASS, true)", row.lot(0, 1, TesseraeRow.GLASS, true), 0);
        Check.due("lot(25500, 500, MARBLE, false)", row.lot(25500, 500, TesseraeRow.MARBLE, false), 1);
        Check.due("left of 1", row.ofLot(0, 0), 1);
        Check.due("left of 500", row.ofLot(1, 0), 500);
        Check.due("tone 0", row.ofLot(0, 4), 0);
        Check.due("tone 255", row.ofLot(1, 4), Check.bits(255f));
    }

    private static void atMostTwelve() {
        TesseraeRow row = new TesseraeRow();
        for (int i = 0; i < 12; i++) {
            Check.due("lot " + i, row.lot(100 * i, 1 + i, i % 2, i % 3 == 0), i);
        }
        Check.notNow(row, "a thirteenth lot", () -> row.lot(1, 1, 0, true));
        Check.outOfRange(row, "a thirteenth lot, out of range", () -> row.lot(-1, 1, 0, true));
        Check.noSuch(row, "ofLot(12, 0)", () -> row.ofLot(12, 0));
    }

    private static void allTones() {
        TesseraeRow row = new TesseraeRow();
        for (int hundredths = 0; hundredths <= 25500; hundredths++) {
            if (hundredths % 12 == 0) {
                row = new TesseraeRow();
            }
            int lot = row.lot(hundredths, 1, 0, true);
            Check.due("tone of " + hundredths, row.ofLot(lot, 4), Check.bits((float) hundredths / 100));
        }
    }

    private static void comes() {
        TesseraeRow row = new TesseraeRow();
        row.lot(1000, 7, 0, false);
        row.lot(2000, 3, 0, true);
        row.picture(2, 1, 10);
        Check.noSuch(row, "comes(-1)", () -> row.comes(-1));
        Check.noSuch(row, "comes(2)", () -> row.comes(2));
        Check.notNow(row, "comes of one that is there", () -> row.comes(1));
        row.design(0);
        Check.due("promised of one that isn't there", row.ofLot(0, 1), 0);
        Check.due("comes", row.comes(0), 7);
        Check.due("is there", row.ofLot(0, 3), 1);
        Check.notNow(row, "comes twice", () -> row.comes(0));
        Check.due("design behind it", row.design(0), 2);
        Check.due("promised behind it", row.ofLot(0, 1), 2);
    }

    private static void ofLot() {
        TesseraeRow row = new TesseraeRow();
        row.lot(12345, 5, 0, true);
        row.lot(50, 2, 1, false);
        row.picture(3, 1, 100);
        row.design(0);
        row.load(0, 0);
        row.send(0, 0);
        row.pass(1);
        int[] first = {2, 2, 1, 1, Check.bits(123.45f)};
        int[] second = {2, 0, 0, 0, Check.bits(0.5f)};
        for (int what = 0; what <= 4; what++) {
            Check.due("ofLot(0, " + what + ")", row.ofLot(0, what), first[what]);
            Check.due("ofLot(1, " + what + ")", row.ofLot(1, what), second[what]);
        }
        Check.outOfRange(row, "ofLot(0, -1)", () -> row.ofLot(0, -1));
        Check.outOfRange(row, "ofLot(0, 5)", () -> row.ofLot(0, 5));
        Check.noSuch(row, "ofLot(-1, 0)", () -> row.ofLot(-1, 0));
        Check.noSuch(row, "ofLot(2, 5)", () -> row.ofLot(2, 5));
        Check.noSuch(row, "ofLot(most, 0)", () -> row.ofLot(Integer.MAX_VALUE, 0));
    }
}
