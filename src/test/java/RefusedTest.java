/**
 * Every call that the document refuses: its exception, the one that is named first where several are due, and
 * that it changes nothing. State that no call tells at once (rates, what lies on trays, what dries) is looked
 * for by going on: the object that refused and a twin that was never asked have to answer the same.
 */
public final class RefusedTest {
    /** A call on whatever object it is given. */
    interface CallOn {
        long on(TesseraeRow row);
    }

    interface NumberedCall {
        long on(TesseraeRow row, int number);
    }

    interface PlacedCall {
        long on(TesseraeRow row, int x, int y);
    }

    /** Makes an object, always the same one. */
    interface Maker {
        TesseraeRow made();
    }

    /** An object as it is made, and what its twin tells that is never asked for what is refused. */
    private static final class Scene {
        final Maker maker;
        final String state;
        final String wentOn;

        Scene(Maker maker) {
            TesseraeRow twin = maker.made();
            this.maker = maker;
            this.state = Check.state(twin);
            this.wentOn = goingOn(twin);
        }
    }

    private static final Scene EMPTY = new Scene(RefusedTest::empty);
    private static final Scene SOME = new Scene(RefusedTest::some);
    private static final Scene FULL = new Scene(RefusedTest::full);
    private static final Scene ALL_KINDS = new Scene(RefusedTest::allKinds);
    private static final Scene LATE_ONE_THAT_CAME = new Scene(RefusedTest::lateOneThatCame);
    private static final Scene[] SCENES = {EMPTY, SOME, FULL};

    private static final Class<?> INDEX = IndexOutOfBoundsException.class;
    private static final Class<?> RANGE = IllegalArgumentException.class;
    private static final Class<?> STATE = IllegalStateException.class;
    private static final int LEAST = Integer.MIN_VALUE, MOST = Integer.MAX_VALUE;
    /** None of these is a number of anything: below, above, and such as wrap to small ones where bits are cut. */
    private static final int[] NOWHERE = {-1, -2, 12, 64, 256, 65536, 1 << 30, LEAST, LEAST + 1, MOST};

    /** How many there are in each of SCENES, which is the first number that isn't. */
    private static final int[] LOTS = {0, 3, 12};
    private static final int[] PICTURES = {0, 2, 5};
    private static final int[] CREWS = {3, 3, 3};

    private static int wrong;

    public static void main(String[] args) {
        lot();
        comes();
        picture();
        cell();
        old();
        fillAndDesign();
        share();
        send();
        crew();
        tray();
        load();
        pass();
        ofCell();
        aimAnewAndEdge();
        ofLotPictureAndCrew();
        if (wrong > 0) {
            System.out.println("refused calls: " + wrong + " wrong");
            System.exit(1);
        }
        System.out.println("refused calls: as due");
    }

    // ---- the objects

    private static TesseraeRow empty() {
        return new TesseraeRow();
    }

    /** Three lots, two pictures: the numbers behind these are free, but within the document's limits. */
    private static TesseraeRow some() {
        TesseraeRow row = new TesseraeRow();
        row.lot(10000, 5, TesseraeRow.GLASS, true);
        row.lot(5000, 3, TesseraeRow.MARBLE, true);
        row.lot(7500, 9, TesseraeRow.GLASS, false);
        row.picture(4, 3, 100);
        row.old(0, 2, 0, 60);
        row.crew(0, 1, 2);
        row.load(0, 0);
        row.send(0, 0);
        row.design(0);
        row.pass(1);
        row.old(0, 3, 2, 9);
        row.picture(2, 5, 30);
        return row;
    }

    /** As many lots and pictures as there can be, a full tray, and every kind of cell. */
    private static TesseraeRow full() {
        TesseraeRow row = new TesseraeRow();
        for (int i = 0; i < 12; i++) {
            row.lot(9000 + 173 * i, 2 + i % 4, i == 4 || i == 5 ? TesseraeRow.MARBLE : TesseraeRow.GLASS, i < 9);
        }
        for (int i = 0; i < 5; i++) {
            row.picture(8 - i, 4 + i, 95 + i);
        }
        row.old(1, 0, 0, 200);
        row.design(0);
        row.design(1);
        for (int lot = 0; lot < 4; lot++) {
            row.load(0, lot);
        }
        row.tray(1, TesseraeRow.MARBLE);
        row.load(1, 4);
        row.crew(0, 3, 4);
        row.crew(1, 7, 0);
        row.crew(2, 9, 9);
        row.send(0, 0);
        row.send(1, 1);
        row.send(2, 0);
        row.pass(3);
        return row;
    }

    /** One row, its cells LAID, PROMISED, OLD and OPEN from the left. */
    private static TesseraeRow allKinds() {
        TesseraeRow row = new TesseraeRow();
        row.lot(4050, 2, TesseraeRow.GLASS, true);
        row.picture(4, 1, 40);
        row.old(0, 2, 0, 9);
        row.design(0);
        row.load(0, 0);
        row.send(0, 0);
        row.pass(1);
        return row;
    }

    // ---- how a refusal is looked at

    private static void refused(Scene scene, String call, Class<?> due, CallOn made) {
        TesseraeRow asked = scene.maker.made();
        String got = tried(asked, made);
        if (!got.equals("throws " + due.getName())) {
            wrong++;
            System.out.println(call + " " + got + ", due is " + due.getName());
        }
        String left = Check.state(asked);
        if (!left.equals(scene.state) || !goingOn(asked).equals(scene.wentOn)) {
            wrong++;
            System.out.println(call + " changed something:\n" + left);
        }
    }

    private static String tried(TesseraeRow row, CallOn made) {
        try {
            return "answers " + made.on(row);
        } catch (RuntimeException thrown) {
            return "throws " + thrown.getClass().getName();
        }
    }

    /** What is answered when all that can be done is done. */
    private static String goingOn(TesseraeRow row) {
        StringBuilder told = new StringBuilder();
        tell(told, row, r -> r.pass(1));
        tell(told, row, r -> r.pass(2));
        for (int i = 0; i < 12; i++) {
            int number = i;
            tell(told, row, r -> r.comes(number));
            tell(told, row, r -> r.load(1, number) ? 1 : 0);
            tell(told, row, r -> r.load(2, number) ? 1 : 0);
            tell(told, row, r -> r.load(0, number) ? 1 : 0);
            tell(told, row, r -> r.edge(number));
            tell(told, row, r -> r.aimAnew(number, 1, 0));
        }
        tell(told, row, r -> r.lot(4321, 5, TesseraeRow.MARBLE, true));
        tell(told, row, r -> r.picture(2, 2, 66));
        for (int i = 0; i < 5; i++) {
            int number = i;
            tell(told, row, r -> r.share(number, 0, 1));
            tell(told, row, r -> r.design(number));
            tell(told, row, r -> r.pass(4));
            tell(told, row, r -> r.fill(number));
            tell(told, row, r -> r.send(number, 0));
            tell(told, row, r -> r.crew(number, 1, 1));
            tell(told, row, r -> r.pass(3));
            tell(told, row, r -> r.tray(number, TesseraeRow.GLASS));
        }
        return told.toString();
    }

    private static void tell(StringBuilder told, TesseraeRow row, CallOn made) {
        told.append(tried(row, made)).append('\n').append(Check.state(row));
    }

    /** A number of a thing of which an object has few, none, or as many as can be. */
    private static void noSuch(String call, int[] few, NumberedCall made) {
        for (int number : NOWHERE) {
            for (Scene scene : SCENES) {
                refused(scene, call + " of " + number, INDEX, row -> made.on(row, number));
            }
        }
        for (int i = 0; i < few.length; i++) {
            int first = few[i];
            refused(SCENES[i], call + " of the first that isn't, " + first, INDEX, row -> made.on(row, first));
        }
    }

    private static void noSuchLot(String call, NumberedCall made) {
        noSuch(call + ", lot", LOTS, made);
    }

    private static void noSuchPicture(String call, NumberedCall made) {
        noSuch(call + ", picture", PICTURES, made);
    }

    private static void noSuchCrew(String call, NumberedCall made) {
        noSuch(call + ", crew", CREWS, made);
    }

    /** Picture 0 of some() has 4 columns and 3 rows: cells beside it on each side, and such as wrap. */
    private static void noSuchCell(String call, PlacedCall made) {
        int[][] outside = {{-1, 0}, {-1, 1}, {4, 0}, {4, 2}, {0, -1}, {3, -1}, {0, 3}, {3, 3}, {-1, -1}, {4, 3},
            {0, 1 << 30}, {MOST, 0}, {LEAST, 0}, {0, MOST}, {0, LEAST}, {LEAST, LEAST}, {MOST, MOST}, {4, -1},
            {-4, 1}, {8, -1}};
        for (int[] place : outside) {
            refused(SOME, call + " at " + place[0] + ", " + place[1], INDEX,
                    row -> made.on(row, place[0], place[1]));
        }
    }

    // ---- the calls, as the document has them

    private static void lot() {
        for (int hundredths : new int[] {-1, 25501, LEAST, MOST}) {
            refused(SOME, "lot of " + hundredths, RANGE, row -> row.lot(hundredths, 1, 0, true));
            refused(FULL, "a 13th, of " + hundredths, RANGE, row -> row.lot(hundredths, 1, 0, true));
        }
        for (int many : new int[] {0, -1, 501, LEAST, MOST}) {
            refused(SOME, "lot of many " + many, RANGE, row -> row.lot(100, many, 0, false));
            refused(FULL, "a 13th, of many " + many, RANGE, row -> row.lot(100, many, 0, false));
        }
        for (int material : new int[] {-1, 2, LEAST, MOST}) {
            refused(SOME, "lot of material " + material, RANGE, row -> row.lot(1, 1, material, true));
            refused(FULL, "a 13th, of material " + material, RANGE, row -> row.lot(1, 1, material, true));
        }
        refused(FULL, "a 13th lot", STATE, row -> row.lot(0, 1, 0, true));
        refused(FULL, "a 13th lot that comes later", STATE, row -> row.lot(25500, 500, 1, false));
    }

    private static void comes() {
        noSuchLot("comes", (row, lot) -> row.comes(lot));
        refused(SOME, "comes of one that is there", STATE, row -> row.comes(0));
        refused(FULL, "comes of one that is there and out", STATE, row -> row.comes(1));
        refused(LATE_ONE_THAT_CAME, "comes again", STATE, row -> row.comes(2));
    }

    private static TesseraeRow lateOneThatCame() {
        TesseraeRow row = some();
        row.comes(2);
        return row;
    }

    private static void picture() {
        for (int side : new int[] {0, -1, 9, LEAST, MOST, 1 << 16}) {
            refused(SOME, "picture of width " + side, RANGE, row -> row.picture(side, 1, 0));
            refused(SOME, "picture of height " + side, RANGE, row -> row.picture(1, side, 0));
            refused(SOME, "picture of both " + side, RANGE, row -> row.picture(side, side, 0));
            refused(FULL, "a 6th of width " + side, RANGE, row -> row.picture(side, 1, 0));
            refused(FULL, "a 6th of height " + side, RANGE, row -> row.picture(1, side, 0));
        }
        for (int tone : new int[] {-1, 256, LEAST, MOST}) {
            refused(SOME, "picture of tone " + tone, RANGE, row -> row.picture(1, 1, tone));
            refused(FULL, "a 6th of tone " + tone, RANGE, row -> row.picture(1, 1, tone));
        }
        refused(FULL, "a 6th picture", STATE, row -> row.picture(1, 1, 0));
        refused(FULL, "a 6th picture, great", STATE, row -> row.picture(8, 8, 255));
    }

    private static void cell() {
        noSuchPicture("cell", (row, picture) -> row.cell(picture, 0, 0, 7));
        noSuchCell("cell", (row, x, y) -> row.cell(0, x, y, 7));
        noSuchPicture("cell of tone -1", (row, picture) -> row.cell(picture, 0, 0, -1));
        noSuchCell("cell of tone 256", (row, x, y) -> row.cell(0, x, y, 256));
        for (int tone : new int[] {-1, 256, LEAST, MOST}) {
            for (int x = 0; x < 4; x++) {
                int place = x;
                refused(ALL_KINDS, "cell " + x + " of tone " + tone, RANGE,
                        row -> row.cell(0, place, 0, tone));
            }
        }
        refused(ALL_KINDS, "cell that is LAID", STATE, row -> row.cell(0, 0, 0, 7));
        refused(ALL_KINDS, "cell that is OLD", STATE, row -> row.cell(0, 2, 0, 7));
    }

    private static void old() {
        noSuchPicture("old", (row, picture) -> row.old(picture, 0, 0, 7));
        noSuchCell("old", (row, x, y) -> row.old(0, x, y, 7));
        noSuchPicture("old of tone -1", (row, picture) -> row.old(picture, 0, 0, -1));
        noSuchCell("old of tone 256", (row, x, y) -> row.old(0, x, y, 256));
        for (int tone : new int[] {-1, 256, LEAST, MOST}) {
            for (int x = 0; x < 4; x++) {
                int place = x;
                refused(ALL_KINDS, "old " + x + " of tone " + tone, RANGE,
                        row -> row.old(0, place, 0, tone));
            }
        }
        refused(ALL_KINDS, "old where it is LAID", STATE, row -> row.old(0, 0, 0, 7));
        refused(ALL_KINDS, "old where it is PROMISED", STATE, row -> row.old(0, 1, 0, 7));
        refused(ALL_KINDS, "old where it is OLD", STATE, row -> row.old(0, 2, 0, 7));
    }

    private static void fillAndDesign() {
        noSuchPicture("fill", (row, picture) -> row.fill(picture));
        noSuchPicture("design", (row, picture) -> row.design(picture));
    }

    private static void share() {
        noSuchPicture("share", (row, picture) -> row.share(picture, 0, 1));
        noSuchPicture("share, both the same", (row, picture) -> row.share(picture, 0, 0));
        noSuchLot("share", (row, lot) -> row.share(0, lot, 0));
        noSuchLot("share with", (row, lot) -> row.share(0, 0, lot));
        noSuchLot("share, both the same", (row, lot) -> row.share(0, lot, lot));
        for (int lot = 0; lot < 3; lot++) {
            int both = lot;
            refused(SOME, "share of " + lot + " twice", RANGE, row -> row.share(0, both, both));
            refused(SOME, "share of " + lot + " twice, without promises", RANGE,
                    row -> row.share(1, both, both));
        }
    }

    private static void send() {
        noSuchCrew("send", (row, crew) -> row.send(crew, 0));
        noSuchCrew("send to none", (row, crew) -> row.send(crew, -1));
        int[] none = {-2, 12, 65535, LEAST, MOST};
        for (int picture : none) {
            for (Scene scene : SCENES) {
                refused(scene, "send to " + picture, INDEX, row -> row.send(0, picture));
            }
        }
        refused(EMPTY, "send to the first that isn't, 0", INDEX, row -> row.send(2, 0));
        refused(SOME, "send to the first that isn't, 2", INDEX, row -> row.send(0, 2));
        refused(FULL, "send to the first that isn't, 5", INDEX, row -> row.send(0, 5));
    }

    private static void crew() {
        noSuchCrew("crew", (row, crew) -> row.crew(crew, 2, 2));
        noSuchCrew("crew of rate 0", (row, crew) -> row.crew(crew, 0, 2));
        noSuchCrew("crew of dry 10", (row, crew) -> row.crew(crew, 2, 10));
        for (int number = 0; number < 3; number++) {
            int crew = number;
            for (int rate : new int[] {0, -1, 10, LEAST, MOST}) {
                refused(FULL, "rate " + rate, RANGE, row -> row.crew(crew, rate, 1));
                refused(FULL, "rate " + rate + ", dry 10", RANGE, row -> row.crew(crew, rate, 10));
            }
            for (int dry : new int[] {-1, 10, LEAST, MOST}) {
                refused(FULL, "dry " + dry, RANGE, row -> row.crew(crew, 1, dry));
            }
        }
    }

    private static void tray() {
        noSuchCrew("tray", (row, crew) -> row.tray(crew, 0));
        noSuchCrew("tray of material 2", (row, crew) -> row.tray(crew, 2));
        for (int number = 0; number < 3; number++) {
            int crew = number;
            for (int material : new int[] {-1, 2, LEAST, MOST}) {
                refused(FULL, "tray of " + material, RANGE, row -> row.tray(crew, material));
            }
        }
    }

    private static void load() {
        noSuchCrew("load", (row, crew) -> row.load(crew, 0) ? 1 : 0);
        for (int number = 0; number < 3; number++) {
            int crew = number;
            noSuchLot("load " + crew, (row, lot) -> row.load(crew, lot) ? 1 : 0);
        }
    }

    private static void pass() {
        for (int hours : new int[] {0, -1, 101, LEAST, MOST}) {
            for (Scene scene : SCENES) {
                refused(scene, "pass of " + hours, RANGE, row -> row.pass(hours));
            }
        }
    }

    private static void ofCell() {
        noSuchPicture("ofCell", (row, picture) -> row.ofCell(picture, 0, 0, 0));
        noSuchCell("ofCell", (row, x, y) -> row.ofCell(0, x, y, 4));
        noSuchPicture("ofCell what 5", (row, picture) -> row.ofCell(picture, 0, 0, 5));
        noSuchCell("ofCell what -1", (row, x, y) -> row.ofCell(0, x, y, -1));
        for (int what : new int[] {-1, 5, LEAST, MOST}) {
            for (int x = 0; x < 4; x++) {
                int place = x;
                refused(ALL_KINDS, "ofCell " + x + " what " + what, RANGE,
                        row -> row.ofCell(0, place, 0, what));
            }
        }
    }

    private static void aimAnewAndEdge() {
        noSuchPicture("aimAnew", (row, picture) -> row.aimAnew(picture, 0, 0));
        noSuchCell("aimAnew", (row, x, y) -> row.aimAnew(0, x, y));
        noSuchPicture("edge", (row, picture) -> row.edge(picture));
    }

    private static void ofLotPictureAndCrew() {
        noSuchLot("ofLot", (row, lot) -> row.ofLot(lot, 0));
        noSuchLot("ofLot what 5", (row, lot) -> row.ofLot(lot, 5));
        noSuchPicture("ofPicture", (row, picture) -> row.ofPicture(picture, 0));
        noSuchPicture("ofPicture what 4", (row, picture) -> row.ofPicture(picture, 4));
        noSuchCrew("ofCrew", (row, crew) -> row.ofCrew(crew, 0));
        noSuchCrew("ofCrew what 4", (row, crew) -> row.ofCrew(crew, 4));
        for (int what : new int[] {-1, LEAST, MOST}) {
            refused(SOME, "ofLot what " + what, RANGE, row -> row.ofLot(2, what));
            refused(SOME, "ofPicture what " + what, RANGE, row -> row.ofPicture(1, what));
            refused(SOME, "ofCrew what " + what, RANGE, row -> row.ofCrew(2, what));
        }
        refused(SOME, "ofLot what 5", RANGE, row -> row.ofLot(0, 5));
        refused(SOME, "ofPicture what 4", RANGE, row -> row.ofPicture(0, 4));
        refused(SOME, "ofCrew what 4", RANGE, row -> row.ofCrew(0, 4));
    }
}
