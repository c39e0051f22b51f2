/** A mosaic workshop: lots of stones, pictures designed from them, and crews that lay the stones. */
public final class TesseraeRow {
    public static final int GLASS = 0, MARBLE = 1;
    public static final int OPEN = 0, PROMISED = 1, LAID = 2, OLD = 3;

    private static final int MOST_LOTS = 12;
    private static final int MOST_PICTURES = 5;
    private static final int CREWS = 3;
    private static final int TRAY_PLACES = 4;

    private final Lot[] lots = new Lot[MOST_LOTS];
    private final Picture[] pictures = new Picture[MOST_PICTURES];
    private final Crew[] crews = new Crew[CREWS];
    private int lotCount;
    private int pictureCount;
    private int now;

    public TesseraeRow() {
        for (int i = 0; i < crews.length; i++) {
            crews[i] = new Crew();
        }
    }

    // ---- lots, pictures

    public int lot(int hundredths, int many, int material, boolean isThere)
            throws IllegalArgumentException, IllegalStateException {
        needRange(hundredths, 0, 25500);
        needRange(many, 1, 500);
        needRange(material, GLASS, MARBLE);
        if (lotCount >= lots.length) {
            throw new IllegalStateException("there are 12 lots");
        }
        int number = lotCount;
        lots[number] = new Lot(number, (float) hundredths / 100f, many, material, isThere);
        lotCount++;
        return number;
    }

    public int comes(int lot) throws IndexOutOfBoundsException, IllegalStateException {
        Lot late = needLot(lot);
        if (late.isThere) {
            throw new IllegalStateException("the lot is there");
        }
        late.isThere = true;
        return late.left;
    }

    public int picture(int width, int height, int tone) throws IllegalArgumentException, IllegalStateException {
        needRange(width, 1, 8);
        needRange(height, 1, 8);
        needRange(tone, 0, 255);
        if (pictureCount >= pictures.length) {
            throw new IllegalStateException("there are 5 pictures");
        }
        int number = pictureCount;
        pictures[number] = new Picture(number, width, height, tone);
        pictureCount++;
        return number;
    }

    public int cell(int picture, int x, int y, int tone)
            throws IndexOutOfBoundsException, IllegalArgumentException, IllegalStateException {
        Cell place = needCell(picture, x, y);
        needRange(tone, 0, 255);
        if (place.isDone()) {
            throw new IllegalStateException("the cell is laid or old");
        }
        int before = place.wanted;
        place.wanted = tone;
        return before;
    }

    public int old(int picture, int x, int y, int tone)
            throws IndexOutOfBoundsException, IllegalArgumentException, IllegalStateException {
        Cell place = needCell(picture, x, y);
        needRange(tone, 0, 255);
        if (place.kind != OPEN) {
            throw new IllegalStateException("the cell is not open");
        }
        place.kind = OLD;
        place.wanted = tone;
        return needPicture(picture).count(OLD);
    }

    public int fill(int picture) throws IndexOutOfBoundsException {
        return needPicture(picture).fillGaps();
    }

    public int design(int picture) throws IndexOutOfBoundsException {
        Picture plan = needPicture(picture);
        plan.designFrom(lots);
        return plan.count(PROMISED);
    }

    public int share(int picture, int lot, int other) throws IndexOutOfBoundsException, IllegalArgumentException {
        Picture plan = needPicture(picture);
        Lot giver = needLot(lot);
        Lot taker = needLot(other);
        if (lot == other) {
            throw new IllegalArgumentException("both lots are the same");
        }
        return plan.giveOddCells(giver, taker);
    }

    // ---- crews

    public int send(int crew, int picture) throws IndexOutOfBoundsException {
        Crew sent = needCrew(crew);
        Picture goal = picture == -1 ? null : needPicture(picture);
        int before = sent.pictureNumber();
        sent.at = goal;
        return before;
    }

    public int crew(int crew, int rate, int dry) throws IndexOutOfBoundsException, IllegalArgumentException {
        Crew changed = needCrew(crew);
        needRange(rate, 1, 9);
        needRange(dry, 0, 9);
        int before = changed.rate;
        changed.rate = rate;
        changed.dry = dry;
        return before;
    }

    public int tray(int crew, int material) throws IndexOutOfBoundsException, IllegalArgumentException {
        Crew given = needCrew(crew);
        needRange(material, GLASS, MARBLE);
        int before = given.onTray;
        given.material = material;
        given.onTray = 0;
        return before;
    }

    public boolean load(int crew, int lot) throws IndexOutOfBoundsException {
        Crew loading = needCrew(crew);
        return loading.takeOnTray(needLot(lot));
    }

    public int pass(int hours) throws IllegalArgumentException {
        needRange(hours, 1, 100);
        int laid = 0;
        for (int i = 0; i < hours; i++) {
            now++;
            for (int k = 0; k < CREWS; k++) {
                laid += needCrew(k).layFor(now);
            }
        }
        return laid;
    }

    // ---- what there is; nothing from here on changes anything

    public int hour() {
        return now;
    }

    public int ofCell(int picture, int x, int y, int what)
            throws IndexOutOfBoundsException, IllegalArgumentException {
        Cell place = needCell(picture, x, y);
        needRange(what, 0, 4);
        switch (what) {
            case 0:
                return place.kind;
            case 1:
                return place.lot == null ? -1 : place.lot.number;
            case 2:
                return place.wanted;
            case 3:
                return bitsOf(place.aim);
            default:
                return place.kind == LAID ? place.laidAt : -1;
        }
    }

    public int aimAnew(int picture, int x, int y) throws IndexOutOfBoundsException {
        Cell place = needCell(picture, x, y);
        return bitsOf(needPicture(picture).aimByNow(place));
    }

    public int edge(int picture) throws IndexOutOfBoundsException {
        return bitsOf(needPicture(picture).greatestEdge());
    }

    public int ofLot(int lot, int what) throws IndexOutOfBoundsException, IllegalArgumentException {
        Lot told = needLot(lot);
        needRange(what, 0, 4);
        switch (what) {
            case 0:
                return told.left;
            case 1:
                return told.promised;
            case 2:
                return told.laid;
            case 3:
                return told.isThere ? 1 : 0;
            default:
                return bitsOf(told.tone);
        }
    }

    public int ofPicture(int picture, int what) throws IndexOutOfBoundsException, IllegalArgumentException {
        Picture told = needPicture(picture);
        needRange(what, OPEN, OLD);
        return told.count(what);
    }

    public int ofCrew(int crew, int what) throws IndexOutOfBoundsException, IllegalArgumentException {
        Crew told = needCrew(crew);
        needRange(what, 0, 3);
        switch (what) {
            case 0:
                return told.pictureNumber();
            case 1:
                return told.material;
            case 2:
                return told.onTray;
            default:
                return told.laid;
        }
    }

    // ---- what calls need

    private static void needRange(int value, int least, int most) {
        if (value < least || value > most) {
            throw new IllegalArgumentException("out of range");
        }
    }

    private Lot needLot(int number) {
        Lot found = number >= 0 && number < lots.length ? lots[number] : null;
        if (found == null) {
            throw new IndexOutOfBoundsException("no such lot");
        }
        return found;
    }

    private Picture needPicture(int number) {
        Picture found = number >= 0 && number < pictures.length ? pictures[number] : null;
        if (found == null) {
            throw new IndexOutOfBoundsException("no such picture");
        }
        return found;
    }

    private Cell needCell(int picture, int x, int y) {
        Cell found = needPicture(picture).cellAt(x, y);
        if (found == null) {
            throw new IndexOutOfBoundsException("no such cell");
        }
        return found;
    }

    private Crew needCrew(int number) {
        Crew found = number >= 0 && number < crews.length ? crews[number] : null;
        if (found == null) {
            throw new IndexOutOfBoundsException("no such crew");
        }
        return found;
    }

    /**
     * The bits of a float by arithmetic, since LANGUAGE.md leaves no library for it. Each step is exact.
     * A zero here is never a negative one: sums that start at 0 do not become it.
     */
    private static int bitsOf(float value) {
        if (value == 0f) {
            return 0;
        }
        float size = value < 0f ? -value : value;
        int exponent = 127;
        for (; exponent < 254 && size >= 2f; exponent++) {
            size = size * 0.5f;
        }
        for (; exponent > 1 && size < 1f; exponent--) {
            size = size * 2f;
        }
        // The leading one of a normal float counts 1 in the exponent's place, so the exponent goes in less 1.
        int bits = ((exponent - 1) << 23) + (int) (size * 8388608f);
        return value < 0f ? bits | (1 << 31) : bits;
    }

    private static final class Lot {
        final int number;
        final float tone;
        final int material;
        boolean isThere;
        int left;
        int promised;
        int laid;

        Lot(int number, float tone, int many, int material, boolean isThere) {
            this.number = number;
            this.tone = tone;
            this.left = many;
            this.material = material;
            this.isThere = isThere;
        }

        boolean canPromise() {
            return isThere && left > 0;
        }
    }

    private static final class Cell {
        final int x;
        final int y;
        int kind = OPEN;
        /** The lot of a PROMISED or LAID cell, otherwise null. */
        Lot lot;
        int wanted;
        float aim;
        /** Only of use within one walk through the cells. */
        float brought;
        /** The round of a filling in which the cell got its tone; -1 as long as it has none. */
        int round;
        int laidAt;
        int dryAt;

        Cell(int x, int y, int wanted) {
            this.x = x;
            this.y = y;
            this.wanted = wanted;
        }

        boolean isDone() {
            return kind == LAID || kind == OLD;
        }

        boolean isPromised(Lot one) {
            return kind == PROMISED && lot == one;
        }

        void promise(Lot one) {
            kind = PROMISED;
            lot = one;
            one.left--;
            one.promised++;
        }

        void takeBack() {
            if (kind == PROMISED && lot != null) {
                lot.promised--;
                lot.left++;
                lot = null;
                kind = OPEN;
            }
        }

        void lay(int hour, int dryHours) {
            if (kind == PROMISED && lot != null) {
                lot.promised--;
                lot.laid++;
                kind = LAID;
                laidAt = hour;
                dryAt = hour + dryHours;
            }
        }

        float stoneTone() {
            return lot == null ? (float) wanted : lot.tone;
        }

        /** OPEN and OLD cells have no lot. */
        float lackBehind(float someAim) {
            return lot == null ? 0f : someAim - lot.tone;
        }

        void bring(float lack) {
            brought = brought + lack;
        }
    }

    private static final class Picture {
        final int number;
        final int width;
        final int height;
        final Cell[] cells;

        Picture(int number, int width, int height, int tone) {
            this.number = number;
            this.width = width;
            this.height = height;
            cells = new Cell[width * height];
            int x = 0;
            int y = 0;
            for (int place = 0; place < cells.length; place++) {
                cells[place] = new Cell(x, y, tone);
                x++;
                if (x == width) {
                    x = 0;
                    y++;
                }
            }
        }

        Cell cellAt(int x, int y) {
            if (x < 0 || x >= width || y < 0 || y >= height) {
                return null;
            }
            return cells[y * width + x];
        }

        int count(int kind) {
            int many = 0;
            for (Cell cell : cells) {
                if (cell.kind == kind) {
                    many++;
                }
            }
            return many;
        }

        // ---- designs

        void designFrom(Lot[] lots) {
            for (Cell cell : cells) {
                cell.takeBack();
            }
            forgetBrought();
            for (Cell cell : cells) {
                cell.aim = (float) cell.wanted + cell.brought;
                if (cell.kind == OPEN) {
                    promiseNearest(cell, lots);
                }
                passOn(cell, cell.lackBehind(cell.aim));
            }
        }

        float aimByNow(Cell goal) {
            forgetBrought();
            for (Cell cell : cells) {
                float aim = (float) cell.wanted + cell.brought;
                if (cell == goal) {
                    return aim;
                }
                passOn(cell, cell.lackBehind(aim));
            }
            return 0f;
        }

        private void forgetBrought() {
            for (Cell cell : cells) {
                cell.brought = 0f;
            }
        }

        private static void promiseNearest(Cell cell, Lot[] lots) {
            Lot nearest = null;
            float least = 0f;
            for (Lot lot : lots) {
                if (lot != null && lot.canPromise()) {
                    float far = distance(cell.aim, lot.tone);
                    if (nearest == null || far < least) {
                        nearest = lot;
                        least = far;
                    }
                }
            }
            if (nearest != null) {
                cell.promise(nearest);
            }
        }

        private static float distance(float one, float other) {
            float apart = one - other;
            return apart < 0f ? -apart : apart;
        }

        private void passOn(Cell from, float lack) {
            if (lack != 0f) {
                bringTo(from.x + 1, from.y, lack * 0.4375f);
                bringTo(from.x - 1, from.y + 1, lack * 0.1875f);
                bringTo(from.x, from.y + 1, lack * 0.3125f);
                bringTo(from.x + 1, from.y + 1, lack * 0.0625f);
            }
        }

        private void bringTo(int x, int y, float part) {
            Cell to = cellAt(x, y);
            if (to != null) {
                to.bring(part);
            }
        }

        int giveOddCells(Lot giver, Lot taker) {
            int given = 0;
            for (Cell cell : cells) {
                if (cell.isPromised(giver) && (cell.x + cell.y) % 2 == 1 && taker.canPromise()) {
                    cell.takeBack();
                    cell.promise(taker);
                    given++;
                }
            }
            return given;
        }

        // ---- old pavements

        int fillGaps() {
            for (Cell cell : cells) {
                cell.round = cell.isDone() ? 0 : -1;
            }
            int filled = 0;
            // Each round but the last fills a cell at least, so there are no more rounds than cells.
            for (int round = 1; round <= cells.length; round++) {
                int more = fillRound(round);
                if (more == 0) {
                    break;
                }
                filled += more;
            }
            return filled;
        }

        private int fillRound(int round) {
            int filled = 0;
            for (Cell cell : cells) {
                if (cell.round < 0 && fillCell(cell, round)) {
                    filled++;
                }
            }
            return filled;
        }

        private boolean fillCell(Cell cell, int round) {
            float sum = 0f;
            int many = 0;
            for (int y = cell.y - 1; y <= cell.y + 1; y++) {
                for (int x = cell.x - 1; x <= cell.x + 1; x++) {
                    Cell beside = cellAt(x, y);
                    if (beside != null && beside.round >= 0 && beside.round < round) {
                        sum = sum + (float) beside.wanted;
                        many++;
                    }
                }
            }
            if (many == 0) {
                return false;
            }
            cell.wanted = (int) (sum / (float) many);
            cell.round = round;
            return true;
        }

        // ---- what is laid

        Cell firstUndone() {
            for (Cell cell : cells) {
                if (!cell.isDone()) {
                    return cell;
                }
            }
            return null;
        }

        /** A row of OLD stones alone, and none at all, is dry. */
        boolean isDryRow(int y, int hour) {
            Cell latest = null;
            for (int x = 0; x < width; x++) {
                Cell cell = cellAt(x, y);
                if (cell != null) {
                    if (!cell.isDone()) {
                        return false;
                    }
                    if (cell.kind == LAID && (latest == null || cell.laidAt >= latest.laidAt)) {
                        latest = cell;
                    }
                }
            }
            return latest == null || hour >= latest.dryAt;
        }

        float greatestEdge() {
            float greatest = 0f;
            for (Cell cell : cells) {
                float right = edgeBetween(cell, cellAt(cell.x + 1, cell.y));
                float below = edgeBetween(cell, cellAt(cell.x, cell.y + 1));
                float greater = right >= below ? right : below;
                if (greater > greatest) {
                    greatest = greater;
                }
            }
            return greatest;
        }

        private static float edgeBetween(Cell first, Cell second) {
            if (second == null || first.kind == OPEN || second.kind == OPEN) {
                return 0f;
            }
            float ofStones = first.stoneTone() - second.stoneTone();
            float ofWanted = (float) first.wanted - (float) second.wanted;
            return distance(ofStones, ofWanted);
        }
    }

    private static final class Crew {
        int rate = 1;
        int dry = 1;
        /** Null for no picture. */
        Picture at;
        int material = GLASS;
        final Lot[] tray = new Lot[TRAY_PLACES];
        int onTray;
        int laid;

        int pictureNumber() {
            return at == null ? -1 : at.number;
        }

        boolean hasOnTray(Lot lot) {
            for (int i = 0; i < onTray && i < tray.length; i++) {
                if (tray[i] == lot) {
                    return true;
                }
            }
            return false;
        }

        boolean takeOnTray(Lot lot) {
            if (hasOnTray(lot)) {
                return true;
            }
            if (lot.material != material || onTray < 0 || onTray >= tray.length) {
                return false;
            }
            tray[onTray] = lot;
            onTray++;
            return true;
        }

        int layFor(int hour) {
            int done = 0;
            while (done < rate && layNext(hour)) {
                done++;
            }
            laid += done;
            return done;
        }

        private boolean layNext(int hour) {
            if (at == null) {
                return false;
            }
            Cell next = at.firstUndone();
            if (next == null || next.kind != PROMISED || !hasOnTray(next.lot) || !at.isDryRow(next.y - 1, hour)) {
                return false;
            }
            next.lay(hour, dry);
            return true;
        }
    }
}
