/**
 * The curtain of a theatre that is mended by whoever it showed too soon, out of what he had on.
 * ../shared/DOC.md says what every call answers; the words used here are the document's.
 *
 * All rows are made in the constructor and used again, so that no call makes an object.
 */
public final class BaredCurtain {
    public static final int NONE = -1, UNKNOWN = -1000000001, OUTSIDE = -1000000002, NOT = -1000000003, FULL = -1000000004;

    private static final int MOST_COLUMNS = 5;
    private static final int MOST_ROWS = 4;
    private static final int MOST_CELLS = 20;
    private static final int CLOTHS = 5;
    private static final int MOST_ACTORS = 5;
    private static final int MOST_TALL = 4;
    private static final int MOST_PIECES = 9;
    private static final int MOST_LETTERS = 240;
    private static final int MOST_UNDONE = 20;
    private static final int IMAGES = 2;
    private static final int MOST_SEEN = 6;
    private static final int MOST_ENTRIES = 15;
    private static final int MOST_SEWN = 8;
    private static final int MOST_TAILORS = 3;
    private static final int MOST_NIGHTS = 20;
    private static final int MOST_NIGHTS_WHOLE = 40;
    private static final int LAST_NIGHT = 9000;
    private static final int MOST_LATE = 99;
    private static final int MOST_THREADS = 60;
    private static final int BILLION = 1000000000;

    private final House house = new House();
    private final Scene scene = new Scene();
    private final Scene trial = new Scene();
    private final Reader reader = new Reader();
    private final History history = new History();
    private final Images images = new Images();
    private final Notes notes = new Notes();
    private final Placing placing = new Placing();
    private final Sewing tailors = new Sewing();
    private int latestFault = NONE;
    private int drawn = 0;

    public BaredCurtain() {
    }

    // ---- the house

    public int feed(int letter) {
        if (letter < 0 || letter > 255) {
            return OUTSIDE;
        }
        return reader.append(letter) ? reader.length : FULL;
    }

    public int house() {
        int fault = reader.read();
        latestFault = reader.faultAt;
        reader.empty();
        if (fault != 0) {
            return -10 - fault;
        }
        house.become(reader.house);
        scene.become(reader.scene);
        notes.clear();
        history.clear();
        images.clear();
        return house.actors;
    }

    public int fault() {
        return latestFault;
    }

    public int told(int what) {
        switch (what) {
            case 0: return house.width;
            case 1: return house.rows;
            case 2: return house.actors;
            case 3: return reader.length;
            case 4: return scene.nights();
            case 5: return scene.holes();
            case 6: return scene.shownNow(house);
            case 7: return scene.baredInAll();
            case 8: return scene.late(house);
            case 9: return scene.leansNow(house) + 100;
            case 10: return notes.seen;
            case 11: return notes.entries;
            case 12: return history.size;
            default: return OUTSIDE;
        }
    }

    public int cell(int c, int what) {
        if (!house.hasCell(c)) {
            return UNKNOWN;
        }
        switch (what) {
            case 0: return scene.clothAt(c);
            case 1: return hasBit(scene.holes(), c) ? 1 : 0;
            case 2: return scene.patchesAt(c);
            case 3: return house.hangsIn(c, scene.leansNow(house)) + 100;
            default: return OUTSIDE;
        }
    }

    public int cloth(int k, int what) {
        if (!isCloth(k)) {
            return UNKNOWN;
        }
        switch (what) {
            case 0: return house.weightOf(k);
            case 1: return house.likingOf(k);
            case 2: return house.minutesOf(k);
            default: return OUTSIDE;
        }
    }

    public int actor(int a, int what) {
        if (!house.hasActor(a)) {
            return UNKNOWN;
        }
        switch (what) {
            case 0: return scene.columnOf(a);
            case 1: return house.heightOf(a);
            case 2: return scene.wornBy(a);
            case 3: return scene.piecesOf(a);
            case 4: return scene.baredOf(a);
            default: return OUTSIDE;
        }
    }

    // ---- what is done

    public int night(int n) {
        int refusal = refusalOfNights(n);
        if (refusal != 0) {
            return refusal;
        }
        history.remember(scene);
        int shown = 0;
        for (int i = 0; i < n; i++) {
            shown = scene.playNight(house);
        }
        return shown;
    }

    public int cut(int c) {
        if (!house.hasCell(c)) {
            return UNKNOWN;
        }
        if (hasBit(scene.holes(), c)) {
            return NOT;
        }
        history.remember(scene);
        scene.open(c);
        return Integer.bitCount(scene.holes());
    }

    public int go(int a, int x) {
        if (!house.hasActor(a) || !house.hasColumn(x)) {
            return UNKNOWN;
        }
        history.remember(scene);
        int was = scene.columnOf(a);
        scene.place(a, x);
        return was;
    }

    public int dress(int a, int k, int n) {
        if (!house.hasActor(a) || !isCloth(k)) {
            return UNKNOWN;
        }
        if (!isWithin(n, 0, MOST_PIECES)) {
            return OUTSIDE;
        }
        history.remember(scene);
        int had = scene.piecesOf(a);
        scene.clothe(a, k, n);
        return had;
    }

    public int drift(int n) {
        int refusal = refusalOfNights(n);
        if (refusal != 0) {
            return refusal;
        }
        history.remember(scene);
        for (int i = 0; i < n; i++) {
            letMothsIn();
            scene.playNight(house);
        }
        return scene.holes();
    }

    public int undo() {
        return history.takeBack(scene) ? history.size : NOT;
    }

    // ---- tried

    public int who(int n) {
        if (!isWithin(n, 0, MOST_NIGHTS)) {
            return OUTSIDE;
        }
        trial.become(scene);
        for (int i = 0; i < n; i++) {
            trial.playNight(house);
        }
        return trial.shownNow(house);
    }

    public int wholeBy() {
        trial.become(scene);
        for (int n = 0; n <= MOST_NIGHTS_WHOLE; n++) {
            if (trial.holes() == 0) {
                return n;
            }
            trial.playNight(house);
        }
        return NONE;
    }

    public int stands(int a, int n, int i) {
        if (!house.hasActor(a) || (i != NONE && !house.hasActor(i))) {
            return UNKNOWN;
        }
        if (!isWithin(n, 1, MOST_NIGHTS)) {
            return OUTSIDE;
        }
        placing.search(house, scene, a, n);
        if (i == NONE || placing.fewest == NONE) {
            return placing.fewest;
        }
        return at(placing.best, i);
    }

    public int hidden() {
        int leans = scene.leansNow(house);
        int set = 0;
        for (int c = 0; c < house.cells(); c++) {
            if (hasBit(scene.holes(), c) && !isWithin(house.hangsIn(c, leans), 0, MOST_ROWS - 1)) {
                set |= 1 << c;
            }
        }
        return set;
    }

    public int cannot() {
        int set = 0;
        for (int x = 0; x < house.width; x++) {
            if (scene.lowestHole(house, x) != NONE && !scene.isManned(house, x)) {
                set |= 1 << x;
            }
        }
        return set;
    }

    public int sewing(int k) {
        if (!isWithin(k, 1, MOST_TAILORS)) {
            return OUTSIDE;
        }
        if (Integer.bitCount(scene.holes()) > MOST_SEWN) {
            return NOT;
        }
        tailors.take(house, scene);
        return tailors.fewestMinutes(k);
    }

    public int least(int k, int t) {
        if (!isCloth(k)) {
            return UNKNOWN;
        }
        if (!isWithin(t, 0, MOST_LATE)) {
            return OUTSIDE;
        }
        int weight = scene.weight(house);
        int holes = Integer.bitCount(scene.holes());
        for (int pieces = 0; pieces <= holes; pieces++) {
            if (lateBy(weight + pieces * house.weightOf(k)) >= t) {
                return pieces;
            }
        }
        return NONE;
    }

    public int moths() {
        int most = 0;
        int set = 0;
        for (int c = 0; c < house.cells(); c++) {
            int liking = hasBit(scene.holes(), c) ? 0 : house.likingOf(scene.clothAt(c));
            if (liking > most) {
                most = liking;
                set = 0;
            }
            if (liking > 0 && liking == most) {
                set |= 1 << c;
            }
        }
        return set;
    }

    public int thread(int n, int q) {
        if (!isWithin(n, 0, MOST_THREADS) || !isWithin(q, 0, 100)) {
            return OUTSIDE;
        }
        long odds = BILLION;
        for (int i = 0; i < n; i++) {
            odds = odds * (100 - q) / 100;
        }
        return (int) odds;
    }

    // ---- what is seen

    public int see(int a, boolean shown) {
        if (!house.hasActor(a)) {
            return UNKNOWN;
        }
        return notes.addSeen(a, shown) ? notes.seen : FULL;
    }

    public int wasCut() {
        int set = 0;
        for (int c = 0; c < house.cells(); c++) {
            if (notes.fitCut(house, scene, c)) {
                set |= 1 << c;
            }
        }
        return set;
    }

    public int watch() {
        int cuts = wasCut();
        int best = NONE;
        int leastPart = Integer.bitCount(cuts);
        for (int a = 0; a < house.actors; a++) {
            int part = greatestPart(a, cuts);
            if (part < leastPart) {
                leastPart = part;
                best = a;
            }
        }
        return best;
    }

    public int write(int a, int pieces) {
        if (!house.hasActor(a)) {
            return UNKNOWN;
        }
        if (!isWithin(pieces, 0, MOST_PIECES)) {
            return OUTSIDE;
        }
        return notes.addEntry(a, pieces) ? notes.entries : FULL;
    }

    public int tear() {
        int had = notes.seen + notes.entries;
        notes.clear();
        return had;
    }

    public int judge() {
        return notes.firstWrong(scene);
    }

    // ---- draws, images

    public int seed(int v) {
        if (v < 0) {
            return OUTSIDE;
        }
        int was = drawn;
        drawn = v;
        return was;
    }

    public int keep(int i) {
        if (!isWithin(i, 0, IMAGES - 1)) {
            return UNKNOWN;
        }
        images.store(i, scene, drawn);
        history.clear();
        return 1;
    }

    public int goBack(int i) {
        if (!isWithin(i, 0, IMAGES - 1)) {
            return UNKNOWN;
        }
        if (!images.isStored(i)) {
            return NOT;
        }
        images.fetch(i, scene);
        drawn = images.seedOf(i);
        history.clear();
        return 1;
    }

    // ---- what several calls share

    private int refusalOfNights(int n) {
        if (!isWithin(n, 1, MOST_NIGHTS)) {
            return OUTSIDE;
        }
        if (house.cells() == 0) {
            return NOT;
        }
        return scene.nights() > LAST_NIGHT ? FULL : 0;
    }

    /** Both draws are made even where there is a hole already: the seed goes on by two each night. */
    private void letMothsIn() {
        int c = draw(house.cells());
        int appetite = draw(10);
        if (appetite < house.likingOf(scene.clothAt(c))) {
            scene.open(c);
        }
    }

    private int draw(int n) {
        drawn = (int) ((drawn * 1103515245L + 12345L) & 0x7fffffffL);
        return n > 0 ? drawn / 65536 % n : 0;
    }

    /** How many of the cells are alike to one who watches the actor, at the worse of both answers. */
    private int greatestPart(int a, int cells) {
        int shown = 0;
        for (int c = 0; c < house.cells(); c++) {
            if (hasBit(cells, c) && scene.isShownByLone(house, a, c)) {
                shown++;
            }
        }
        return Math.max(shown, Integer.bitCount(cells) - shown);
    }

    private static boolean isWithin(int value, int low, int high) {
        return value >= low && value <= high;
    }

    private static boolean isCloth(int k) {
        return k >= 0 && k < CLOTHS;
    }

    private static boolean hasBit(int set, int k) {
        return k >= 0 && k < 31 && (set >> k & 1) == 1;
    }

    private static int lateBy(int weight) {
        return weight / 50;
    }

    /** A row's entry, 0 where the row has none: so no index can fail, wherever it came from. */
    private static int at(int[] row, int i) {
        return i >= 0 && i < row.length ? row[i] : 0;
    }

    private static void put(int[] row, int i, int value) {
        if (i >= 0 && i < row.length) {
            row[i] = value;
        }
    }

    /** What the text tells and nothing changes until the next text. */
    private static final class House {
        private static final int WEIGHT_UNTOLD = 10;
        private static final int LIKING_UNTOLD = 0;
        private static final int MINUTES_UNTOLD = 5;

        int width = 0;
        int rows = 0;
        int actors = 0;
        private final int[] weights = new int[CLOTHS];
        private final int[] likings = new int[CLOTHS];
        private final int[] minutes = new int[CLOTHS];
        private final int[] heights = new int[MOST_ACTORS];

        House() {
            clear();
        }

        void clear() {
            width = 0;
            rows = 0;
            actors = 0;
            for (int k = 0; k < CLOTHS; k++) {
                tellCloth(k, WEIGHT_UNTOLD, LIKING_UNTOLD, MINUTES_UNTOLD);
            }
            for (int a = 0; a < MOST_ACTORS; a++) {
                tellHeight(a, 0);
            }
        }

        void become(House other) {
            width = other.width;
            rows = other.rows;
            actors = other.actors;
            for (int k = 0; k < CLOTHS; k++) {
                tellCloth(k, other.weightOf(k), other.likingOf(k), other.minutesOf(k));
            }
            for (int a = 0; a < MOST_ACTORS; a++) {
                tellHeight(a, other.heightOf(a));
            }
        }

        void tellCloth(int k, int weight, int liking, int minutesSewn) {
            put(weights, k, weight);
            put(likings, k, liking);
            put(minutes, k, minutesSewn);
        }

        void tellHeight(int a, int height) {
            put(heights, a, height);
        }

        int weightOf(int k) {
            return k >= 0 && k < CLOTHS ? weights[k] : 0;
        }

        int likingOf(int k) {
            return k >= 0 && k < CLOTHS ? likings[k] : 0;
        }

        int minutesOf(int k) {
            return k >= 0 && k < CLOTHS ? minutes[k] : 0;
        }

        int heightOf(int a) {
            return a >= 0 && a < MOST_ACTORS ? heights[a] : 0;
        }

        int cells() {
            return width * rows;
        }

        boolean hasCell(int c) {
            return isWithin(c, 0, cells() - 1);
        }

        boolean hasColumn(int x) {
            return isWithin(x, 0, width - 1);
        }

        boolean hasActor(int a) {
            return isWithin(a, 0, actors - 1);
        }

        int cellAt(int x, int g) {
            return g * width + x;
        }

        int columnOfCell(int c) {
            return width > 0 ? c % width : 0;
        }

        int rowOfCell(int c) {
            return width > 0 ? c / width : 0;
        }

        /** -1 left of the middle, 0 in it, 1 right of it: so many LEANS higher it hangs. */
        int sideOf(int x) {
            return Integer.compare(2 * x, width - 1);
        }

        int hangsIn(int c, int leans) {
            return rowOfCell(c) + sideOf(columnOfCell(c)) * leans;
        }

        /** In how many ways all can stand. */
        int placings() {
            int ways = 1;
            for (int a = 0; a < actors; a++) {
                ways *= width;
            }
            return ways;
        }
    }

    /** All of the document's section 2, in one row, so that it is kept and tried by one copy. */
    private static final class Scene {
        private static final int HOLES_AT = 0;
        private static final int NIGHTS_AT = 1;
        private static final int CLOTH_AT = 2;
        private static final int PATCHES_AT = CLOTH_AT + MOST_CELLS;
        private static final int COLUMN_AT = PATCHES_AT + MOST_CELLS;
        private static final int WORN_AT = COLUMN_AT + MOST_ACTORS;
        private static final int PIECES_AT = WORN_AT + MOST_ACTORS;
        private static final int BARED_AT = PIECES_AT + MOST_ACTORS;
        static final int SIZE = BARED_AT + MOST_ACTORS;

        final int[] row = new int[SIZE];

        void clear() {
            for (int i = 0; i < row.length; i++) {
                row[i] = 0;
            }
        }

        void become(Scene other) {
            System.arraycopy(other.row, 0, row, 0, SIZE);
        }

        int holes() {
            return row[HOLES_AT];
        }

        int nights() {
            return row[NIGHTS_AT];
        }

        int clothAt(int c) {
            return c >= 0 && c < MOST_CELLS ? row[CLOTH_AT + c] : 0;
        }

        int patchesAt(int c) {
            return c >= 0 && c < MOST_CELLS ? row[PATCHES_AT + c] : 0;
        }

        int columnOf(int a) {
            return a >= 0 && a < MOST_ACTORS ? row[COLUMN_AT + a] : 0;
        }

        int wornBy(int a) {
            return a >= 0 && a < MOST_ACTORS ? row[WORN_AT + a] : 0;
        }

        int piecesOf(int a) {
            return a >= 0 && a < MOST_ACTORS ? row[PIECES_AT + a] : 0;
        }

        int baredOf(int a) {
            return a >= 0 && a < MOST_ACTORS ? row[BARED_AT + a] : 0;
        }

        int baredInAll() {
            int sum = 0;
            for (int a = 0; a < MOST_ACTORS; a++) {
                sum += baredOf(a);
            }
            return sum;
        }

        void hangAllOf(int k) {
            for (int c = 0; c < MOST_CELLS; c++) {
                row[CLOTH_AT + c] = k;
            }
        }

        void open(int c) {
            if (c >= 0 && c < MOST_CELLS) {
                row[HOLES_AT] |= 1 << c;
            }
        }

        void place(int a, int x) {
            if (a >= 0 && a < MOST_ACTORS) {
                row[COLUMN_AT + a] = x;
            }
        }

        void clothe(int a, int k, int pieces) {
            if (a >= 0 && a < MOST_ACTORS) {
                row[WORN_AT + a] = k;
                row[PIECES_AT + a] = pieces;
            }
        }

        /** The weight of all cells that are no holes. */
        int weight(House house) {
            int sum = 0;
            for (int c = 0; c < house.cells(); c++) {
                sum += hasBit(holes(), c) ? 0 : house.weightOf(clothAt(c));
            }
            return sum;
        }

        int late(House house) {
            return lateBy(weight(house));
        }

        /** LEANS, if just these cells were holes: what was cut is asked of other holes than there are. */
        int leansWith(House house, int holes) {
            int balance = 0;
            for (int x = 0; x < house.width; x++) {
                int weight = 0;
                for (int g = 0; g < house.rows; g++) {
                    int c = house.cellAt(x, g);
                    weight += hasBit(holes, c) ? 0 : house.weightOf(clothAt(c));
                }
                balance -= house.sideOf(x) * weight;
            }
            return balance / 100;
        }

        int leansNow(House house) {
            return leansWith(house, holes());
        }

        int shownNow(House house) {
            int leans = leansWith(house, holes());
            int set = 0;
            for (int a = 0; a < house.actors; a++) {
                if (isShown(house, a, holes(), leans)) {
                    set |= 1 << a;
                }
            }
            return set;
        }

        boolean isShownByLone(House house, int a, int c) {
            int lone = isWithin(c, 0, MOST_CELLS - 1) ? 1 << c : 0;
            return isShown(house, a, lone, leansWith(house, lone));
        }

        /** One night; answers who was shown. Who is shown is settled before the first one mends. */
        int playNight(House house) {
            int shown = shownNow(house);
            for (int a = 0; a < house.actors; a++) {
                if (hasBit(shown, a)) {
                    mendOrBare(house, a);
                }
            }
            row[NIGHTS_AT]++;
            return shown;
        }

        /** The least cell of a column that has a hole; NONE. */
        int lowestHole(House house, int x) {
            for (int g = 0; g < house.rows; g++) {
                if (hasBit(holes(), house.cellAt(x, g))) {
                    return house.cellAt(x, g);
                }
            }
            return NONE;
        }

        /** Whether somebody who has a piece on stands behind the column. */
        boolean isManned(House house, int x) {
            for (int a = 0; a < house.actors; a++) {
                if (columnOf(a) == x && piecesOf(a) > 0) {
                    return true;
                }
            }
            return false;
        }

        private boolean isShown(House house, int a, int holes, int leans) {
            int x = columnOf(a);
            int higher = house.sideOf(x) * leans;
            for (int g = 0; g < house.rows; g++) {
                if (hasBit(holes, house.cellAt(x, g)) && isWithin(g + higher, 0, house.heightOf(a) - 1)) {
                    return true;
                }
            }
            return false;
        }

        /** Who has none on is bared, even if another one has mended his column's last hole this night. */
        private void mendOrBare(House house, int a) {
            if (a < 0 || a >= MOST_ACTORS) {
                return;
            }
            if (piecesOf(a) < 1) {
                row[BARED_AT + a]++;
                return;
            }
            int c = lowestHole(house, columnOf(a));
            if (c != NONE) {
                patch(c, wornBy(a));
                row[PIECES_AT + a]--;
            }
        }

        private void patch(int c, int k) {
            if (c >= 0 && c < MOST_CELLS) {
                row[HOLES_AT] &= ~(1 << c);
                row[CLOTH_AT + c] = k;
                row[PATCHES_AT + c]++;
            }
        }
    }

    /** The text, and how it becomes a house: read into rows of its own, so that a fault changes nothing. */
    private static final class Reader {
        private static final int CANNOT_STAND = 1;
        private static final int WRONG_NUMBER = 2;
        private static final int ONE_TOO_MANY = 3;
        private static final int TOLD_AGAIN = 4;
        private static final int MOST_FIGURES = 3;

        final House house = new House();
        final Scene scene = new Scene();
        int length = 0;
        int faultAt = NONE;
        private final int[] letters = new int[MOST_LETTERS];
        private int next = 0;
        private int faultKind = 0;
        private int toldCloths = 0;
        private int numberAt = 0;

        boolean append(int letter) {
            if (length >= MOST_LETTERS) {
                return false;
            }
            put(letters, length, letter);
            length++;
            return true;
        }

        void empty() {
            length = 0;
        }

        /** The number of the fault, 0 if there is none. */
        int read() {
            house.clear();
            scene.clear();
            next = 0;
            faultAt = NONE;
            faultKind = 0;
            toldCloths = 0;
            skipBlanks();
            for (int clause = 0; clause < MOST_LETTERS && next < length && faultKind == 0; clause++) {
                readClause(clause == 0);
                skipBlanks();
            }
            return faultKind;
        }

        private void readClause(boolean first) {
            int word = letter();
            if (first && word != 'k') {
                fail(CANNOT_STAND, next);
                return;
            }
            switch (word) {
                case 'k': readCurtain(first); break;
                case 'c': readCloth(); break;
                case 'h': readHole(); break;
                case 'a': readActor(); break;
                default: fail(CANNOT_STAND, next); break;
            }
        }

        private void readCurtain(boolean first) {
            if (!first) {
                fail(ONE_TOO_MANY, next);
                return;
            }
            next++;
            int width = number(1, MOST_COLUMNS);
            int rows = number(1, MOST_ROWS);
            int k = number(0, CLOTHS - 1);
            readEnd();
            house.width = width;
            house.rows = rows;
            scene.hangAllOf(k);
        }

        private void readCloth() {
            next++;
            int k = number(0, CLOTHS - 1);
            if (hasBit(toldCloths, k)) {
                fail(TOLD_AGAIN, numberAt);
            }
            int weight = number(0, 99);
            int liking = number(0, 9);
            int minutes = number(1, 60);
            readEnd();
            toldCloths |= 1 << k;
            house.tellCloth(k, weight, liking, minutes);
        }

        private void readHole() {
            next++;
            int c = number(0, house.cells() - 1);
            if (hasBit(scene.holes(), c)) {
                fail(TOLD_AGAIN, numberAt);
            }
            readEnd();
            scene.open(c);
        }

        private void readActor() {
            int a = house.actors;
            if (a >= MOST_ACTORS) {
                fail(ONE_TOO_MANY, next);
                return;
            }
            next++;
            int x = number(0, house.width - 1);
            int height = number(1, MOST_TALL);
            int k = number(0, CLOTHS - 1);
            int pieces = number(0, MOST_PIECES);
            readEnd();
            house.actors = a + 1;
            house.tellHeight(a, height);
            scene.place(a, x);
            scene.clothe(a, k, pieces);
        }

        /** A number within its bounds; low, if there is a fault: then all that was read is left unused. */
        private int number(int low, int high) {
            skipBlanks();
            numberAt = next;
            if (!isFigure(letter())) {
                fail(CANNOT_STAND, next);
                return low;
            }
            int value = 0;
            for (int i = next; i < length && isFigure(letter()); i++) {
                value = Math.min(value * 10 + letter() - '0', 1000);
                next++;
            }
            if (next - numberAt > MOST_FIGURES || !isWithin(value, low, high)) {
                fail(WRONG_NUMBER, numberAt);
                return low;
            }
            return value;
        }

        private void readEnd() {
            skipBlanks();
            if (letter() == ';') {
                next++;
            } else {
                fail(CANNOT_STAND, next);
            }
        }

        private void skipBlanks() {
            for (int i = next; i < length && letter() == ' '; i++) {
                next++;
            }
        }

        /** The letter that comes next; NONE at the text's end. */
        private int letter() {
            return next < length ? at(letters, next) : NONE;
        }

        private static boolean isFigure(int letter) {
            return letter >= '0' && letter <= '9';
        }

        /** The text is read from left to right, so the first fault found is the one to tell. */
        private void fail(int kind, int where) {
            if (faultKind == 0) {
                faultKind = kind;
                faultAt = where;
            }
        }
    }

    /** What can be undone: a ring of scenes, so that the oldest gives way to the newest. */
    private static final class History {
        int size = 0;
        private final int[] scenes = new int[MOST_UNDONE * Scene.SIZE];
        private int newest = 0;

        void clear() {
            size = 0;
        }

        void remember(Scene scene) {
            newest = newest >= 0 && newest < MOST_UNDONE - 1 ? newest + 1 : 0;
            System.arraycopy(scene.row, 0, scenes, newest * Scene.SIZE, Scene.SIZE);
            size = Math.min(size + 1, MOST_UNDONE);
        }

        boolean takeBack(Scene scene) {
            if (size < 1 || newest < 0 || newest >= MOST_UNDONE) {
                return false;
            }
            System.arraycopy(scenes, newest * Scene.SIZE, scene.row, 0, Scene.SIZE);
            newest = newest > 0 ? newest - 1 : MOST_UNDONE - 1;
            size--;
            return true;
        }
    }

    private static final class Images {
        private final int[] scenes = new int[IMAGES * Scene.SIZE];
        private final int[] seeds = new int[IMAGES];
        private int stored = 0;

        void clear() {
            stored = 0;
        }

        boolean isStored(int i) {
            return hasBit(stored, i);
        }

        void store(int i, Scene scene, int seed) {
            if (isWithin(i, 0, IMAGES - 1)) {
                System.arraycopy(scene.row, 0, scenes, i * Scene.SIZE, Scene.SIZE);
                put(seeds, i, seed);
                stored |= 1 << i;
            }
        }

        void fetch(int i, Scene scene) {
            if (isWithin(i, 0, IMAGES - 1)) {
                System.arraycopy(scenes, i * Scene.SIZE, scene.row, 0, Scene.SIZE);
            }
        }

        int seedOf(int i) {
            return at(seeds, i);
        }
    }

    /** What is seen, and the book. */
    private static final class Notes {
        int seen = 0;
        int entries = 0;
        private final int[] seenActors = new int[MOST_SEEN];
        private final int[] seenShown = new int[MOST_SEEN];
        private final int[] entryActors = new int[MOST_ENTRIES];
        private final int[] entryPieces = new int[MOST_ENTRIES];

        void clear() {
            seen = 0;
            entries = 0;
        }

        boolean addSeen(int a, boolean shown) {
            if (seen >= MOST_SEEN) {
                return false;
            }
            put(seenActors, seen, a);
            put(seenShown, seen, shown ? 1 : 0);
            seen++;
            return true;
        }

        boolean addEntry(int a, int pieces) {
            if (entries >= MOST_ENTRIES) {
                return false;
            }
            put(entryActors, entries, a);
            put(entryPieces, entries, pieces);
            entries++;
            return true;
        }

        /** Whether all that is seen is so with a hole in this cell alone. */
        boolean fitCut(House house, Scene scene, int c) {
            for (int i = 0; i < seen; i++) {
                if (scene.isShownByLone(house, at(seenActors, i), c) != (at(seenShown, i) == 1)) {
                    return false;
                }
            }
            return true;
        }

        int firstWrong(Scene scene) {
            for (int i = 0; i < entries; i++) {
                if (scene.piecesOf(at(entryActors, i)) != at(entryPieces, i)) {
                    return i;
                }
            }
            return NONE;
        }
    }

    /** Where all should stand: every way is tried, in order, so that the first of like ones is kept. */
    private static final class Placing {
        int fewest = NONE;
        final int[] best = new int[MOST_ACTORS];
        private final int[] columns = new int[MOST_ACTORS];
        private final int[] holesOf = new int[MOST_COLUMNS];
        private final Scene trial = new Scene();

        void search(House house, Scene now, int told, int nights) {
            fewest = NONE;
            for (int a = 0; a < MOST_ACTORS; a++) {
                put(columns, a, 0);
            }
            countHoles(house, now);
            int ways = house.placings();
            for (int way = 0; way < ways && fewest != 0; way++) {
                int bared = hasEnough(house, now) ? baredUntilWhole(house, now, told, nights) : NONE;
                if (bared != NONE && (fewest == NONE || bared < fewest)) {
                    fewest = bared;
                    System.arraycopy(columns, 0, best, 0, MOST_ACTORS);
                }
                advance(house);
            }
        }

        private void countHoles(House house, Scene now) {
            for (int x = 0; x < house.width; x++) {
                int count = 0;
                for (int g = 0; g < house.rows; g++) {
                    count += hasBit(now.holes(), house.cellAt(x, g)) ? 1 : 0;
                }
                put(holesOf, x, count);
            }
        }

        /** Only who stands behind a column mends it, by one piece a hole: most ways fail here already. */
        private boolean hasEnough(House house, Scene now) {
            for (int x = 0; x < house.width; x++) {
                int lacking = at(holesOf, x);
                for (int a = 0; a < house.actors && lacking > 0; a++) {
                    lacking -= at(columns, a) == x ? now.piecesOf(a) : 0;
                }
                if (lacking > 0) {
                    return false;
                }
            }
            return true;
        }

        /** How many are bared until no hole is left; NONE, if one is left or the told one is bared. */
        private int baredUntilWhole(House house, Scene now, int told, int nights) {
            trial.become(now);
            for (int a = 0; a < house.actors; a++) {
                trial.place(a, at(columns, a));
            }
            int baredBefore = trial.baredInAll();
            int toldBefore = trial.baredOf(told);
            for (int n = 0; n < nights && trial.holes() != 0; n++) {
                int holes = trial.holes();
                trial.playNight(house);
                // After a night that mends nothing it hangs as before, so no later one mends either.
                if (trial.holes() == holes || trial.baredOf(told) != toldBefore) {
                    return NONE;
                }
            }
            return trial.holes() == 0 ? trial.baredInAll() - baredBefore : NONE;
        }

        /** The next way: the last actor goes on first. */
        private void advance(House house) {
            for (int a = house.actors - 1; a >= 0; a--) {
                int x = at(columns, a) + 1;
                if (x < house.width) {
                    put(columns, a, x);
                    return;
                }
                put(columns, a, 0);
            }
        }
    }

    /** The fewest minutes for all holes, by sets of holes. */
    private static final class Sewing {
        private static final int SETS = 1 << MOST_SEWN;

        private final int[] patches = new int[MOST_SEWN];
        private final int[] byOne = new int[SETS];
        private final int[] byAll = new int[SETS];
        private int count = 0;

        void take(House house, Scene scene) {
            count = 0;
            for (int c = 0; c < house.cells() && count < MOST_SEWN; c++) {
                if (hasBit(scene.holes(), c)) {
                    put(patches, count, house.minutesOf(scene.clothAt(c)));
                    count++;
                }
            }
        }

        int fewestMinutes(int tailors) {
            int last = (1 << count) - 1;
            for (int set = 0; set <= last; set++) {
                int minutes = minutesByOne(set);
                put(byOne, set, minutes);
                put(byAll, set, minutes);
            }
            for (int more = 1; more < tailors; more++) {
                addTailor(last);
            }
            return at(byAll, last);
        }

        private int minutesByOne(int set) {
            int minutes = 0;
            for (int i = 0; i < count; i++) {
                minutes += hasBit(set, i) ? at(patches, i) : 0;
            }
            return minutes;
        }

        /** From the greatest set down: the lesser ones are still those of one tailor less. */
        private void addTailor(int last) {
            for (int set = last; set > 0; set--) {
                int fewest = at(byAll, set);
                for (int part = set; part > 0; part = (part - 1) & set) {
                    fewest = Math.min(fewest, Math.max(at(byOne, part), at(byAll, set ^ part)));
                }
                put(byAll, set, fewest);
            }
        }
    }
}
