import java.util.Arrays;

/** Old news is dearer: a land that a text tells, its years, and what can be foretold of it. */
public final class OldNews {
    public static final int NONE = -1000000, BAD = -1000001, STATE = -1000002, FULL = -1000003;

    private static final int FOUND = -1000010, FAULTY = -1000100;
    private static final int NULL = 1, PLACE = 2, KIND = 3, SIZE = 4, STORE = 5;
    private static final int MOST_YEAR = 999;

    private final Rows rows = new Rows();
    private final Reader reader = new Reader();
    private final Foretold foretold = new Foretold();
    private final Trace asked = new Trace();
    private final Land image0 = new Land();
    private final Land image1 = new Land();
    private Land land = new Land();
    // A text is read into this one, so that a fault leaves the land as it is.
    private Land spare = new Land();
    private int finding;

    public OldNews() {
    }

    // ---- rows

    public int row(int row, int lane, int n) {
        if (!Rows.isRow(row) || !within(lane, Rows.BYTES, Rows.INTS) || n > Rows.ROOM) {
            return BAD;
        }
        if (n < 0) {
            return found(SIZE);
        }
        rows.lay(row, lane, n);
        return fine(n);
    }

    public int set(int row, int i, int v) {
        if (!Rows.isRow(row)) {
            return BAD;
        }
        if (rows.isMissing(row)) {
            return found(NULL);
        }
        if (!rows.isPlace(row, i)) {
            return found(PLACE);
        }
        return fine(rows.put(row, i, v));
    }

    public int copy(int a, int i, int b, int j, int n) {
        if (!Rows.isRow(a) || !Rows.isRow(b)) {
            return BAD;
        }
        if (rows.isMissing(a) || rows.isMissing(b)) {
            return found(NULL);
        }
        if (!rows.areOfOneLane(a, b)) {
            return found(STORE);
        }
        if (!rows.isStretch(a, i, n) || !rows.isStretch(b, j, n)) {
            return found(PLACE);
        }
        rows.move(a, i, b, j, n);
        return fine(n);
    }

    public int drop(int row) {
        if (!Rows.isRow(row)) {
            return BAD;
        }
        if (rows.isMissing(row)) {
            return found(NULL);
        }
        return fine(rows.remove(row));
    }

    // ---- lands, years

    public int feed(long w, int n) {
        if (!within(n, 1, 8)) {
            return BAD;
        }
        return reader.append(w, n) ? reader.length : FULL;
    }

    public int land() {
        boolean isRead = reader.readInto(spare);
        reader.empty();
        if (!isRead) {
            return FAULTY - reader.place;
        }
        Land told = spare;
        spare = land;
        land = told;
        return land.keepers;
    }

    public int fault() {
        return reader.fault;
    }

    public int value(int age) {
        if (!land.isTold()) {
            return STATE;
        }
        return within(age, 0, MOST_YEAR) ? land.valueAt(age) : BAD;
    }

    public int go(int n, int seed) {
        if (!land.isTold()) {
            return STATE;
        }
        if (!within(n, 1, 60) || !within(seed, 1, 999999)) {
            return BAD;
        }
        land.passYears(n, seed);
        return land.year;
    }

    public int tell(int keeper, int piece, int other) {
        if (!land.isKeeper(keeper) || !land.isPiece(piece) || !land.isKeeper(other) || keeper == other) {
            return BAD;
        }
        if (land.countOf(keeper, piece) < 1) {
            return STATE;
        }
        if (land.countOf(other, piece) >= Land.COPIES) {
            return FULL;
        }
        return land.addOne(other, piece);
    }

    public int keeper(int keeper, int what) {
        if (!land.isKeeper(keeper)) {
            return BAD;
        }
        switch (what) {
            case 0: return land.earnedBy(keeper);
            case 1: return land.piecesOf(keeper);
            case 2: return land.soldBy(keeper);
            default: return what >= 10 && land.isPiece(what - 10) ? land.countOf(keeper, what - 10) : BAD;
        }
    }

    public int piece(int piece, int what) {
        if (!land.isPiece(piece)) {
            return BAD;
        }
        switch (what) {
            case 0: return land.useOf(piece);
            case 1: return land.keepersWith(piece);
            case 2: return land.knownBy(piece);
            case 3: return land.firstSale(piece);
            case 4: return land.worthIn(land.year, land.hadBy(piece));
            default: return BAD;
        }
    }

    // ---- foretold

    public int alone(int y, int c, int what) {
        if (!land.isTold()) {
            return STATE;
        }
        if (!within(y, 0, land.last) || !within(c, 1, Land.COPIES) || !within(what, 0, 1)) {
            return BAD;
        }
        return what == 0 ? Foretold.valueAlone(land, y, c) : Foretold.whenAlone(land, y, c);
    }

    public int best(int y) {
        if (!land.isTold()) {
            return STATE;
        }
        return within(y, 0, land.last) ? Foretold.bestCopies(land, y) : BAD;
    }

    public int two(int y, int w, int what) {
        if (!land.isTold()) {
            return STATE;
        }
        if (!within(y, 0, land.last) || !within(w, 0, 100) || !within(what, 0, 1)) {
            return BAD;
        }
        return Foretold.ofTwo(land, y, w, what);
    }

    public int think(int q, int p, int n) {
        if (!within(q, 0, 1000) || !within(p, 0, 1000) || !within(n, 0, 60)) {
            return BAD;
        }
        return Foretold.thought(q, p, n);
    }

    public int lostUse(int piece, int y, int z) {
        if (!land.isPiece(piece) || !within(y, 0, MOST_YEAR) || !within(z, y, MOST_YEAR)) {
            return BAD;
        }
        return land.useOf(piece) * (z - y);
    }

    public int silence(int a, int b, int piece, int y, int what) {
        if (!land.isKeeper(a) || !land.isKeeper(b) || a == b || !land.isPiece(piece)) {
            return BAD;
        }
        if (!within(y, 0, MOST_YEAR) || !within(what, 0, 1)) {
            return BAD;
        }
        if (land.countOf(a, piece) < 1 || land.countOf(b, piece) < 1) {
            return STATE;
        }
        int had = land.hadBy(piece);
        int worth = land.worthIn(y, had);
        return what == 0 ? worth : land.worthIn(y, had - 1) - worth;
    }

    public int corner(int a, int piece, int y, int place) {
        if (!land.isKeeper(a) || !land.isPiece(piece) || !within(y, 0, MOST_YEAR) || place < -1) {
            return BAD;
        }
        if (land.countOf(a, piece) < 1) {
            return STATE;
        }
        foretold.findCorner(land, a, piece, y);
        return place == -1 ? foretold.leastSum : foretold.boughtAt(place);
    }

    public int make(int m, int p, int f) {
        if (!land.isTold()) {
            return STATE;
        }
        if (!within(m, 0, Foretold.MOST_MONEY) || !within(p, 0, 1000) || !within(f, -1, Foretold.MOST_MONEY)) {
            return BAD;
        }
        int gain = land.valueAt(land.last) - m;
        if (f == -1) {
            return Foretold.edge(gain, p);
        }
        return gain > p * f / 1000 ? 1 : 0;
    }

    public int fit(int row, int i) {
        if (!land.isTold()) {
            return STATE;
        }
        if (!Rows.isRow(row) || i < -1) {
            return BAD;
        }
        if (rows.isMissing(row)) {
            return found(NULL);
        }
        if (!rows.isStretch(row, 0, land.keepers)) {
            return found(PLACE);
        }
        if (!foretold.takeYears(land, rows, row)) {
            return BAD;
        }
        return fine(i == -1 ? foretold.countFits(land) : foretold.fitAt(land, i));
    }

    public int laws(int law) {
        if (!land.isTold()) {
            return STATE;
        }
        return within(law, Land.OLD, Land.FRESH) ? foretold.earnedByLaw(land, law) : BAD;
    }

    public int image(int k) {
        if (!within(k, 0, 1)) {
            return BAD;
        }
        if (!land.isTold()) {
            return STATE;
        }
        imageAt(k).takeFrom(land);
        return 1;
    }

    public int restore(int k) {
        if (!within(k, 0, 1)) {
            return BAD;
        }
        if (!imageAt(k).isTold()) {
            return STATE;
        }
        land.takeFrom(imageAt(k));
        return 1;
    }

    // ---- asked

    public int kind(int keeper) {
        Keeper one = land.keeperAt(keeper);
        return one == null ? BAD : one.kindTold();
    }

    public int as(int keeper, int kind) {
        Keeper one = land.keeperAt(keeper);
        if (one == null || !within(kind, Keeper.ANY, Keeper.SILENT)) {
            return BAD;
        }
        return one.isOf(kind) ? fine(keeper) : found(KIND);
    }

    public int ask(int keeper, int what) {
        Keeper one = land.keeperAt(keeper);
        if (one == null || !within(what, 0, 1)) {
            return BAD;
        }
        asked.clear();
        return what == 0 ? one.sizeAsked(land, asked) : one.markAsked(land, asked);
    }

    public int trace(int i) {
        return asked.at(i);
    }

    public int count(int what) {
        switch (what) {
            case 0: return rows.countThere();
            case 1: return land.keepers;
            case 2: return land.news;
            case 3: return land.points;
            case 4: return land.year;
            case 5: return reader.length;
            case 6: return land.last;
            case 7: return land.law;
            default: return BAD;
        }
    }

    public int status() {
        return finding;
    }

    private int found(int number) {
        finding = number;
        return FOUND - number;
    }

    private int fine(int answer) {
        finding = 0;
        return answer;
    }

    private Land imageAt(int k) {
        return k == 0 ? image0 : image1;
    }

    private static boolean within(int x, int least, int most) {
        return x >= least && x <= most;
    }

    /** The rows: each has a stretch of its own in one array, so that no call makes a new one. */
    private static final class Rows {
        static final int COUNT = 8, ROOM = 40;
        static final int BYTES = 0, SHORTS = 1, INTS = 2;
        private static final int MISSING = -1;

        private final int[] lanes = new int[COUNT];
        private final int[] sizes = new int[COUNT];
        private final int[] items = new int[COUNT * ROOM];

        Rows() {
            Arrays.fill(lanes, MISSING);
        }

        static boolean isRow(int row) {
            return row >= 0 && row < COUNT;
        }

        boolean isMissing(int row) {
            return !isRow(row) || lanes[row] == MISSING;
        }

        int countThere() {
            int there = 0;
            for (int row = 0; row < COUNT; row++) {
                if (lanes[row] != MISSING) {
                    there++;
                }
            }
            return there;
        }

        void lay(int row, int lane, int n) {
            if (!isRow(row) || n < 0 || n > ROOM) {
                return;
            }
            lanes[row] = lane;
            sizes[row] = n;
            Arrays.fill(items, row * ROOM, row * ROOM + n, 0);
        }

        int remove(int row) {
            if (!isRow(row)) {
                return 0;
            }
            lanes[row] = MISSING;
            return sizes[row];
        }

        boolean isPlace(int row, int i) {
            return isRow(row) && i >= 0 && i < sizes[row];
        }

        boolean isStretch(int row, int i, int n) {
            // i and n together could wrap around; the size less n, which is not below 0, cannot.
            return isRow(row) && n >= 0 && i >= 0 && i <= sizes[row] - n;
        }

        boolean areOfOneLane(int a, int b) {
            return isRow(a) && isRow(b) && lanes[a] == lanes[b];
        }

        int itemAt(int row, int i) {
            return isPlace(row, i) ? items[row * ROOM + i] : 0;
        }

        int put(int row, int i, int v) {
            if (!isPlace(row, i)) {
                return 0;
            }
            items[row * ROOM + i] = narrowed(lanes[row], v);
            return items[row * ROOM + i];
        }

        void move(int a, int i, int b, int j, int n) {
            if (isStretch(a, i, n) && isStretch(b, j, n)) {
                System.arraycopy(items, a * ROOM + i, items, b * ROOM + j, n);
            }
        }

        private static int narrowed(int lane, int v) {
            switch (lane) {
                case BYTES: return (byte) v;
                case SHORTS: return (short) v;
                default: return v;
            }
        }
    }

    /** The tape, and the reading of the text that is on it: one token ahead, up to the first fault. */
    private static final class Reader {
        private static final int ROOM = 500, FIGURES = 4;
        private static final int GAP = 0, NAME = 1, NUMBER = 2, SIGN = 3, NO_TOKEN = 4, END = 5, STUCK = 6;
        private static final int MISPLACED = 1, NOT_AS_TOLD = 2, NO_ROOM = 3;

        int length;
        int fault;
        int place;
        private final byte[] tape = new byte[ROOM];
        private int sort;
        private int start;
        private int end;
        private int number;

        boolean append(long w, int n) {
            if (n < 0 || n > ROOM - length) {
                return false;
            }
            for (int i = n - 1; i >= 0; i--) {
                tape[length] = (byte) (w >> 8 * i);
                length++;
            }
            return true;
        }

        void empty() {
            length = 0;
        }

        /** Reads the tape; false where it has a fault: the land is then half told, and of no use. */
        boolean readInto(Land land) {
            land.forget();
            sort = GAP;
            end = 0;
            advance();
            readLaw(land);
            readPoints(land);
            readChest(land);
            readKeepers(land);
            readNews(land);
            land.begin();
            return sort != STUCK;
        }

        private void readLaw(Land land) {
            takeWord("law");
            if (isWord("fresh")) {
                takeWord("fresh");
                land.law = Land.FRESH;
            } else {
                takeWord("old");
                land.law = Land.OLD;
            }
            land.last = takeNumber(1, 60);
            takeSign();
        }

        private void readPoints(Land land) {
            int leastAge = 0;
            for (int i = 0; i == 0 || i <= Land.POINTS && isWord("worth"); i++) {
                takeWordOf("worth", i, Land.POINTS);
                int age = takeNumber(leastAge, 60);
                int value = takeNumber(0, 9999);
                takeSign();
                land.addPoint(age, value);
                leastAge = age + 1;
            }
        }

        private void readChest(Land land) {
            takeWord("chest");
            land.lost = takeNumber(0, 500);
            land.spread = takeNumber(0, 20);
            land.cost = takeNumber(0, 999);
            takeSign();
        }

        private void readKeepers(Land land) {
            for (int i = 0; i == 0 || i <= Land.KEEPERS && isWord("keeper"); i++) {
                takeWordOf("keeper", i, Land.KEEPERS);
                int kind = takeKind();
                int n = takeNumber(0, 60);
                int c = takeNumber(1, Land.COPIES);
                takeSign();
                land.addKeeper(Keeper.ofKind(kind, i, n, c));
            }
        }

        private void readNews(Land land) {
            for (int i = 0; i <= Land.NEWS && sort != END && sort != STUCK; i++) {
                takeWordOf("news", i, Land.NEWS);
                int use = takeNumber(0, 999);
                int seers = 0;
                for (int j = 0; j < ROOM && sort == NUMBER; j++) {
                    seers |= 1 << takeNumber(0, land.keepers - 1);
                }
                takeSign();
                land.addPiece(use, seers);
            }
        }

        private int takeKind() {
            int kind = kindNamed();
            if (kind == Keeper.ANY) {
                stick(MISPLACED);
            } else {
                advance();
            }
            return kind;
        }

        private int kindNamed() {
            if (isWord("now")) {
                return Keeper.NOW;
            }
            if (isWord("age")) {
                return Keeper.AGE;
            }
            if (isWord("watch")) {
                return Keeper.WATCH;
            }
            if (isWord("copies")) {
                return Keeper.COPIES;
            }
            return isWord("silent") ? Keeper.SILENT : Keeper.ANY;
        }

        private void takeWordOf(String word, int ahead, int room) {
            if (isWord(word) && ahead >= room) {
                stick(NO_ROOM);
            }
            takeWord(word);
        }

        private void takeWord(String word) {
            if (isWord(word)) {
                advance();
            } else {
                stick(MISPLACED);
            }
        }

        private void takeSign() {
            if (sort == SIGN) {
                advance();
            } else {
                stick(MISPLACED);
            }
        }

        private int takeNumber(int least, int most) {
            if (sort != NUMBER) {
                stick(MISPLACED);
                return 0;
            }
            if (!within(number, least, most)) {
                stick(NOT_AS_TOLD);
                return 0;
            }
            int taken = number;
            advance();
            return taken;
        }

        /** The first fault counts: from it on no token fits, and none is read. */
        private void stick(int faultNumber) {
            if (sort != STUCK) {
                sort = STUCK;
                fault = faultNumber;
                place = start;
            }
        }

        private boolean isWord(String word) {
            if (sort != NAME || end - start != word.length()) {
                return false;
            }
            for (int i = 0; i < word.length() && start + i < length; i++) {
                if (tape[start + i] != word.charAt(i)) {
                    return false;
                }
            }
            return true;
        }

        private void advance() {
            start = behindRun(end, GAP);
            sort = start < length ? sortOf(tape[start]) : END;
            if (sort == NAME || sort == NUMBER) {
                end = behindRun(start, sort);
            } else {
                end = Math.min(start + 1, length);
            }
            if (sort == NUMBER) {
                readFigures();
            }
        }

        private int behindRun(int from, int sortOfRun) {
            int at = from;
            while (at < length && sortOf(tape[at]) == sortOfRun) {
                at++;
            }
            return at;
        }

        private void readFigures() {
            if (end - start > FIGURES) {
                sort = NO_TOKEN;
                return;
            }
            number = 0;
            for (int i = start; i < end; i++) {
                number = 10 * number + (tape[i] - '0');
            }
        }

        private static int sortOf(int b) {
            if (b == ' ' || b == '\n') {
                return GAP;
            }
            if (b >= 'a' && b <= 'z') {
                return NAME;
            }
            if (b >= '0' && b <= '9') {
                return NUMBER;
            }
            return b == ';' ? SIGN : NO_TOKEN;
        }
    }

    /** A land as its text tells it, and how it is after its years. One without keepers was never told. */
    private static final class Land {
        static final int POINTS = 8, KEEPERS = 6, NEWS = 8, COPIES = 9;
        static final int OLD = 0, FRESH = 1;
        private static final int FACTOR = 16807, MODULUS = 2147483647;
        private static final int MOST_HAVING = 6;

        int law;
        int last;
        int points;
        int lost;
        int spread;
        int cost;
        int keepers;
        int news;
        int year;
        private final int[] ages = new int[POINTS];
        private final int[] values = new int[POINTS];
        private final Keeper[] who = new Keeper[KEEPERS];
        private final int[] uses = new int[NEWS];
        private final int[] seen = new int[NEWS];
        private final int[] have = new int[KEEPERS * NEWS];
        private final int[] earned = new int[KEEPERS];
        private final int[] sold = new int[KEEPERS];
        private final int[] know = new int[NEWS];
        private final int[] firstSold = new int[NEWS];

        boolean isTold() {
            return keepers > 0;
        }

        boolean isKeeper(int k) {
            return k >= 0 && k < keepers && k < KEEPERS;
        }

        boolean isPiece(int p) {
            return p >= 0 && p < news && p < NEWS;
        }

        void forget() {
            points = 0;
            keepers = 0;
            news = 0;
        }

        void addPoint(int age, int value) {
            if (points >= 0 && points < POINTS) {
                ages[points] = age;
                values[points] = value;
                points++;
            }
        }

        void addKeeper(Keeper one) {
            if (keepers >= 0 && keepers < KEEPERS) {
                who[keepers] = one;
                keepers++;
            }
        }

        void addPiece(int use, int seers) {
            if (news >= 0 && news < NEWS) {
                uses[news] = use;
                seen[news] = seers;
                news++;
            }
        }

        void begin() {
            year = 0;
            Arrays.fill(have, 0);
            Arrays.fill(earned, 0);
            Arrays.fill(sold, 0);
            Arrays.fill(know, 0);
            Arrays.fill(firstSold, NONE);
            for (int k = 0; k < KEEPERS; k++) {
                Keeper one = keeperAt(k);
                for (int p = 0; p < NEWS && one != null; p++) {
                    if (p < news && (seen[p] >> k & 1) == 1) {
                        have[k * NEWS + p] = one.c;
                    }
                }
            }
        }

        /** As begin(), for one piece that the keepers in a set had. */
        void beginWith(int set) {
            news = 1;
            seen[0] = set;
            begin();
        }

        void takeFrom(Land other) {
            law = other.law;
            last = other.last;
            points = other.points;
            lost = other.lost;
            spread = other.spread;
            cost = other.cost;
            keepers = other.keepers;
            news = other.news;
            year = other.year;
            System.arraycopy(other.ages, 0, ages, 0, POINTS);
            System.arraycopy(other.values, 0, values, 0, POINTS);
            System.arraycopy(other.uses, 0, uses, 0, NEWS);
            System.arraycopy(other.seen, 0, seen, 0, NEWS);
            System.arraycopy(other.have, 0, have, 0, KEEPERS * NEWS);
            System.arraycopy(other.earned, 0, earned, 0, KEEPERS);
            System.arraycopy(other.sold, 0, sold, 0, KEEPERS);
            System.arraycopy(other.know, 0, know, 0, NEWS);
            System.arraycopy(other.firstSold, 0, firstSold, 0, NEWS);
            // Keepers never change once they are made, so two lands may hold the same ones.
            for (int k = 0; k < KEEPERS; k++) {
                who[k] = other.who[k];
            }
        }

        int valueAt(int age) {
            int told = law == FRESH ? Math.max(last - age, 0) : age;
            for (int i = 0; i < points && i < POINTS; i++) {
                if (told < ages[i]) {
                    return i == 0 ? values[0] : valueBetween(i - 1, i, told);
                }
            }
            return points > 0 && points <= POINTS ? values[points - 1] : 0;
        }

        private int valueBetween(int i, int j, int age) {
            if (i < 0 || j < 0 || i >= POINTS || j >= POINTS) {
                return 0;
            }
            int apart = ages[j] - ages[i];
            if (apart <= 0) {
                return values[i];
            }
            return values[i] + (values[j] - values[i]) * (age - ages[i]) / apart;
        }

        int worthIn(int y, int m) {
            return m > MOST_HAVING ? 0 : valueAt(y) / Math.max(m, 1);
        }

        Keeper keeperAt(int k) {
            return k >= 0 && k < keepers && k < KEEPERS ? who[k] : null;
        }

        int countOf(int k, int p) {
            boolean isThere = k >= 0 && k < keepers && k < KEEPERS && p >= 0 && p < news && p < NEWS;
            return isThere ? have[k * NEWS + p] : 0;
        }

        boolean hasUnsold(int k, int p) {
            return countOf(k, p) > 0 && (sold[k] >> p & 1) == 0;
        }

        int keepersWith(int p) {
            int with = 0;
            for (int k = 0; k < keepers; k++) {
                if (countOf(k, p) > 0) {
                    with++;
                }
            }
            return with;
        }

        int hadBy(int p) {
            return keepersWith(p) + knownBy(p);
        }

        int knownBy(int p) {
            return isPiece(p) ? know[p] : 0;
        }

        int useOf(int p) {
            return isPiece(p) ? uses[p] : 0;
        }

        int firstSale(int p) {
            return isPiece(p) ? firstSold[p] : NONE;
        }

        int earnedBy(int k) {
            return isKeeper(k) ? earned[k] : 0;
        }

        int soldBy(int k) {
            return isKeeper(k) ? sold[k] : 0;
        }

        int piecesOf(int k) {
            int pieces = 0;
            for (int p = 0; p < news; p++) {
                pieces += countOf(k, p);
            }
            return pieces;
        }

        int earnedByAll() {
            int sum = 0;
            for (int k = 0; k < keepers; k++) {
                sum += earnedBy(k);
            }
            return sum;
        }

        int addOne(int k, int p) {
            if (isKeeper(k) && isPiece(p)) {
                have[k * NEWS + p]++;
            }
            return countOf(k, p);
        }

        void passYears(int n, int seed) {
            int x = seed;
            for (int i = 0; i < n; i++) {
                sellAll();
                x = loseByChance(x);
                spreadSold();
                payCost();
                year++;
            }
        }

        void sellAll() {
            for (int k = 0; k < keepers; k++) {
                Keeper one = keeperAt(k);
                for (int p = 0; p < news && one != null; p++) {
                    if (hasUnsold(k, p) && one.sells(this, p)) {
                        sell(k, p);
                    }
                }
            }
        }

        private void sell(int k, int p) {
            if (!isKeeper(k) || !isPiece(p)) {
                return;
            }
            earned[k] += worthIn(year, hadBy(p));
            sold[k] |= 1 << p;
            if (firstSold[p] == NONE) {
                firstSold[p] = year;
            }
        }

        private int loseByChance(int seed) {
            int x = seed;
            for (int k = 0; k < keepers && k < KEEPERS; k++) {
                for (int p = 0; p < news && p < NEWS; p++) {
                    int had = have[k * NEWS + p];
                    for (int one = 0; one < had; one++) {
                        x = (int) ((long) x * FACTOR % MODULUS);
                        if (x % 1000 < lost) {
                            have[k * NEWS + p]--;
                        }
                    }
                }
            }
            return x;
        }

        private void spreadSold() {
            for (int p = 0; p < news && p < NEWS; p++) {
                if (firstSold[p] != NONE) {
                    know[p] += spread;
                }
            }
        }

        private void payCost() {
            for (int k = 0; k < keepers && k < KEEPERS; k++) {
                for (int p = 0; p < news; p++) {
                    earned[k] -= Math.max(countOf(k, p) - 1, 0) * cost;
                }
            }
        }
    }

    /** What can be foretold of a land, which stays as it is: years go by in a land on trial. */
    private static final class Foretold {
        static final int MOST_MONEY = 99999;
        private static final int ORDERS = 120;

        int leastSum;
        private int buyable;
        private int sellers;
        private final Land trial = new Land();
        private final int[] order = new int[Land.KEEPERS];
        private final int[] leastOrder = new int[Land.KEEPERS];
        private final int[] saleYears = new int[Land.KEEPERS];

        static int valueAlone(Land land, int y, int c) {
            int value = land.valueAt(land.last);
            for (int t = land.last - 1; t >= y; t--) {
                value = Math.max(land.valueAt(t), waitingAlone(land, value, c));
            }
            return value;
        }

        static int whenAlone(Land land, int y, int c) {
            int when = land.last;
            int value = land.valueAt(land.last);
            for (int t = land.last - 1; t >= y; t--) {
                int selling = land.valueAt(t);
                int waiting = waitingAlone(land, value, c);
                if (selling >= waiting) {
                    when = t;
                }
                value = Math.max(selling, waiting);
            }
            return when;
        }

        private static int waitingAlone(Land land, int nextValue, int c) {
            return nextValue * keptOf(land.lost, c) / 1000 - land.cost * (c - 1);
        }

        private static int keptOf(int lost, int c) {
            int allLost = 1000;
            for (int i = 0; i < c; i++) {
                allLost = allLost * lost / 1000;
            }
            return 1000 - allLost;
        }

        static int bestCopies(Land land, int y) {
            int best = 1;
            int most = valueAlone(land, y, 1);
            for (int c = 2; c <= Land.COPIES; c++) {
                int value = valueAlone(land, y, c);
                if (value > most) {
                    most = value;
                    best = c;
                }
            }
            return best;
        }

        static int ofTwo(Land land, int y, int w, int what) {
            int chance = 1000;
            int value = land.valueAt(land.last) / 2;
            for (int t = land.last - 1; t >= y; t--) {
                int whole = land.valueAt(t);
                int half = whole / 2;
                int waiting = value * (1000 - land.lost) / 1000;
                int gain = whole - waiting;
                int loss = w * whole / 100 - half;
                if (gain <= 0) {
                    chance = 0;
                    value = waiting;
                } else if (loss <= 0) {
                    chance = 1000;
                    value = half;
                } else {
                    chance = 1000 * gain / (gain + loss);
                    value = (chance * half + (1000 - chance) * whole) / 1000;
                }
            }
            return what == 0 ? chance : value;
        }

        static int thought(int q, int p, int n) {
            int thinks = q;
            for (int i = 0; i < n; i++) {
                int unsold = 1000 - thinks * p / 1000;
                thinks = unsold == 0 ? 0 : thinks * (1000 - p) / unsold;
            }
            return thinks;
        }

        static int edge(int gain, int p) {
            if (gain <= 0) {
                return 0;
            }
            if (p <= 0) {
                return NONE;
            }
            int fine = (1000 * gain + p - 1) / p;
            return fine <= MOST_MONEY ? fine : NONE;
        }

        void findCorner(Land land, int a, int piece, int y) {
            int worth = land.worthIn(y, land.hadBy(piece));
            listBuyable(land, a, piece);
            keepOrder(sumOf(land, worth));
            // Cutting can make an order of falling N dearer than another one, so all are tried.
            for (int i = 0; i < ORDERS && stepOrder(); i++) {
                int sum = sumOf(land, worth);
                if (sum < leastSum) {
                    keepOrder(sum);
                }
            }
        }

        int boughtAt(int place) {
            return place >= 0 && place < buyable && place < Land.KEEPERS ? leastOrder[place] : NONE;
        }

        private void listBuyable(Land land, int a, int piece) {
            buyable = 0;
            for (int k = 0; k < land.keepers && buyable < Land.KEEPERS; k++) {
                if (k != a && land.countOf(k, piece) > 0) {
                    order[buyable] = k;
                    buyable++;
                }
            }
        }

        private void keepOrder(int sum) {
            leastSum = sum;
            System.arraycopy(order, 0, leastOrder, 0, Land.KEEPERS);
        }

        private int sumOf(Land land, int worth) {
            int sum = 0;
            for (int i = 0; i < buyable && i < Land.KEEPERS; i++) {
                Keeper one = land.keeperAt(order[i]);
                if (one != null) {
                    sum += worth * (100 + 10 * i) * (100 + one.n) / 10000;
                }
            }
            return sum;
        }

        /** The next order by keepers: the last place that can rise rises least, and what is behind it starts anew. */
        private boolean stepOrder() {
            int rising = buyable - 2;
            while (rising >= 0 && rising + 1 < Land.KEEPERS && order[rising] > order[rising + 1]) {
                rising--;
            }
            if (rising < 0) {
                return false;
            }
            int above = buyable - 1;
            while (above > rising && above < Land.KEEPERS && order[above] < order[rising]) {
                above--;
            }
            swap(rising, above);
            for (int i = rising + 1, j = buyable - 1; i < j; i++, j--) {
                swap(i, j);
            }
            return true;
        }

        private void swap(int i, int j) {
            if (i >= 0 && j >= 0 && i < Land.KEEPERS && j < Land.KEEPERS) {
                int first = order[i];
                order[i] = order[j];
                order[j] = first;
            }
        }

        /** Takes the years of a row; false if one of them is not as told. */
        boolean takeYears(Land land, Rows rows, int row) {
            sellers = 0;
            for (int k = 0; k < land.keepers && k < Land.KEEPERS; k++) {
                int year = rows.itemAt(row, k);
                if (year < -1 || year > land.last) {
                    return false;
                }
                saleYears[k] = year;
                if (year >= 0) {
                    sellers |= 1 << k;
                }
            }
            return true;
        }

        int countFits(Land land) {
            trial.takeFrom(land);
            int fits = 0;
            for (int set = 0; set < 1 << land.keepers; set++) {
                if (isFit(set)) {
                    fits++;
                }
            }
            return fits;
        }

        int fitAt(Land land, int i) {
            trial.takeFrom(land);
            int ahead = i;
            for (int set = 0; set < 1 << land.keepers; set++) {
                if (isFit(set)) {
                    if (ahead == 0) {
                        return set;
                    }
                    ahead--;
                }
            }
            return NONE;
        }

        private boolean isFit(int set) {
            if ((set & sellers) != sellers) {
                return false;
            }
            trial.beginWith(set);
            for (int y = 0; y <= trial.last; y++) {
                // Nothing is lost, and who knows and what copies cost do not change who sells.
                trial.sellAll();
                if (!hasSoldJustSo(y)) {
                    return false;
                }
                trial.year++;
            }
            return true;
        }

        private boolean hasSoldJustSo(int y) {
            for (int k = 0; k < trial.keepers && k < Land.KEEPERS; k++) {
                boolean should = saleYears[k] >= 0 && saleYears[k] <= y;
                if (should != (trial.soldBy(k) == 1)) {
                    return false;
                }
            }
            return true;
        }

        int earnedByLaw(Land land, int law) {
            trial.takeFrom(land);
            trial.law = law;
            trial.lost = 0;
            trial.begin();
            trial.passYears(trial.last + 1, 1);
            return trial.earnedByAll();
        }
    }

    /** The numbers of the bodies that an ask began. */
    private static final class Trace {
        private static final int ROOM = 16;

        private final int[] numbers = new int[ROOM];
        private int count;

        void clear() {
            count = 0;
        }

        void leave(int number) {
            if (count >= 0 && count < ROOM) {
                numbers[count] = number;
                count++;
            }
        }

        int at(int i) {
            return i >= 0 && i < count && i < ROOM ? numbers[i] : NONE;
        }
    }

    /** A keeper as told: when he sells, and the bodies of the asks that are lent to all. */
    private abstract static class Keeper {
        static final int ANY = 0, NOW = 1, AGE = 2, WATCH = 3, COPIES = 4, SILENT = 5;

        final int index;
        final int n;
        final int c;

        Keeper(int index, int n, int c) {
            this.index = index;
            this.n = n;
            this.c = c;
        }

        static Keeper ofKind(int kind, int index, int n, int c) {
            switch (kind) {
                case NOW: return new Now(index, n, c);
                case AGE: return new Age(index, n, c);
                case WATCH: return new Watch(index, n, c);
                case COPIES: return new Copies(index, n, c);
                default: return new Silent(index, n, c);
            }
        }

        abstract int kindTold();

        abstract boolean sells(Land land, int piece);

        boolean isOf(int kind) {
            return kind == ANY || kind == kindTold();
        }

        int sizeAsked(Land land, Trace trace) {
            trace.leave(10);
            return land.earnedBy(index);
        }

        int markAsked(Land land, Trace trace) {
            trace.leave(20);
            return index;
        }
    }

    private static final class Now extends Keeper {
        Now(int index, int n, int c) {
            super(index, n, c);
        }

        int kindTold() {
            return NOW;
        }

        boolean sells(Land land, int piece) {
            return true;
        }

        int markAsked(Land land, Trace trace) {
            trace.leave(23);
            return super.markAsked(land, trace) - sizeAsked(land, trace);
        }
    }

    private static class Age extends Keeper {
        Age(int index, int n, int c) {
            super(index, n, c);
        }

        int kindTold() {
            return AGE;
        }

        boolean isOf(int kind) {
            return kind == AGE || super.isOf(kind);
        }

        boolean sells(Land land, int piece) {
            return land.year >= n;
        }

        int sizeAsked(Land land, Trace trace) {
            trace.leave(11);
            return super.sizeAsked(land, trace) + markAsked(land, trace);
        }

        int markAsked(Land land, Trace trace) {
            trace.leave(21);
            return super.markAsked(land, trace) + 10 * n;
        }
    }

    private static final class Watch extends Age {
        Watch(int index, int n, int c) {
            super(index, n, c);
        }

        int kindTold() {
            return WATCH;
        }

        boolean sells(Land land, int piece) {
            return super.sells(land, piece) || isAnotherAboutTo(land, piece);
        }

        private boolean isAnotherAboutTo(Land land, int piece) {
            for (int k = 0; k < land.keepers; k++) {
                Keeper other = land.keeperAt(k);
                if (k != index && other instanceof Age && other.n <= land.year + 1 && land.hasUnsold(k, piece)) {
                    return true;
                }
            }
            return false;
        }

        int sizeAsked(Land land, Trace trace) {
            trace.leave(12);
            return 0 - super.sizeAsked(land, trace);
        }
    }

    private static final class Copies extends Age {
        Copies(int index, int n, int c) {
            super(index, n, c);
        }

        int kindTold() {
            return COPIES;
        }

        boolean sells(Land land, int piece) {
            return super.sells(land, piece) || land.countOf(index, piece) == 1;
        }

        int sizeAsked(Land land, Trace trace) {
            trace.leave(13);
            return super.sizeAsked(land, trace) + land.piecesOf(index);
        }

        int markAsked(Land land, Trace trace) {
            trace.leave(22);
            return 2 * super.markAsked(land, trace);
        }
    }

    private static final class Silent extends Keeper {
        Silent(int index, int n, int c) {
            super(index, n, c);
        }

        int kindTold() {
            return SILENT;
        }

        boolean sells(Land land, int piece) {
            return false;
        }

        int sizeAsked(Land land, Trace trace) {
            trace.leave(14);
            return super.sizeAsked(land, trace) - 100;
        }

        int markAsked(Land land, Trace trace) {
            trace.leave(24);
            return super.markAsked(land, trace) + sizeAsked(land, trace);
        }
    }
}
