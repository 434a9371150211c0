/**
 * A ship whose men are measured at noon: at what ANGLE each stands by his SHAME, what a READER
 * READS of it, and how far off the ship is then. The words in capitals are those of the document.
 */
public final class ShameAngles {

    public static final int NONE = -1, BAD = -2, NO = -3, FULL = -4;

    private static final int MOST_MEN = 6, MOST_READERS = 3, MOST_KIND = 5, MOST_SHAME = 90;
    private static final int FOG_DAYS = 6, LAST_DAY = 999, PLACES = 100, MOST_COURSE = 9;
    private static final int MOST_NOONS_AHEAD = 60, MOST_TOLD_DAY = 99, MOST_TOLD_READING = 99;
    private static final int MOST_ERROR_ASKED = 99, MOST_SEED = 999999, IMAGES = 2;
    private static final int BAD_ERROR = -1000, BAD_PLACE = -10, NO_WAY = -6, NOT_SO_MANY = -5;

    private final State state = new State();
    private final State[] images = new State[IMAGES];
    private final boolean[] kept = new boolean[IMAGES];
    private final Ship trial = new Ship();
    private final Script script = new Script();
    private final Route route = new Route();
    private final Watches watches = new Watches();
    private final Guesses guesses = new Guesses();
    private final Chance chance = new Chance();
    private int bads;
    private int nos;
    private int fulls;

    public ShameAngles() {
        for (int i = 0; i < IMAGES; i++) {
            images[i] = new State();
        }
    }

    // ---- a ship

    public int ship(int course) {
        if (!within(course, 0, MOST_COURSE)) {
            return bad(BAD);
        }
        int men = state.ship.men;
        state.begin(course);
        return men;
    }

    public int fog(int d, int is) {
        if (!within(d, 0, FOG_DAYS - 1) || !within(is, 0, 1)) {
            return bad(BAD);
        }
        int was = state.ship.fog[d];
        state.ship.fog[d] = is;
        state.past.size = 0;
        return was;
    }

    public int man(int kind, int shame) {
        if (!within(kind, 0, MOST_KIND) || !within(shame, 0, MOST_SHAME)) {
            return bad(BAD);
        }
        if (state.ship.men >= MOST_MEN) {
            return full();
        }
        state.past.size = 0;
        return state.ship.addMan(kind, shame);
    }

    public int reader(int kind) {
        if (!within(kind, 0, MOST_KIND)) {
            return bad(BAD);
        }
        if (state.ship.readers >= MOST_READERS) {
            return full();
        }
        state.past.size = 0;
        return state.ship.addReader(kind);
    }

    public int type(int c) {
        if (!within(c, 0, 127)) {
            return bad(BAD);
        }
        if (script.size >= Script.MOST_BYTES) {
            return full();
        }
        return script.add(c);
    }

    public int clear() {
        int had = script.size;
        script.size = 0;
        return had;
    }

    public int read() {
        int answer = script.tell(trial);
        if (answer >= 0) {
            state.begin(trial.course);
            state.ship.copy(trial);
        }
        return answer;
    }

    // ---- noons

    public int noon(int men, int r) {
        Ship ship = state.ship;
        if (!ship.hasSet(men) || !ship.hasReader(r)) {
            return bad(BAD);
        }
        if (ship.day >= LAST_DAY) {
            return no();
        }
        state.past.push(ship);
        ship.sail(men, r);
        return ship.place;
    }

    public int deed(int i, int n) {
        Ship ship = state.ship;
        if (!ship.hasMan(i) || !within(n, 1, MOST_SHAME)) {
            return bad(BAD);
        }
        state.past.push(ship);
        ship.addShame(i, n);
        return ship.shames[i];
    }

    public int undo() {
        if (state.past.size <= 0) {
            return no();
        }
        state.past.pop(state.ship);
        return state.ship.day;
    }

    public int now(int what) {
        Ship ship = state.ship;
        switch (what) {
            case 0: return ship.place;
            case 1: return ship.log;
            case 2: return ship.course;
            case 3: return ship.foggy() ? 1 : 0;
            default: return bad(BAD);
        }
    }

    public int of(int i, int what) {
        if (!state.ship.hasMan(i) || !within(what, 0, 1)) {
            return bad(BAD);
        }
        return what == 0 ? state.ship.kinds[i] : state.ship.shames[i];
    }

    // ---- angles

    public int angle(int i) {
        if (!state.ship.hasMan(i)) {
            return bad(BAD);
        }
        return state.ship.angleOf(i);
    }

    public int reads(int i, int r) {
        if (!state.ship.hasMan(i) || !state.ship.hasReader(r)) {
            return bad(BAD);
        }
        return state.ship.sightOf(i, r);
    }

    public int error(int men, int r) {
        if (!state.ship.hasSet(men) || !state.ship.hasReader(r)) {
            return bad(BAD_ERROR);
        }
        return state.ship.errorOf(men, r);
    }

    public int off() {
        return state.ship.drift();
    }

    public int then(int men, int r, int m) {
        if (!state.ship.hasSet(men) || !state.ship.hasReader(r) || !within(m, 0, MOST_NOONS_AHEAD)) {
            return bad(BAD_ERROR);
        }
        trial.copy(state.ship);
        for (int k = 0; k < m; k++) {
            trial.sail(men, r);
        }
        return trial.drift();
    }

    public int when(int i, int x) {
        if (!state.ship.hasMan(i) || !within(x, 1, MOST_SHAME)) {
            return bad(BAD);
        }
        trial.copy(state.ship);
        for (int k = 0; k <= MOST_NOONS_AHEAD; k++) {
            if (trial.angleOf(i) >= x) {
                return k;
            }
            trial.sail(0, NONE);
        }
        return NONE;
    }

    public int best(int n, int r, int what) {
        Ship ship = state.ship;
        if (!within(n, 0, ship.men) || !ship.hasReader(r) || !within(what, 0, 1)) {
            return bad(BAD);
        }
        int set = Choices.leastOff(ship, n, r);
        return what == 0 ? set : Math.abs(ship.errorOf(set, r));
    }

    public int fewest(int e, int r) {
        if (!within(e, -MOST_ERROR_ASKED, MOST_ERROR_ASKED) || !state.ship.hasReader(r)) {
            return bad(BAD);
        }
        return Choices.fewestOff(state.ship, e, r);
    }

    public int cape(int x, int r, int i) {
        if (!within(x, 0, PLACES - 1) || !state.ship.hasReader(r) || i < NONE) {
            return bad(BAD_PLACE);
        }
        int noons = route.fewestNoons(state.ship, x, r);
        if (noons == NONE) {
            return NO_WAY;
        }
        if (i == NONE) {
            return noons;
        }
        return i < noons ? route.row[i] : NOT_SO_MANY;
    }

    public int watch(int i) {
        if (i != NONE && !state.ship.hasMan(i)) {
            return bad(BAD_PLACE);
        }
        int ways = watches.ways(state.ship);
        if (i == NONE) {
            return ways;
        }
        return ways == 0 ? NO_WAY : watches.first[i];
    }

    public int mutiny(int r) {
        if (!state.ship.hasReader(r)) {
            return bad(BAD);
        }
        return Choices.mostAlike(state.ship, r);
    }

    // ---- what it was

    public int seen(int i, int d, int a) {
        if (!state.ship.hasMan(i) || !within(d, 0, MOST_TOLD_DAY) || !within(a, 0, MOST_SHAME)) {
            return bad(BAD);
        }
        return state.seen.isFull() ? full() : state.seen.add(i, d, a, 0);
    }

    public int began(int i, int what) {
        if (!state.ship.hasMan(i) || !within(what, 0, 2)) {
            return bad(BAD);
        }
        switch (what) {
            case 0: return Guesses.howManyBegan(state, i);
            case 1: return Guesses.leastBegan(state, i);
            default: return Guesses.greatestBegan(state, i);
        }
    }

    public int note(int i, int m, int d, int a) {
        if (!state.ship.hasMan(i) || !within(m, 0, MOST_SHAME)
                || !within(d, 0, MOST_TOLD_DAY) || !within(a, 0, MOST_SHAME)) {
            return bad(BAD);
        }
        return state.notes.isFull() ? full() : state.notes.add(i, m, d, a);
    }

    public int mark(int r, int a, int d, int x) {
        if (!state.ship.hasReader(r) || !within(a, 0, MOST_SHAME)
                || !within(d, 0, MOST_TOLD_DAY) || !within(x, 0, MOST_TOLD_READING)) {
            return bad(BAD);
        }
        return state.marks.isFull() ? full() : state.marks.add(r, a, d, x);
    }

    public int forget(int what) {
        switch (what) {
            case 0: return state.seen.empty();
            case 1: return state.notes.empty();
            case 2: return state.marks.empty();
            default: return bad(BAD);
        }
    }

    public int is(int i) {
        if (!state.ship.hasMan(i)) {
            return bad(BAD);
        }
        return Guesses.kindsThatFit(state.notes, i, true);
    }

    public int look(int i) {
        if (!state.ship.hasMan(i)) {
            return bad(BAD);
        }
        return guesses.nextLook(Guesses.kindsThatFit(state.notes, i, true));
    }

    public int kinds(int r) {
        if (!state.ship.hasReader(r)) {
            return bad(BAD);
        }
        return Guesses.kindsThatFit(state.marks, r, false);
    }

    public int ask(int r) {
        if (!state.ship.hasReader(r)) {
            return bad(BAD);
        }
        return guesses.nextAsk(Guesses.kindsThatFit(state.marks, r, false));
    }

    public int officers(int r, int k) {
        if (!state.ship.hasReader(r) || k < NONE) {
            return bad(BAD_PLACE);
        }
        int found = Choices.restingPairs(state.ship, r, k);
        if (k == NONE) {
            return found;
        }
        return found == NONE ? NOT_SO_MANY : found;
    }

    public int slips(int men, int r, int c) {
        Ship ship = state.ship;
        if (!ship.hasSet(men) || !ship.hasReader(r) || !within(c, 0, 10)) {
            return bad(BAD);
        }
        if (ship.foggy()) {
            chance.setSure();
        } else {
            chance.setSlips(Integer.bitCount(men), -ship.errorOf(men, r), c);
        }
        return 1;
    }

    public int voyages(int seed, int n) {
        if (!within(seed, 0, MOST_SEED) || !within(n, 0, MOST_NOONS_AHEAD)) {
            return bad(BAD);
        }
        trial.copy(state.ship);
        long x = seed;
        int sum = 0;
        for (int k = 0; k < n; k++) {
            x = (x * 1103515245L + 12345L) % 2147483648L;
            int i = (int) (x / 65536L % 6L);
            int r = (int) (x / 1048576L % 3L);
            boolean measured = trial.hasMan(i) && trial.hasReader(r);
            trial.sail(measured ? 1 << i : 0, r);
            sum += Math.abs(trial.drift());
        }
        return sum;
    }

    // ---- what there is

    public long part(int what) {
        switch (what) {
            case 0: return chance.above;
            case 1: return chance.below;
            default: return bad(BAD);
        }
    }

    public int image(int i) {
        if (!within(i, 0, IMAGES - 1)) {
            return bad(BAD);
        }
        images[i].copy(state);
        kept[i] = true;
        return 1;
    }

    public int from(int i) {
        if (!within(i, 0, IMAGES - 1)) {
            return bad(BAD);
        }
        if (!kept[i]) {
            return no();
        }
        state.copy(images[i]);
        return 1;
    }

    public int status(int what) {
        switch (what) {
            case 0: return bads;
            case 1: return nos;
            case 2: return fulls;
            default: return bad(-1);
        }
    }

    public int count(int what) {
        switch (what) {
            case 0: return state.ship.men;
            case 1: return state.ship.readers;
            case 2: return state.ship.day;
            case 3: return state.ship.shameOfAll();
            case 4: return state.seen.size;
            case 5: return state.notes.size;
            case 6: return state.marks.size;
            case 7: return state.past.size;
            case 8: return script.size;
            default: return bad(BAD);
        }
    }

    public long digest() {
        long h = 1543L;
        for (int k = 0; k <= 8; k++) {
            h = 31L * h + count(k);
        }
        for (int k = 0; k <= 2; k++) {
            h = 31L * h + now(k);
        }
        h = state.ship.digestOn(h);
        h = state.seen.digestOn(h);
        h = state.notes.digestOn(h);
        h = state.marks.digestOn(h);
        h = 31L * h + chance.above;
        return 31L * h + chance.below;
    }

    private static boolean within(int number, int low, int high) {
        return number >= low && number <= high;
    }

    private int bad(int answer) {
        bads++;
        return answer;
    }

    private int no() {
        nos++;
        return NO;
    }

    private int full() {
        fulls++;
        return FULL;
    }

    /** What each KIND makes of a SHAME (men) or of an ANGLE (readers). */
    private static final class Kinds {
        private static final int LIAR = 1, SAINT = 2, COOK = 3, BOSUN = 4, ADMIRAL = 5;
        private static final int SQUINT = 1, INDEX = 2, DIP = 3, SILVERED = 4, TIRED = 5;

        private Kinds() {
        }

        static int stands(int kind, int shame, int day) {
            int liar = shame + 5 < MOST_SHAME ? shame + 5 : MOST_SHAME;
            int saint = shame > 10 ? shame - 10 : 0;
            int bosun = shame + (shame + 1) / 2;
            switch (kind) {
                case LIAR: return liar;
                case SAINT: return saint;
                case COOK: return day % 7 == 0 ? MOST_SHAME : liar;
                case BOSUN: return bosun < MOST_SHAME ? bosun : MOST_SHAME;
                case ADMIRAL: return saint / 3;
                default: return shame;
            }
        }

        static int sees(int kind, int angle, int day) {
            int squint = angle + 2;
            int index = angle > 3 ? angle - 3 : 0;
            int tired = index - day % 2;
            switch (kind) {
                case SQUINT: return squint;
                case INDEX: return index;
                case DIP: return squint + angle / 30;
                case SILVERED: return angle - angle % 10;
                case TIRED: return tired > 0 ? tired : 0;
                default: return angle;
            }
        }

        /** What a MAN of this KIND makes of a SHAME, or a READER of an ANGLE. */
        static int makes(boolean man, int kind, int what, int day) {
            return man ? stands(kind, what, day) : sees(kind, what, day);
        }
    }

    /** THE SHIP: where it is, its DAY, its FOG, its MEN and its READERS. */
    private static final class Ship {
        int place;
        int log;
        int course;
        int day;
        int men;
        int readers;
        final int[] fog = new int[FOG_DAYS];
        final int[] kinds = new int[MOST_MEN];
        final int[] shames = new int[MOST_MEN];
        final int[] glasses = new int[MOST_READERS];

        void begin(int leagues) {
            place = 0;
            log = 0;
            course = leagues;
            day = 0;
            men = 0;
            readers = 0;
            for (int d = 0; d < FOG_DAYS; d++) {
                fog[d] = 0;
            }
        }

        void copy(Ship other) {
            place = other.place;
            log = other.log;
            course = other.course;
            day = other.day;
            men = other.men;
            readers = other.readers;
            System.arraycopy(other.fog, 0, fog, 0, FOG_DAYS);
            System.arraycopy(other.kinds, 0, kinds, 0, MOST_MEN);
            System.arraycopy(other.shames, 0, shames, 0, MOST_MEN);
            System.arraycopy(other.glasses, 0, glasses, 0, MOST_READERS);
        }

        boolean hasMan(int i) {
            return i >= 0 && i < men;
        }

        boolean hasReader(int r) {
            return r >= 0 && r < readers;
        }

        boolean hasSet(int set) {
            return set >= 0 && set < 1 << men;
        }

        int addMan(int kind, int shame) {
            if (men >= MOST_MEN) {
                return FULL;
            }
            kinds[men] = kind;
            shames[men] = shame;
            men++;
            return men - 1;
        }

        int addReader(int kind) {
            if (readers >= MOST_READERS) {
                return FULL;
            }
            glasses[readers] = kind;
            readers++;
            return readers - 1;
        }

        void addShame(int i, int n) {
            if (hasMan(i)) {
                shames[i] = Math.min(shames[i] + n, MOST_SHAME);
            }
        }

        boolean foggy() {
            return fog[day % FOG_DAYS] != 0;
        }

        int angleOf(int i) {
            return hasMan(i) ? Kinds.stands(kinds[i], shames[i], day) : 0;
        }

        int sightOf(int i, int r) {
            return hasReader(r) ? Kinds.sees(glasses[r], angleOf(i), day) : 0;
        }

        int errorOf(int set, int r) {
            int sum = 0;
            if (hasReader(r) && !foggy()) {
                for (int i = 0; i < men; i++) {
                    if ((set >> i & 1) != 0) {
                        int angle = Kinds.stands(kinds[i], shames[i], day);
                        sum += Kinds.sees(glasses[r], angle, day) - angle;
                    }
                }
            }
            return sum;
        }

        int placeBehind(int error) {
            return Math.floorMod(place + course + error, PLACES);
        }

        void sail(int set, int r) {
            place = placeBehind(errorOf(set, r));
            log = (log + course) % PLACES;
            if (!foggy()) {
                for (int i = 0; i < men; i++) {
                    boolean measured = (set >> i & 1) != 0;
                    shames[i] = measured ? Math.max(shames[i] - 1, 0) : Math.min(shames[i] + 3, MOST_SHAME);
                }
            }
            day++;
        }

        int drift() {
            return Math.floorMod(place - log + PLACES / 2, PLACES) - PLACES / 2;
        }

        int shameOfAll() {
            int sum = 0;
            for (int i = 0; i < men; i++) {
                sum += shames[i];
            }
            return sum;
        }

        /** SHAME on a DAY of one who had this much on DAY 0, with nobody measured since. */
        int shameBy(int began, int d) {
            int clear = 0;
            for (int k = 0; k < FOG_DAYS; k++) {
                if (fog[k] == 0) {
                    clear += (d + FOG_DAYS - 1 - k) / FOG_DAYS;
                }
            }
            return Math.min(began + 3 * clear, MOST_SHAME);
        }

        long digestOn(long from) {
            long h = from;
            for (int d = 0; d < FOG_DAYS; d++) {
                h = 31L * h + fog[d];
            }
            for (int i = 0; i < men; i++) {
                h = 31L * h + kinds[i];
                h = 31L * h + shames[i];
            }
            for (int r = 0; r < readers; r++) {
                h = 31L * h + glasses[r];
            }
            return h;
        }
    }

    /** Up to six rows of three or four numbers, as they come: SEEN ones, NOTES, MARKS. */
    private static final class Rows {
        private static final int MOST_ROWS = 6, MOST_WIDTH = 4;

        int size;
        private final int width;
        private final int[] cells = new int[MOST_ROWS * MOST_WIDTH];

        Rows(int columns) {
            width = columns;
        }

        boolean isFull() {
            return size >= MOST_ROWS;
        }

        int add(int a, int b, int c, int d) {
            if (isFull()) {
                return FULL;
            }
            int at = size * MOST_WIDTH;
            cells[at] = a;
            cells[at + 1] = b;
            cells[at + 2] = c;
            cells[at + 3] = d;
            size++;
            return size;
        }

        int cell(int row, int column) {
            boolean there = row >= 0 && row < size && column >= 0 && column < MOST_WIDTH;
            return there ? cells[row * MOST_WIDTH + column] : 0;
        }

        int empty() {
            int had = size;
            size = 0;
            return had;
        }

        void copy(Rows other) {
            size = other.size;
            System.arraycopy(other.cells, 0, cells, 0, MOST_ROWS * MOST_WIDTH);
        }

        long digestOn(long from) {
            long h = from;
            for (int row = 0; row < size; row++) {
                for (int column = 0; column < width; column++) {
                    h = 31L * h + cell(row, column);
                }
            }
            return h;
        }
    }

    /** What may be undone: SHAMES, PLACE, LOG and the DAY ahead of each of the last NOONS and DEEDS. */
    private static final class Past {
        private static final int MOST_STEPS = 8, WIDTH = MOST_MEN + 3;

        int size;
        private final int[] cells = new int[MOST_STEPS * WIDTH];

        void push(Ship ship) {
            if (size >= MOST_STEPS) {
                System.arraycopy(cells, WIDTH, cells, 0, (MOST_STEPS - 1) * WIDTH);
                size = MOST_STEPS - 1;
            }
            int at = size * WIDTH;
            System.arraycopy(ship.shames, 0, cells, at, MOST_MEN);
            cells[at + MOST_MEN] = ship.place;
            cells[at + MOST_MEN + 1] = ship.log;
            cells[at + MOST_MEN + 2] = ship.day;
            size++;
        }

        void pop(Ship ship) {
            if (size <= 0) {
                return;
            }
            size--;
            int at = size * WIDTH;
            System.arraycopy(cells, at, ship.shames, 0, MOST_MEN);
            ship.place = cells[at + MOST_MEN];
            ship.log = cells[at + MOST_MEN + 1];
            ship.day = cells[at + MOST_MEN + 2];
        }

        void copy(Past other) {
            size = other.size;
            System.arraycopy(other.cells, 0, cells, 0, MOST_STEPS * WIDTH);
        }
    }

    /** All that an IMAGE keeps. */
    private static final class State {
        private static final int FIRST_COURSE = 5;

        final Ship ship = new Ship();
        final Rows seen = new Rows(3);
        final Rows notes = new Rows(4);
        final Rows marks = new Rows(4);
        final Past past = new Past();

        State() {
            ship.course = FIRST_COURSE;
        }

        void begin(int course) {
            ship.begin(course);
            seen.size = 0;
            notes.size = 0;
            marks.size = 0;
            past.size = 0;
        }

        void copy(State other) {
            ship.copy(other.ship);
            seen.copy(other.seen);
            notes.copy(other.notes);
            marks.copy(other.marks);
            past.copy(other.past);
        }
    }

    /** THE TEXT, and the way from it to a ship. */
    private static final class Script {
        static final int MOST_BYTES = 150;
        private static final int END = 0, WORD = 1, NUMBER = 2, SEMICOLON = 3, WRONG = 4;

        int size;
        private final int[] bytes = new int[MOST_BYTES];
        // the TOKEN that is looked at: where it starts, where the next may, which it is, its number
        private int start;
        private int behind;
        private int token;
        private int value;

        int add(int c) {
            if (size >= MOST_BYTES) {
                return FULL;
            }
            bytes[size] = c;
            size++;
            return size;
        }

        /** How many ITEMS it took to make this ship; -10 less the FAULT, and then the ship is of no use. */
        int tell(Ship ship) {
            behind = 0;
            advance();
            for (int items = 0; items < MOST_BYTES; items++) {
                if (token == END && items > 0) {
                    return items;
                }
                if (!item(ship, items == 0)) {
                    return -10 - start;
                }
            }
            return -10 - start;
        }

        // Each of these leaves the TOKEN that can not stand there as the one looked at.

        private boolean item(Ship ship, boolean first) {
            boolean begins = wordIs("ship");
            if (begins != first) {
                return false;
            }
            if (begins) {
                return shipItem(ship);
            }
            if (wordIs("fog")) {
                return fogItem(ship);
            }
            if (wordIs("man")) {
                return ship.men < MOST_MEN && manItem(ship);
            }
            if (wordIs("reader")) {
                return ship.readers < MOST_READERS && readerItem(ship);
            }
            if (wordIs("deed")) {
                return deedItem(ship);
            }
            return wordIs("noon") && noonItem(ship);
        }

        private boolean shipItem(Ship ship) {
            advance();
            int course = number(0, MOST_COURSE);
            if (course == NONE || !ended()) {
                return false;
            }
            ship.begin(course);
            return true;
        }

        private boolean fogItem(Ship ship) {
            advance();
            for (int d = 0; d < FOG_DAYS; d++) {
                if (d > 0 && token == SEMICOLON) {
                    break;
                }
                int is = number(0, 1);
                if (is == NONE) {
                    return false;
                }
                ship.fog[d] = is;
            }
            return ended();
        }

        private boolean manItem(Ship ship) {
            advance();
            int kind = number(0, MOST_KIND);
            if (kind == NONE) {
                return false;
            }
            int shame = number(0, MOST_SHAME);
            if (shame == NONE || !ended()) {
                return false;
            }
            ship.addMan(kind, shame);
            return true;
        }

        private boolean readerItem(Ship ship) {
            advance();
            int kind = number(0, MOST_KIND);
            if (kind == NONE || !ended()) {
                return false;
            }
            ship.addReader(kind);
            return true;
        }

        private boolean deedItem(Ship ship) {
            advance();
            int i = number(0, ship.men - 1);
            if (i == NONE) {
                return false;
            }
            int n = number(1, MOST_SHAME);
            if (n == NONE || !ended()) {
                return false;
            }
            ship.addShame(i, n);
            return true;
        }

        private boolean noonItem(Ship ship) {
            advance();
            int r = number(0, ship.readers - 1);
            if (r == NONE) {
                return false;
            }
            int set = 0;
            for (int k = 0; k < MOST_MEN && token != SEMICOLON; k++) {
                if (token == NUMBER && value < ship.men && (set >> value & 1) != 0) {
                    return false;
                }
                int i = number(0, ship.men - 1);
                if (i == NONE) {
                    return false;
                }
                set |= 1 << i;
            }
            if (!ended()) {
                return false;
            }
            ship.sail(set, r);
            return true;
        }

        private boolean ended() {
            if (token != SEMICOLON) {
                return false;
            }
            advance();
            return true;
        }

        private int number(int low, int high) {
            if (token != NUMBER || value < low || value > high) {
                return NONE;
            }
            int told = value;
            advance();
            return told;
        }

        private boolean wordIs(String word) {
            if (token != WORD || behind - start != word.length()) {
                return false;
            }
            for (int k = 0; k < word.length() && start + k < size; k++) {
                if (bytes[start + k] != word.charAt(k)) {
                    return false;
                }
            }
            return true;
        }

        private void advance() {
            while (behind < size && bytes[behind] == ' ') {
                behind++;
            }
            start = behind;
            if (behind >= size) {
                token = END;
            } else if (bytes[behind] == ';') {
                token = SEMICOLON;
                behind++;
            } else if (isLetter(bytes[behind])) {
                advanceWord();
            } else if (isFigure(bytes[behind])) {
                advanceNumber();
            } else {
                token = WRONG;
            }
        }

        private void advanceWord() {
            token = WORD;
            while (behind < size && isLetter(bytes[behind])) {
                behind++;
            }
        }

        private void advanceNumber() {
            value = 0;
            while (behind < size && isFigure(bytes[behind])) {
                value = 10 * value + bytes[behind] - '0';
                behind++;
            }
            token = behind - start <= 2 ? NUMBER : WRONG;
        }

        private static boolean isLetter(int c) {
            return c >= 'a' && c <= 'z';
        }

        private static boolean isFigure(int c) {
            return c >= '0' && c <= '9';
        }
    }

    /** The soonest row of NOONS to a CAPE. */
    private static final class Route {
        private static final int MOST_NOONS = 5;
        // the least and the greatest ERROR that a READER of each KIND can make of one MAN or of nobody
        private static final int[] LEAST = {0, 0, -3, 0, -9, -4};
        private static final int[] GREATEST = {0, 2, 0, 5, 0, 0};

        final int[] row = new int[MOST_NOONS];
        // the ship ahead of each NOON of the row that is tried
        private final Ship[] legs = new Ship[MOST_NOONS];

        Route() {
            for (int k = 0; k < MOST_NOONS; k++) {
                legs[k] = new Ship();
            }
        }

        /** How many NOONS, whom in row; NONE: none. */
        int fewestNoons(Ship ship, int cape, int r) {
            if (ship.place == cape) {
                return 0;
            }
            legs[0].copy(ship);
            for (int noons = 1; noons <= MOST_NOONS; noons++) {
                if (arrives(this, 0, noons, cape, r)) {
                    return noons;
                }
            }
            return NONE;
        }

        private static boolean arrives(Route route, int k, int left, int cape, int r) {
            if (k < 0 || left < 1 || k + left > MOST_NOONS) {
                return false;
            }
            Ship ship = route.legs[k];
            if (!mayArrive(ship, left, cape, r)) {
                return false;
            }
            for (int i = NONE; i < ship.men; i++) {
                int set = i == NONE ? 0 : 1 << i;
                boolean there;
                if (left == 1) {
                    there = ship.placeBehind(ship.errorOf(set, r)) == cape;
                } else {
                    route.legs[k + 1].copy(ship);
                    route.legs[k + 1].sail(set, r);
                    there = arrives(route, k + 1, left - 1, cape, r);
                }
                if (there) {
                    route.row[k] = i;
                    return true;
                }
            }
            return false;
        }

        /** Without this, a CAPE out of reach would cost all rows of five NOONS. */
        private static boolean mayArrive(Ship ship, int left, int cape, int r) {
            if (!ship.hasReader(r)) {
                return false;
            }
            int kind = ship.glasses[r];
            if (kind < 0 || kind > MOST_KIND) {
                return false;
            }
            int need = cape - ship.place - left * ship.course;
            int above = Math.floorMod(need - left * LEAST[kind], PLACES);
            return above <= left * (GREATEST[kind] - LEAST[kind]);
        }
    }

    /** Who READS whom, so that no two are READ alike. */
    private static final class Watches {
        final int[] first = new int[MOST_MEN];
        private final int[] chosen = new int[MOST_MEN];
        private final int[] sights = new int[MOST_MEN];
        private int found;

        /** How many ways there are; the first of them stays in first. */
        int ways(Ship ship) {
            found = 0;
            assign(this, ship, 0);
            return found;
        }

        private static void assign(Watches watches, Ship ship, int i) {
            if (i >= ship.men || i >= MOST_MEN) {
                watches.keep();
                return;
            }
            for (int r = 0; r < ship.readers; r++) {
                int sight = ship.sightOf(i, r);
                if (!watches.isTaken(i, sight)) {
                    watches.chosen[i] = r;
                    watches.sights[i] = sight;
                    assign(watches, ship, i + 1);
                }
            }
        }

        private boolean isTaken(int i, int sight) {
            for (int k = 0; k < i; k++) {
                if (sights[k] == sight) {
                    return true;
                }
            }
            return false;
        }

        private void keep() {
            if (found == 0) {
                System.arraycopy(chosen, 0, first, 0, MOST_MEN);
            }
            found++;
        }
    }

    /** Whom to measure today. */
    private static final class Choices {
        private Choices() {
        }

        static int leastOff(Ship ship, int n, int r) {
            int best = NONE;
            int nearest = 0;
            for (int set = 0; set < 1 << ship.men; set++) {
                if (Integer.bitCount(set) == n) {
                    int far = Math.abs(ship.errorOf(set, r));
                    if (best == NONE || far < nearest) {
                        best = set;
                        nearest = far;
                    }
                }
            }
            return best;
        }

        static int fewestOff(Ship ship, int e, int r) {
            int best = NONE;
            for (int set = 0; set < 1 << ship.men; set++) {
                boolean fewer = best == NONE || Integer.bitCount(set) < Integer.bitCount(best);
                if (fewer && ship.errorOf(set, r) == e) {
                    best = set;
                }
            }
            return best;
        }

        static int mostAlike(Ship ship, int r) {
            int best = 0;
            for (int i = 0; i < ship.men; i++) {
                int alike = 0;
                for (int j = 0; j < ship.men; j++) {
                    if (ship.sightOf(i, r) == ship.sightOf(j, r)) {
                        alike |= 1 << j;
                    }
                }
                if (Integer.bitCount(alike) > Integer.bitCount(best)) {
                    best = alike;
                }
            }
            return best;
        }

        /** How many pairs rest (k is NONE); the k-th of them, or NONE. */
        static int restingPairs(Ship ship, int r, int k) {
            int found = 0;
            for (int i = 0; i < ship.men; i++) {
                for (int j = 0; j < ship.men; j++) {
                    if (rests(ship, r, i, j)) {
                        if (found == k) {
                            return 10 * i + j;
                        }
                        found++;
                    }
                }
            }
            return k == NONE ? found : NONE;
        }

        private static boolean rests(Ship ship, int r, int i, int j) {
            int far = farOff(ship, r, i, j);
            int angle = ship.angleOf(j);
            for (int other = 0; other < ship.men; other++) {
                if (farOff(ship, r, other, j) < far || ship.angleOf(other) > angle) {
                    return false;
                }
            }
            return true;
        }

        private static int farOff(Ship ship, int r, int i, int j) {
            return Math.abs(ship.errorOf(1 << i | 1 << j, r));
        }
    }

    /** What it was, by what was told: SHAMES one began with, KINDS, and the next look at them. */
    private static final class Guesses {
        // what each KIND makes of what is looked at
        private final int[] values = new int[MOST_KIND + 1];

        static int howManyBegan(State state, int i) {
            int found = 0;
            for (int shame = 0; shame <= MOST_SHAME; shame++) {
                if (mayHaveBegun(state, i, shame)) {
                    found++;
                }
            }
            return found;
        }

        static int leastBegan(State state, int i) {
            for (int shame = 0; shame <= MOST_SHAME; shame++) {
                if (mayHaveBegun(state, i, shame)) {
                    return shame;
                }
            }
            return NONE;
        }

        static int greatestBegan(State state, int i) {
            for (int shame = MOST_SHAME; shame >= 0; shame--) {
                if (mayHaveBegun(state, i, shame)) {
                    return shame;
                }
            }
            return NONE;
        }

        private static boolean mayHaveBegun(State state, int i, int shame) {
            Ship ship = state.ship;
            if (!ship.hasMan(i)) {
                return false;
            }
            for (int row = 0; row < state.seen.size; row++) {
                if (state.seen.cell(row, 0) == i) {
                    int day = state.seen.cell(row, 1);
                    int angle = Kinds.stands(ship.kinds[i], ship.shameBy(shame, day), day);
                    if (angle != state.seen.cell(row, 2)) {
                        return false;
                    }
                }
            }
            return true;
        }

        /** KINDS (bits) of a MAN by his NOTES, of a READER by the MARKS. */
        static int kindsThatFit(Rows told, int who, boolean man) {
            int bits = 0;
            for (int kind = 0; kind <= MOST_KIND; kind++) {
                if (fits(told, who, man, kind)) {
                    bits |= 1 << kind;
                }
            }
            return bits;
        }

        private static boolean fits(Rows told, int who, boolean man, int kind) {
            for (int row = 0; row < told.size; row++) {
                int made = Kinds.makes(man, kind, told.cell(row, 1), told.cell(row, 2));
                if (told.cell(row, 0) == who && told.cell(row, 3) != made) {
                    return false;
                }
            }
            return true;
        }

        int nextLook(int bits) {
            int best = NONE;
            int fewest = MOST_KIND + 2;
            for (int day = 0; bits != 0 && day <= 7; day++) {
                for (int tens = 0; tens <= 9; tens++) {
                    int alike = mostAlike(bits, true, 10 * tens, day);
                    if (alike < fewest) {
                        fewest = alike;
                        best = 10 * day + tens;
                    }
                }
            }
            return best;
        }

        int nextAsk(int bits) {
            int best = NONE;
            int fewest = MOST_KIND + 2;
            for (int day = 0; bits != 0 && day <= 1; day++) {
                for (int angle = 0; angle <= MOST_SHAME; angle++) {
                    int alike = mostAlike(bits, false, angle, day);
                    if (alike < fewest) {
                        fewest = alike;
                        best = 100 * day + angle;
                    }
                }
            }
            return best;
        }

        /** The most of these KINDS that make the same of it. */
        private int mostAlike(int bits, boolean man, int what, int day) {
            for (int kind = 0; kind <= MOST_KIND; kind++) {
                values[kind] = Kinds.makes(man, kind, what, day);
            }
            int most = 0;
            for (int kind = 0; kind <= MOST_KIND; kind++) {
                if ((bits >> kind & 1) != 0) {
                    int alike = 0;
                    for (int other = 0; other <= MOST_KIND; other++) {
                        if ((bits >> other & 1) != 0 && values[other] == values[kind]) {
                            alike++;
                        }
                    }
                    most = Math.max(most, alike);
                }
            }
            return most;
        }
    }

    /** THE FRACTION. */
    private static final class Chance {
        long above = 0L;
        long below = 1L;

        void setSure() {
            above = 1L;
            below = 1L;
        }

        /** That just so many of n slip, each by c of 10. */
        void setSlips(int n, int slipped, int c) {
            above = slipped < 0 || slipped > n ? 0L : 1L;
            below = 1L;
            for (int k = 0; k < n; k++) {
                above *= k < slipped ? c : 10 - c;
                below *= 10L;
            }
            // one quotient after another is whole: n over 1, n over 2, ..
            long ways = 1L;
            for (int k = 1; k <= slipped && k <= n; k++) {
                ways = ways * (n - k + 1) / k;
            }
            above *= ways;
            reduce(n);
        }

        /** Below is a power of ten, so 2 and 5 are all that may be common. */
        private void reduce(int n) {
            for (int k = 0; k < n; k++) {
                if (above % 2L == 0L && below % 2L == 0L) {
                    above /= 2L;
                    below /= 2L;
                }
                if (above % 5L == 0L && below % 5L == 0L) {
                    above /= 5L;
                    below /= 5L;
                }
            }
        }
    }
}
