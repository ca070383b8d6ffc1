import java.util.NoSuchElementException;

/** Slides of state: a lantern, its slides and its hearers, as ../shared/DOC.md promises them. */
public final class LanternState {
    public static final int NONE = -1;

    private static final int MOST_SLIDES = 6;
    private static final int MOST_HEARERS = 8;
    private static final int MOST_NEAR = 12;
    private static final int MOST_LINES = 40;
    private static final int MOST_ONES = 20;
    private static final int MOST_WITHIN = 8;
    private static final int MOST_SCRATCHES = 4;
    private static final int MOST_HOURS = 400;
    private static final int HOURS_A_CALL = 24;
    private static final int SEEDS_A_CALL = 30;
    private static final int HOURS_OF_ODDS = 20;
    private static final int TURNS_TO_MOVE = 12;
    private static final int COOLER_AN_HOUR = 5;
    private static final int ACTS_KEPT = 8;
    private static final int IMAGES_KEPT = 2;

    private static final int TAPE_BYTES = 940;
    private static final int SESSION_BYTES = 900;
    private static final int BOOK_BYTES = 400;
    private static final int SENTENCE_BYTES = 200;
    private static final int SEEN_BYTES = 8;

    private static final int WAYS = 4;
    private static final int SIDE = 4;
    private static final int CELLS = 16;
    private static final int ALL_CELLS = 0xFFFF;

    private static final int FAULT_TOKEN = 1;
    private static final int FAULT_NUMBER = 2;
    private static final int FAULT_NAME = 3;
    private static final int FAULT_TOO_MANY = 4;

    private static final int WHY_CRACKED = 1;
    private static final int WHY_BEHIND = 2;
    private static final int WHY_BLACK = 3;
    private static final int WHY_SITS_SO = 1;
    private static final int WHY_HOURS = 41;
    private static final int IT_CRACKED = -5;
    private static final int NO_SUCH_LIVES = -1000;

    /** The words that no NAME may be; a word's place in this row is its KEY below. */
    private static final String KEYWORDS =
        "slide hearer likes hates near after pass spread lamp front behind shown over scratch sits hour or and not so cracked even like light heat sighs number ";
    private static final int KEY_COUNT = 27;
    private static final int KEY_SLIDE = 0;
    private static final int KEY_HEARER = 1;
    private static final int KEY_LIKES = 2;
    private static final int KEY_HATES = 3;
    private static final int KEY_NEAR = 4;
    private static final int KEY_AFTER = 5;
    private static final int KEY_PASS = 6;
    private static final int KEY_SPREAD = 7;
    private static final int KEY_LAMP = 8;
    private static final int KEY_FRONT = 9;
    private static final int KEY_BEHIND = 10;
    private static final int KEY_SHOWN = 11;
    private static final int KEY_OVER = 12;
    private static final int KEY_SCRATCH = 13;
    private static final int KEY_SITS = 14;
    private static final int KEY_HOUR = 15;
    private static final int KEY_OR = 16;
    private static final int KEY_AND = 17;
    private static final int KEY_NOT = 18;
    private static final int KEY_SO = 19;
    private static final int KEY_CRACKED = 20;
    private static final int KEY_EVEN = 21;
    private static final int KEY_LIKE = 22;
    private static final int KEY_LIGHT = 23;
    private static final int KEY_HEAT = 24;
    private static final int KEY_SIGHS = 25;
    private static final int KEY_NUMBER = 26;

    private final Tape tape = new Tape();
    private final Scene scene = new Scene();
    private final Scene draftScene = new Scene();
    private final State state = new State();
    private final State trial = new State();
    private final History history = new History();
    private final Sentence rule = new Sentence();
    private final Sentence draftRule = new Sentence();
    private final Book pages = new Book();
    private final Search search = new Search();
    private final Bill notice = new Bill();
    private final Image[] images = new Image[IMAGES_KEPT];
    private final int[] toldRow = new int[4];
    private boolean toldAny;
    private int lastFault;
    private int lastMoved = NONE;
    private int lastScratched = NONE;

    public LanternState() {
        for (int k = 0; k < IMAGES_KEPT; k++) {
            images[k] = new Image();
        }
    }

    public int feed(int a, int b, int c, int d, int e) {
        if (tape.size + 20 > TAPE_BYTES) {
            return NONE;
        }
        tape.put(a);
        tape.put(b);
        tape.put(c);
        tape.put(d);
        tape.put(e);
        return tape.size;
    }

    public boolean end(int n) {
        if (n < 0 || n > tape.size) {
            return false;
        }
        tape.size = n;
        return true;
    }

    public int session() {
        tape.open(SESSION_BYTES);
        boolean fits = draftScene.read(tape);
        closeText();
        if (!fits) {
            return -1 - tape.faultPlace;
        }
        scene.copyFrom(draftScene);
        state.begin(scene);
        rule.there = false;
        history.clear();
        return scene.lines;
    }

    public int fault() {
        return lastFault;
    }

    public int slide(int s, int what) throws NoSuchElementException {
        if (!isSlide(s) || what < 0 || what > 9) {
            throw new NoSuchElementException("no such slide or what");
        }
        switch (what) {
            case 4: return scene.heats[s];
            case 5: return scene.after[s];
            case 6: return state.so >> s & 1;
            case 7: return state.cracked >> s & 1;
            case 8: return state.shown[s];
            case 9: return Integer.bitCount(state.pictures[s]);
            default: return Picture.rowOf(state.pictures[s], what);
        }
    }

    public int row(int s, int way, int seat, int y) {
        if (!isSlide(s) || !isWay(way) || !isSeat(seat) || !isPlace(y)) {
            return NONE;
        }
        int shown = Picture.turn(state.pictures[s], way);
        return Picture.rowOf(seat == 0 ? shown : Picture.mirror(shown), y);
    }

    public int hearer(int h, int what) throws NoSuchElementException {
        if (!isHearer(h) || what < 0 || what > 5) {
            throw new NoSuchElementException("no such hearer or what");
        }
        switch (what) {
            case 1: return scene.needs[h];
            case 2: return Integer.bitCount(scene.likes[h]);
            case 3: return Integer.bitCount(scene.hates[h]);
            case 4: return state.sighed[h];
            case 5: return scene.near[h];
            default: return state.behind >> h & 1;
        }
    }

    public int thinks(int h, int x, int y) {
        if (!isHearer(h) || !isPlace(x) || !isPlace(y)) {
            return NONE;
        }
        int cell = Picture.cell(x, y);
        if ((scene.likes[h] & cell) != 0) {
            return 1;
        }
        return (scene.hates[h] & cell) != 0 ? 2 : 0;
    }

    public int now(int what) {
        switch (what) {
            case 0: return state.hour;
            case 1: return state.heat;
            case 2: return state.black ? 1 : 0;
            case 3: return state.so;
            case 4: return state.cracked;
            case 5: return state.behind;
            case 6: return state.allSighs;
            default: return NONE;
        }
    }

    public int show(int s, int way) {
        if (!isSlide(s) || !isWay(way)) {
            return NONE;
        }
        trial.copyFrom(state);
        return keptShowing(state.showOne(scene, s, way));
    }

    public int over(int s, int t) {
        if (!isSlide(s) || !isSlide(t)) {
            return NONE;
        }
        trial.copyFrom(state);
        return keptShowing(state.showTwo(scene, s, t));
    }

    public int scratch(int s, int x, int y) {
        if (!isSlide(s) || !isPlace(x) || !isPlace(y)) {
            return NONE;
        }
        trial.copyFrom(state);
        int why = state.scratchCell(s, Picture.cell(x, y));
        if (why == 0) {
            history.keep(trial);
        }
        return why;
    }

    public int sit(int h, int seat) {
        if (!isHearer(h) || !isSeat(seat)) {
            return NONE;
        }
        trial.copyFrom(state);
        int why = state.seatHearer(h, seat);
        if (why == 0) {
            history.keep(trial);
        }
        return why;
    }

    public int hours(int n) {
        if (n < 1 || n > HOURS_A_CALL) {
            return NONE;
        }
        trial.copyFrom(state);
        int gone = state.letHoursGo(n);
        if (gone > 0) {
            history.keep(trial);
        }
        return gone;
    }

    public int undo() {
        if (history.size == 0) {
            return NONE;
        }
        history.takeBack(state);
        return history.size;
    }

    public int sighs(int s, int way) {
        if (!isSlide(s) || !isWay(way)) {
            return NONE;
        }
        return sighers(s, way);
    }

    public int best(int s) {
        if (!isSlide(s)) {
            return NONE;
        }
        int found = 0;
        int most = NONE;
        for (int way = 0; way < WAYS; way++) {
            int many = Integer.bitCount(sighers(s, way));
            if (many > most) {
                most = many;
                found = way;
            }
        }
        return found;
    }

    public int spreads(int set) {
        if (set < 0 || set >> scene.hearers != 0) {
            return NONE;
        }
        return scene.spreadFrom(set);
    }

    public int order() {
        return search.findOrder(scene, state);
    }

    public int orderAt(int k) {
        if (k < 0 || k >= search.bestSize) {
            return NONE;
        }
        return search.bestPath[k];
    }

    public int moved(int s, int way) {
        if (!isSlide(s) || !isWay(way)) {
            return NONE;
        }
        int set = search.findMoved(scene, state, Picture.turn(state.pictures[s], way));
        if (set == NONE) {
            return NONE;
        }
        lastMoved = set;
        return Integer.bitCount(set);
    }

    public int movedWho() {
        return lastMoved;
    }

    public int scratches(int s) {
        if (!isSlide(s)) {
            return NONE;
        }
        int set = search.findScratches(scene, state, state.pictures[s]);
        if (set == NONE) {
            return NONE;
        }
        lastScratched = set;
        return Integer.bitCount(set);
    }

    public int scratched() {
        return lastScratched;
    }

    public int seen() {
        int known = tape.pictureFrom(0);
        int light = tape.pictureFrom(SIDE);
        tape.size = 0;
        if (known == NONE || light == NONE || (light & ~known) != 0) {
            return NONE;
        }
        int found = 0;
        for (int s = 0; s < scene.slides; s++) {
            if (Picture.looks(state.pictures[s], known, light)) {
                found |= 1 << s;
            }
        }
        return found;
    }

    public int alike(int s) {
        if (!isSlide(s)) {
            return NONE;
        }
        return state.lookalikes(scene, s) & ~(1 << s);
    }

    public int differ(int s, int t) {
        if (!isSlide(s) || !isSlide(t)) {
            return NONE;
        }
        return Integer.bitCount(state.pictures[s] ^ state.pictures[t]);
    }

    public int parts() {
        int found = NONE;
        int least = 0;
        for (int s = 0; s < scene.slides; s++) {
            int lean = Math.abs(2 * Integer.bitCount(sighers(s, 0)) - scene.hearers);
            boolean cracked = (state.cracked >> s & 1) != 0;
            if (!cracked && (found == NONE || lean < least)) {
                found = s;
                least = lean;
            }
        }
        return found;
    }

    public int bill(int s) {
        if (!isSlide(s)) {
            return NONE;
        }
        notice.write(scene, state, s);
        return notice.size;
    }

    public int byteAt(int i) {
        if (i < 0 || i >= notice.size) {
            return NONE;
        }
        return notice.letters[i];
    }

    public int drawn(int n, int seed) {
        if (n < 1 || n > HOURS_A_CALL || scene.slides == 0) {
            return NONE;
        }
        trial.copyFrom(state);
        int gone = state.drawHours(scene, seed, n);
        if (gone > 0) {
            history.keep(trial);
        }
        return gone;
    }

    public int odds(int s, int n, int seed) {
        if (!isSlide(s) || n < 1 || n > SEEDS_A_CALL) {
            return NONE;
        }
        int many = 0;
        for (int i = 0; i < n; i++) {
            trial.copyFrom(state);
            trial.drawHours(scene, seed + i, HOURS_OF_ODDS);
            many += trial.so >> s & 1;
        }
        return many;
    }

    public int book(int lives) {
        if (lives != 0 && lives != 1) {
            return NO_SUCH_LIVES;
        }
        tape.open(BOOK_BYTES);
        boolean fits = pages.read(tape, scene);
        closeText();
        if (!fits) {
            return -2 - tape.faultPlace;
        }
        trial.copyFrom(state);
        if (lives == 1) {
            history.keep(trial);
        }
        State lived = lives == 1 ? state : trial;
        int wrong = pages.liveIn(scene, lived);
        toldAny = true;
        toldRow[0] = pages.why;
        toldRow[1] = wrong == NONE ? pages.lines : wrong;
        toldRow[2] = lived.hour;
        toldRow[3] = lived.so;
        return wrong;
    }

    public int told(int what) {
        if (!toldAny || what < 0 || what >= toldRow.length) {
            return NONE;
        }
        return toldRow[what];
    }

    public int sentence() {
        tape.open(SENTENCE_BYTES);
        boolean fits = draftRule.read(tape, scene);
        closeText();
        if (!fits) {
            return -1 - tape.faultPlace;
        }
        rule.copyFrom(draftRule);
        return rule.ones;
    }

    public int said(int k) {
        if (!rule.there) {
            return NONE;
        }
        int left = rule.slidesOf(scene, state);
        if (k == NONE) {
            return Integer.bitCount(left);
        }
        int ahead = 0;
        for (int s = 0; s < scene.slides; s++) {
            if ((left >> s & 1) != 0) {
                if (ahead == k) {
                    return s;
                }
                ahead++;
            }
        }
        return NONE;
    }

    public boolean image(int k) {
        if (k < 0 || k >= IMAGES_KEPT) {
            return false;
        }
        images[k].scene.copyFrom(scene);
        images[k].state.copyFrom(state);
        images[k].rule.copyFrom(rule);
        images[k].kept = true;
        return true;
    }

    public boolean restore(int k) {
        if (k < 0 || k >= IMAGES_KEPT || !images[k].kept) {
            return false;
        }
        scene.copyFrom(images[k].scene);
        state.copyFrom(images[k].state);
        rule.copyFrom(images[k].rule);
        history.clear();
        return true;
    }

    public int count(int what) {
        switch (what) {
            case 0: return scene.slides;
            case 1: return scene.hearers;
            case 2: return scene.nears;
            case 3: return scene.pass;
            case 4: return scene.spread;
            case 5: return scene.lamp;
            case 6: return tape.size;
            default: return NONE;
        }
    }

    private boolean isSlide(int s) {
        return s >= 0 && s < scene.slides;
    }

    private boolean isHearer(int h) {
        return h >= 0 && h < scene.hearers;
    }

    private static boolean isWay(int way) {
        return way >= 0 && way < WAYS;
    }

    private static boolean isPlace(int xOrY) {
        return xOrY >= 0 && xOrY < SIDE;
    }

    private static boolean isSeat(int seat) {
        return seat == 0 || seat == 1;
    }

    private int sighers(int s, int way) {
        return scene.sighers(Picture.turn(state.pictures[s], way), state.behind);
    }

    private int keptShowing(int answer) {
        if (answer >= 0 || answer == IT_CRACKED) {
            history.keep(trial);
        }
        return answer;
    }

    private void closeText() {
        lastFault = tape.fault;
        tape.size = 0;
    }

    /** Pictures are 16 bits; cell X, Y is bit 4 by Y and X, as the document counts scratched cells. */
    private static final class Picture {
        static int cell(int x, int y) {
            return 1 << SIDE * y + x;
        }

        /** A row's number has its first cell highest, a picture's bits have it lowest: hence the mirror. */
        static int ofRow(int r, int y) {
            return mirror(r & 15) << SIDE * y;
        }

        static int rowOf(int picture, int y) {
            return mirror(picture >> SIDE * y & 15);
        }

        static int mirror(int picture) {
            return (picture & 0x1111) << 3 | (picture & 0x2222) << 1
                | (picture & 0x4444) >> 1 | (picture & 0x8888) >> 3;
        }

        static int flip(int picture) {
            return (picture & 0x000F) << 12 | (picture & 0x00F0) << 4
                | (picture & 0x0F00) >> 4 | (picture & 0xF000) >> 12;
        }

        static int turn(int picture, int way) {
            switch (way) {
                case 1: return mirror(flip(picture));
                case 2: return mirror(picture);
                case 3: return flip(picture);
                default: return picture;
            }
        }

        /** Whether by some WAY the known cells are light just where told. */
        static boolean looks(int picture, int known, int light) {
            for (int way = 0; way < WAYS; way++) {
                if ((turn(picture, way) & known) == light) {
                    return true;
                }
            }
            return false;
        }
    }

    /** The bytes that were fed; reads them as TOKENS one by one, and keeps the first FAULT. */
    private static final class Tape {
        static final int END = 0;
        static final int BAD = 1;
        static final int NAME = 2;
        static final int KEY = 3;
        static final int NUMBER = 4;
        static final int SIGN = 5;

        private static final int MOST_LETTERS = 7;
        private static final int MOST_DIGITS = 3;

        private final long[] keyCodes = new long[KEY_COUNT];
        private final byte[] bytes = new byte[TAPE_BYTES];
        int size;
        private int most;
        private int from;
        int kind;
        int place;
        /** A NUMBER's value, or a SIGN's byte. */
        int value;
        /** A WORD's letters, five bits each. */
        long code;
        int key;
        int fault;
        int faultPlace;

        Tape() {
            int k = 0;
            long word = 0;
            for (int i = 0; i < KEYWORDS.length(); i++) {
                char c = KEYWORDS.charAt(i);
                if (c != ' ') {
                    word = word * 32 + (c - 'a' + 1);
                } else if (k < KEY_COUNT) {
                    keyCodes[k] = word;
                    word = 0;
                    k++;
                }
            }
        }

        void put(int number) {
            for (int shift = 24; shift >= 0; shift -= 8) {
                if (size < TAPE_BYTES) {
                    bytes[size] = (byte) (number >>> shift);
                    size++;
                }
            }
        }

        /** The picture that four bytes tell; NONE, if they, or how many bytes there are, are not as told. */
        int pictureFrom(int first) {
            if (size != SEEN_BYTES) {
                return NONE;
            }
            int picture = 0;
            for (int y = 0; y < SIDE; y++) {
                int r = at(first + y);
                if (r < 0 || r > 15) {
                    return NONE;
                }
                picture |= Picture.ofRow(r, y);
            }
            return picture;
        }

        private int at(int i) {
            return i >= 0 && i < size && i < TAPE_BYTES ? bytes[i] & 255 : NONE;
        }

        /** Begins to read a text of so many bytes at the most. */
        void open(int mostBytes) {
            most = mostBytes;
            from = 0;
            fault = 0;
            faultPlace = 0;
        }

        /** Notes a FAULT at the TOKEN read last; false, so that readers can answer with it. */
        boolean fail(int faultKind) {
            if (fault == 0) {
                fault = faultKind;
                faultPlace = place;
            }
            return false;
        }

        void next() {
            int c = at(from);
            for (; from < size && (c == 32 || c == 10); c = at(from)) {
                from++;
            }
            place = from;
            value = 0;
            code = 0;
            key = NONE;
            if (size > most && from >= most) {
                kind = BAD;
                place = most;
            } else if (from >= size) {
                kind = END;
            } else if (c >= 'a' && c <= 'z' || c >= '0' && c <= '9') {
                readRun();
            } else {
                kind = c >= ';' && c <= '>' || c == '(' || c == ')' ? SIGN : BAD;
                value = c;
                from++;
            }
        }

        /** Letters and digits as far as they go. */
        private void readRun() {
            int letters = 0;
            int digits = 0;
            boolean goesOn = true;
            while (goesOn && from < size) {
                int c = at(from);
                if (c >= 'a' && c <= 'z') {
                    letters++;
                    code = code * 32 + (c - 'a' + 1);
                    from++;
                } else if (c >= '0' && c <= '9') {
                    digits++;
                    value = value * 10 + (c - '0');
                    from++;
                } else {
                    goesOn = false;
                }
            }
            if (digits == 0 && letters <= MOST_LETTERS) {
                kind = NAME;
                for (int k = 0; k < KEY_COUNT; k++) {
                    if (keyCodes[k] == code) {
                        kind = KEY;
                        key = k;
                    }
                }
            } else {
                kind = letters == 0 && digits <= MOST_DIGITS ? NUMBER : BAD;
            }
        }

        boolean isSign(int sign) {
            return kind == SIGN && value == sign;
        }

        boolean takeNumber(int least, int highest) {
            next();
            if (kind != NUMBER) {
                return fail(FAULT_TOKEN);
            }
            return value >= least && value <= highest || fail(FAULT_NUMBER);
        }

        boolean takeName() {
            next();
            return kind == NAME || fail(FAULT_TOKEN);
        }

        boolean takeKey(int wanted) {
            next();
            return key == wanted || fail(FAULT_TOKEN);
        }

        boolean takeSeat() {
            next();
            return key == KEY_FRONT || key == KEY_BEHIND || fail(FAULT_TOKEN);
        }

        boolean takeLineEnd() {
            next();
            return isSign(';') || fail(FAULT_TOKEN);
        }
    }

    /** What a SESSION's text tells; nothing that happens later changes it. */
    private static final class Scene {
        int slides;
        int hearers;
        int nears;
        int lines;
        int pass = 1;
        int spread;
        int lamp = 40;
        int behind;
        private int settingsTold;
        final long[] slideNames = new long[MOST_SLIDES];
        final int[] pictures = new int[MOST_SLIDES];
        final int[] heats = new int[MOST_SLIDES];
        final int[] after = new int[MOST_SLIDES];
        final long[] hearerNames = new long[MOST_HEARERS];
        final int[] needs = new int[MOST_HEARERS];
        final int[] likes = new int[MOST_HEARERS];
        final int[] hates = new int[MOST_HEARERS];
        final int[] near = new int[MOST_HEARERS];

        private void clear() {
            slides = 0;
            hearers = 0;
            nears = 0;
            lines = 0;
            pass = 1;
            spread = 0;
            lamp = 40;
            behind = 0;
            settingsTold = 0;
        }

        void copyFrom(Scene other) {
            slides = other.slides;
            hearers = other.hearers;
            nears = other.nears;
            lines = other.lines;
            pass = other.pass;
            spread = other.spread;
            lamp = other.lamp;
            behind = other.behind;
            System.arraycopy(other.slideNames, 0, slideNames, 0, MOST_SLIDES);
            System.arraycopy(other.pictures, 0, pictures, 0, MOST_SLIDES);
            System.arraycopy(other.heats, 0, heats, 0, MOST_SLIDES);
            System.arraycopy(other.after, 0, after, 0, MOST_SLIDES);
            System.arraycopy(other.hearerNames, 0, hearerNames, 0, MOST_HEARERS);
            System.arraycopy(other.needs, 0, needs, 0, MOST_HEARERS);
            System.arraycopy(other.likes, 0, likes, 0, MOST_HEARERS);
            System.arraycopy(other.hates, 0, hates, 0, MOST_HEARERS);
            System.arraycopy(other.near, 0, near, 0, MOST_HEARERS);
        }

        boolean read(Tape in) {
            clear();
            in.next();
            while (lines < TAPE_BYTES && in.kind != Tape.END) {
                if (!readLine(in) || !in.takeLineEnd()) {
                    return false;
                }
                lines++;
                in.next();
            }
            return true;
        }

        private boolean readLine(Tape in) {
            switch (in.key) {
                case KEY_SLIDE: return readSlide(in);
                case KEY_HEARER: return readHearer(in);
                case KEY_LIKES: return readCell(in, likes);
                case KEY_HATES: return readCell(in, hates);
                case KEY_NEAR: return readNear(in);
                case KEY_AFTER: return readAfter(in);
                case KEY_PASS: return readSetting(in, KEY_PASS, 0, 8);
                case KEY_SPREAD: return readSetting(in, KEY_SPREAD, 0, 8);
                case KEY_LAMP: return readSetting(in, KEY_LAMP, 1, 99);
                default: return in.fail(FAULT_TOKEN);
            }
        }

        private boolean readSlide(Tape in) {
            if (slides >= MOST_SLIDES) {
                return in.fail(FAULT_TOO_MANY);
            }
            if (!in.takeName()) {
                return false;
            }
            if (isTold(in.code)) {
                return in.fail(FAULT_NAME);
            }
            slideNames[slides] = in.code;
            int picture = 0;
            for (int y = 0; y < SIDE; y++) {
                if (!in.takeNumber(0, 15)) {
                    return false;
                }
                picture |= Picture.ofRow(in.value, y);
            }
            if (!in.takeNumber(1, 20)) {
                return false;
            }
            pictures[slides] = picture;
            heats[slides] = in.value;
            after[slides] = NONE;
            slides++;
            return true;
        }

        private boolean readHearer(Tape in) {
            if (hearers >= MOST_HEARERS) {
                return in.fail(FAULT_TOO_MANY);
            }
            if (!in.takeName()) {
                return false;
            }
            if (isTold(in.code)) {
                return in.fail(FAULT_NAME);
            }
            hearerNames[hearers] = in.code;
            if (!in.takeSeat()) {
                return false;
            }
            if (in.key == KEY_BEHIND) {
                behind |= 1 << hearers;
            }
            if (!in.takeNumber(0, 16)) {
                return false;
            }
            needs[hearers] = in.value;
            likes[hearers] = 0;
            hates[hearers] = 0;
            near[hearers] = 0;
            hearers++;
            return true;
        }

        private boolean readCell(Tape in, int[] thoughts) {
            int h = takeHearer(in);
            if (h == NONE || !in.takeNumber(0, 3)) {
                return false;
            }
            int x = in.value;
            if (!in.takeNumber(0, 3)) {
                return false;
            }
            int cell = Picture.cell(x, in.value);
            if (((likes[h] | hates[h]) & cell) != 0) {
                return in.fail(FAULT_NAME);
            }
            thoughts[h] |= cell;
            return true;
        }

        private boolean readNear(Tape in) {
            if (nears >= MOST_NEAR) {
                return in.fail(FAULT_TOO_MANY);
            }
            int h = takeHearer(in);
            if (h == NONE) {
                return false;
            }
            int g = takeHearer(in);
            if (g == NONE) {
                return false;
            }
            if (g == h || (near[h] >> g & 1) != 0) {
                return in.fail(FAULT_NAME);
            }
            near[h] |= 1 << g;
            near[g] |= 1 << h;
            nears++;
            return true;
        }

        private boolean readAfter(Tape in) {
            int s = takeSlide(in);
            if (s == NONE) {
                return false;
            }
            if (after[s] != NONE) {
                return in.fail(FAULT_NAME);
            }
            int t = takeSlide(in);
            if (t == NONE) {
                return false;
            }
            if (t == s) {
                return in.fail(FAULT_NAME);
            }
            after[s] = t;
            return true;
        }

        private boolean readSetting(Tape in, int key, int least, int highest) {
            if ((settingsTold >> key & 1) != 0) {
                return in.fail(FAULT_NAME);
            }
            if (!in.takeNumber(least, highest)) {
                return false;
            }
            settingsTold |= 1 << key;
            if (key == KEY_PASS) {
                pass = in.value;
            } else if (key == KEY_SPREAD) {
                spread = in.value;
            } else {
                lamp = in.value;
            }
            return true;
        }

        private boolean isTold(long code) {
            return findSlide(code) != NONE || findHearer(code) != NONE;
        }

        /** The SLIDE that the next TOKEN names; NONE behind a FAULT. */
        int takeSlide(Tape in) {
            in.next();
            int s = in.kind == Tape.NAME ? findSlide(in.code) : NONE;
            if (s == NONE) {
                in.fail(in.kind == Tape.NAME ? FAULT_NAME : FAULT_TOKEN);
            }
            return s;
        }

        private int takeHearer(Tape in) {
            in.next();
            int h = in.kind == Tape.NAME ? findHearer(in.code) : NONE;
            if (h == NONE) {
                in.fail(in.kind == Tape.NAME ? FAULT_NAME : FAULT_TOKEN);
            }
            return h;
        }

        int findSlide(long code) {
            for (int s = 0; s < slides; s++) {
                if (slideNames[s] == code) {
                    return s;
                }
            }
            return NONE;
        }

        int findHearer(long code) {
            for (int h = 0; h < hearers; h++) {
                if (hearerNames[h] == code) {
                    return h;
                }
            }
            return NONE;
        }

        /** Who would SIGH in the end, as bits, if those of a set sit behind. */
        int sighers(int picture, int sitBehind) {
            return spreadFrom(ownSighers(picture, sitBehind));
        }

        int ownSighers(int picture, int sitBehind) {
            int mirrored = Picture.mirror(picture);
            int who = 0;
            for (int h = 0; h < hearers; h++) {
                int sees = (sitBehind >> h & 1) == 0 ? picture : mirrored;
                int more = Integer.bitCount(sees & likes[h]) - Integer.bitCount(sees & hates[h]);
                if (more >= needs[h]) {
                    who |= 1 << h;
                }
            }
            return who;
        }

        boolean isEnough(int who) {
            return Integer.bitCount(who) >= pass;
        }

        int spreadFrom(int set) {
            int who = set;
            // Each round but the last adds someone, so that many rounds are enough.
            for (int round = 0; spread > 0 && round < MOST_HEARERS; round++) {
                int more = who;
                for (int h = 0; h < hearers; h++) {
                    if (Integer.bitCount(near[h] & who) >= spread) {
                        more |= 1 << h;
                    }
                }
                if (more == who) {
                    break;
                }
                who = more;
            }
            return who;
        }
    }

    /** All that acts change, and the acts. */
    private static final class State {
        int hour;
        int heat;
        boolean black;
        int so;
        int cracked;
        int behind;
        int allSighs;
        /** Goes on with each draw; each run of draws sets it anew, so that it is no part of a copy. */
        private int seed;
        final int[] pictures = new int[MOST_SLIDES];
        final int[] shown = new int[MOST_SLIDES];
        final int[] sighed = new int[MOST_HEARERS];

        void begin(Scene scene) {
            hour = 0;
            heat = 0;
            black = false;
            so = 0;
            cracked = 0;
            behind = scene.behind;
            allSighs = 0;
            for (int s = 0; s < MOST_SLIDES; s++) {
                pictures[s] = scene.pictures[s];
                shown[s] = 0;
            }
            for (int h = 0; h < MOST_HEARERS; h++) {
                sighed[h] = 0;
            }
        }

        void copyFrom(State other) {
            hour = other.hour;
            heat = other.heat;
            black = other.black;
            so = other.so;
            cracked = other.cracked;
            behind = other.behind;
            allSighs = other.allSighs;
            System.arraycopy(other.pictures, 0, pictures, 0, MOST_SLIDES);
            System.arraycopy(other.shown, 0, shown, 0, MOST_SLIDES);
            System.arraycopy(other.sighed, 0, sighed, 0, MOST_HEARERS);
        }

        /** As show() answers. */
        int showOne(Scene scene, int s, int way) {
            int why = whyNotShow(scene, 1 << s);
            return why != 0 ? -1 - why : project(scene, 1 << s, Picture.turn(pictures[s], way));
        }

        /** As over() answers. */
        int showTwo(Scene scene, int s, int t) {
            int both = 1 << s | 1 << t;
            int why = s == t ? WHY_CRACKED : whyNotShow(scene, both);
            return why != 0 ? -1 - why : project(scene, both, pictures[s] | pictures[t]);
        }

        private int whyNotShow(Scene scene, int set) {
            if ((cracked & set) != 0) {
                return WHY_CRACKED;
            }
            for (int s = 0; s < scene.slides; s++) {
                if ((set >> s & 1) != 0 && waitsFor(scene, s) != NONE) {
                    return WHY_BEHIND;
                }
            }
            return black ? WHY_BLACK : 0;
        }

        /** The SLIDE behind which this one comes and which is not so; NONE without one. */
        int waitsFor(Scene scene, int s) {
            int first = scene.after[s];
            return first != NONE && (so >> first & 1) == 0 ? first : NONE;
        }

        private int project(Scene scene, int set, int picture) {
            for (int s = 0; s < scene.slides; s++) {
                if ((set >> s & 1) != 0) {
                    heat += scene.heats[s];
                    shown[s]++;
                }
            }
            if (heat > scene.lamp) {
                cracked |= set;
                black = true;
                return IT_CRACKED;
            }
            int who = scene.sighers(picture, behind);
            for (int h = 0; h < scene.hearers; h++) {
                sighed[h] += who >> h & 1;
            }
            int many = Integer.bitCount(who);
            allSighs += many;
            if (scene.isEnough(who)) {
                so |= set;
            }
            return many;
        }

        int scratchCell(int s, int cell) {
            if ((cracked >> s & 1) != 0) {
                return WHY_CRACKED;
            }
            pictures[s] ^= cell;
            return 0;
        }

        int seatHearer(int h, int seat) {
            if ((behind >> h & 1) == seat) {
                return WHY_SITS_SO;
            }
            behind ^= 1 << h;
            return 0;
        }

        int letHoursGo(int n) {
            int gone = Math.min(n, MOST_HOURS - hour);
            for (int i = 0; i < gone; i++) {
                letHourGo();
            }
            return gone;
        }

        private void letHourGo() {
            heat = Math.max(0, heat - COOLER_AN_HOUR);
            if (heat == 0) {
                black = false;
            }
            hour++;
        }

        int drawHours(Scene scene, int firstSeed, int n) {
            seed = firstSeed;
            int gone = Math.min(n, MOST_HOURS - hour);
            for (int i = 0; i < gone; i++) {
                int s = drawOf(scene.slides);
                int way = drawOf(WAYS);
                showOne(scene, s, way);
                for (int h = 0; h < scene.hearers; h++) {
                    if (drawOf(TURNS_TO_MOVE) == 0) {
                        behind ^= 1 << h;
                    }
                }
                letHourGo();
            }
            return gone;
        }

        private int drawOf(int n) {
            seed = seed * 1103515245 + 12345;
            return n > 0 ? (seed >>> 8) % n : 0;
        }

        /** SLIDES that look like this one by some WAY, itself too. */
        int lookalikes(Scene scene, int s) {
            int found = 0;
            for (int t = 0; t < scene.slides; t++) {
                if (Picture.looks(pictures[t], ALL_CELLS, pictures[s])) {
                    found |= 1 << t;
                }
            }
            return found;
        }
    }

    /** The states ahead of the latest acts, in a ring. */
    private static final class History {
        private final State[] kept = new State[ACTS_KEPT];
        private int first;
        int size;

        History() {
            for (int i = 0; i < ACTS_KEPT; i++) {
                kept[i] = new State();
            }
        }

        void clear() {
            size = 0;
        }

        void keep(State before) {
            kept[(first + size) % ACTS_KEPT].copyFrom(before);
            if (size < ACTS_KEPT) {
                size++;
            } else {
                first = (first + 1) % ACTS_KEPT;
            }
        }

        void takeBack(State into) {
            if (size > 0) {
                size--;
                into.copyFrom(kept[(first + size) % ACTS_KEPT]);
            }
        }
    }

    private static final class Image {
        boolean kept;
        final Scene scene = new Scene();
        final State state = new State();
        final Sentence rule = new Sentence();
    }

    /** ORDER, MOVED and SCRATCHED. */
    private static final class Search {
        final int[] bestPath = new int[MOST_SLIDES];
        int bestSize;
        private int bestPassed;
        private final int[] path = new int[MOST_SLIDES];
        private int passing;
        private int picture;
        private int behind;

        int findOrder(Scene scene, State state) {
            passing = 0;
            int left = 0;
            for (int s = 0; s < scene.slides; s++) {
                if (((state.so | state.cracked) >> s & 1) == 0) {
                    left |= 1 << s;
                }
                if (scene.isEnough(scene.sighers(state.pictures[s], state.behind))) {
                    passing |= 1 << s;
                }
            }
            bestPassed = NONE;
            if (state.black) {
                keepIfBetter(0, 0);
            } else {
                goOn(scene, 0, left, state.so, state.heat, 0);
            }
            return bestPassed;
        }

        /** Tries the SLIDES from the least on, so that of like ORDERS the first is kept. */
        private void goOn(Scene scene, int depth, int left, int so, int heat, int passed) {
            boolean ends = true;
            for (int s = 0; depth < MOST_SLIDES && s < scene.slides; s++) {
                int first = scene.after[s];
                boolean waits = first != NONE && (so >> first & 1) == 0;
                if ((left >> s & 1) == 0 || waits) {
                    continue;
                }
                ends = false;
                path[depth] = s;
                int hotter = heat + scene.heats[s];
                if (hotter > scene.lamp) {
                    keepIfBetter(depth + 1, passed);
                } else {
                    int passes = passing >> s & 1;
                    goOn(scene, depth + 1, left & ~(1 << s), so | passes << s, hotter, passed + passes);
                }
            }
            if (ends) {
                keepIfBetter(depth, passed);
            }
        }

        private void keepIfBetter(int size, int passed) {
            if (passed > bestPassed) {
                bestPassed = passed;
                bestSize = size;
                System.arraycopy(path, 0, bestPath, 0, MOST_SLIDES);
            }
        }

        /** Who must sit the other way, as bits; NONE, if nothing helps. */
        int findMoved(Scene scene, State state, int shown) {
            int all = (1 << scene.hearers) - 1;
            int inFront = scene.ownSighers(shown, 0);
            int atBack = scene.ownSighers(shown, all);
            int found = NONE;
            for (int set = 0; set <= all; set++) {
                if (found != NONE && Integer.bitCount(set) >= Integer.bitCount(found)) {
                    continue;
                }
                int sitBehind = state.behind ^ set;
                if (scene.isEnough(scene.spreadFrom(inFront & ~sitBehind | atBack & sitBehind))) {
                    found = set;
                }
            }
            return found;
        }

        /** Which cells must be scratched, as bits; NONE, if MOST_SCRATCHES do not help. */
        int findScratches(Scene scene, State state, int ofPicture) {
            picture = ofPicture;
            behind = state.behind;
            int found = NONE;
            for (int many = 0; found == NONE && many <= MOST_SCRATCHES; many++) {
                found = leastCells(scene, many, CELLS, 0);
            }
            return found;
        }

        /** Takes the highest cell first and the least of it first: so sets come in rising order. */
        private int leastCells(Scene scene, int left, int below, int set) {
            if (left <= 0) {
                return scene.isEnough(scene.sighers(picture ^ set, behind)) ? set : NONE;
            }
            for (int top = left - 1; top < below; top++) {
                int found = leastCells(scene, left - 1, top, set | 1 << top);
                if (found != NONE) {
                    return found;
                }
            }
            return NONE;
        }
    }

    private static final class Bill {
        private static final int MOST_LETTERS = 40;
        private static final int LETTERS_OF_NAME = 7;

        final char[] letters = new char[MOST_LETTERS];
        int size;

        void write(Scene scene, State state, int s) {
            size = 0;
            putName(scene.slideNames[s]);
            if ((state.so >> s & 1) != 0) {
                put(" is so");
            } else if ((state.cracked >> s & 1) != 0) {
                put(" is cracked");
            } else {
                put(" is not so");
                int first = state.waitsFor(scene, s);
                if (first != NONE) {
                    put(" for ");
                    putName(scene.slideNames[first]);
                }
            }
        }

        private void put(String text) {
            for (int i = 0; i < text.length(); i++) {
                putLetter(text.charAt(i));
            }
        }

        private void putName(long code) {
            for (int i = LETTERS_OF_NAME - 1; i >= 0; i--) {
                int letter = (int) (code >> 5 * i & 31);
                if (letter != 0) {
                    putLetter((char) ('a' + letter - 1));
                }
            }
        }

        private void putLetter(char c) {
            if (size < MOST_LETTERS) {
                letters[size] = c;
                size++;
            }
        }
    }

    /** A BOOK's LINES: the key of each, and up to three numbers. */
    private static final class Book {
        private final int[] keys = new int[MOST_LINES];
        private final int[] whos = new int[MOST_LINES];
        private final int[] firsts = new int[MOST_LINES];
        private final int[] seconds = new int[MOST_LINES];
        int lines;
        int why;

        boolean read(Tape in, Scene scene) {
            lines = 0;
            in.next();
            while (lines <= MOST_LINES && in.kind != Tape.END) {
                if (!readLine(in, scene) || !in.takeLineEnd()) {
                    return false;
                }
                lines++;
                in.next();
            }
            return true;
        }

        private boolean readLine(Tape in, Scene scene) {
            if (in.kind != Tape.NAME && in.key != KEY_HOUR) {
                return in.fail(FAULT_TOKEN);
            }
            int s = scene.findSlide(in.code);
            int h = scene.findHearer(in.code);
            if (in.kind == Tape.NAME && s == NONE && h == NONE) {
                return in.fail(FAULT_NAME);
            }
            if (lines >= MOST_LINES) {
                return in.fail(FAULT_TOO_MANY);
            }
            if (in.key == KEY_HOUR) {
                return in.takeNumber(1, HOURS_A_CALL) && keepLine(KEY_HOUR, 0, in.value, 0);
            }
            return s != NONE ? readSlideAct(in, scene, s) : readSeatAct(in, h);
        }

        private boolean readSlideAct(Tape in, Scene scene, int s) {
            in.next();
            switch (in.key) {
                case KEY_SHOWN:
                    return in.takeNumber(0, 3) && keepLine(KEY_SHOWN, s, in.value, 0);
                case KEY_OVER:
                    int t = scene.takeSlide(in);
                    return t != NONE && keepLine(KEY_OVER, s, t, 0);
                case KEY_SCRATCH:
                    if (!in.takeNumber(0, 3)) {
                        return false;
                    }
                    int x = in.value;
                    return in.takeNumber(0, 3) && keepLine(KEY_SCRATCH, s, x, in.value);
                default:
                    return in.fail(FAULT_TOKEN);
            }
        }

        private boolean readSeatAct(Tape in, int h) {
            return in.takeKey(KEY_SITS) && in.takeSeat()
                && keepLine(KEY_SITS, h, in.key == KEY_BEHIND ? 1 : 0, 0);
        }

        private boolean keepLine(int key, int who, int first, int second) {
            if (lines < 0 || lines >= MOST_LINES) {
                return false;
            }
            keys[lines] = key;
            whos[lines] = who;
            firsts[lines] = first;
            seconds[lines] = second;
            return true;
        }

        /** Lives the LINES till one is WRONG: that one, and why; NONE and 0 without one. */
        int liveIn(Scene scene, State state) {
            why = 0;
            for (int i = 0; i < lines && i < MOST_LINES; i++) {
                why = liveLine(scene, state, i);
                if (why != 0) {
                    return i;
                }
            }
            return NONE;
        }

        private int liveLine(Scene scene, State state, int i) {
            switch (keys[i]) {
                case KEY_SHOWN:
                    return whyOf(state.showOne(scene, whos[i], firsts[i]), 0);
                case KEY_OVER:
                    return whyOf(state.showTwo(scene, whos[i], firsts[i]), 10);
                case KEY_SCRATCH:
                    int scratchWhy = state.scratchCell(whos[i], Picture.cell(firsts[i], seconds[i]));
                    return scratchWhy == 0 ? 0 : 20 + scratchWhy;
                case KEY_SITS:
                    int seatWhy = state.seatHearer(whos[i], firsts[i]);
                    return seatWhy == 0 ? 0 : 30 + seatWhy;
                default:
                    if (firsts[i] > MOST_HOURS - state.hour) {
                        return WHY_HOURS;
                    }
                    state.letHoursGo(firsts[i]);
                    return 0;
            }
        }

        private static int whyOf(int answer, int more) {
            return answer >= 0 || answer == IT_CRACKED ? 0 : more - 1 - answer;
        }
    }

    /** A SENTENCE, kept as its parts in the order in which they are worked out: what is joined ahead of the joint. */
    private static final class Sentence {
        private static final int MOST_PARTS = 2 * MOST_ONES;

        boolean there;
        int ones;
        private int parts;
        private final int[] keys = new int[MOST_PARTS];
        private final int[] signs = new int[MOST_PARTS];
        private final int[] numbers = new int[MOST_PARTS];
        private final int[] stack = new int[MOST_PARTS];

        void copyFrom(Sentence other) {
            there = other.there;
            ones = other.ones;
            parts = other.parts;
            System.arraycopy(other.keys, 0, keys, 0, MOST_PARTS);
            System.arraycopy(other.signs, 0, signs, 0, MOST_PARTS);
            System.arraycopy(other.numbers, 0, numbers, 0, MOST_PARTS);
        }

        boolean read(Tape in, Scene scene) {
            ones = 0;
            parts = 0;
            in.next();
            there = readCond(in, scene, 1) && (in.kind == Tape.END || in.fail(FAULT_TOKEN));
            return there;
        }

        /** Here and below the TOKEN read last is the first one of what is to be read, then the one behind it. */
        private boolean readCond(Tape in, Scene scene, int within) {
            boolean fits = readAll(in, scene, within);
            for (int i = 0; fits && i < MOST_ONES && in.key == KEY_OR; i++) {
                in.next();
                fits = readAll(in, scene, within) && keepPart(KEY_OR, 0, 0);
            }
            return fits;
        }

        private boolean readAll(Tape in, Scene scene, int within) {
            boolean fits = readOne(in, scene, within);
            for (int i = 0; fits && i < MOST_ONES && in.key == KEY_AND; i++) {
                in.next();
                fits = readOne(in, scene, within) && keepPart(KEY_AND, 0, 0);
            }
            return fits;
        }

        private boolean readOne(Tape in, Scene scene, int within) {
            if (!in.isSign('(') && (in.key < KEY_NOT || in.key > KEY_NUMBER)) {
                return in.fail(FAULT_TOKEN);
            }
            if (ones >= MOST_ONES || within > MOST_WITHIN) {
                return in.fail(FAULT_TOO_MANY);
            }
            ones++;
            switch (in.key) {
                case NONE:
                    return readBracket(in, scene, within);
                case KEY_NOT:
                    in.next();
                    return readOne(in, scene, within + 1) && keepPart(KEY_NOT, 0, 0);
                case KEY_LIKE:
                    int s = scene.takeSlide(in);
                    return s != NONE && keepLeaf(in, KEY_LIKE, 0, s);
                case KEY_SO:
                case KEY_CRACKED:
                case KEY_EVEN:
                    return keepLeaf(in, in.key, 0, 0);
                default:
                    return readMeasure(in);
            }
        }

        private boolean readBracket(Tape in, Scene scene, int within) {
            in.next();
            if (!readCond(in, scene, within + 1)) {
                return false;
            }
            if (!in.isSign(')')) {
                return in.fail(FAULT_TOKEN);
            }
            in.next();
            return true;
        }

        private boolean readMeasure(Tape in) {
            int key = in.key;
            in.next();
            if (!in.isSign('<') && !in.isSign('=') && !in.isSign('>')) {
                return in.fail(FAULT_TOKEN);
            }
            int sign = in.value;
            in.next();
            if (in.kind != Tape.NUMBER) {
                return in.fail(FAULT_TOKEN);
            }
            return keepLeaf(in, key, sign, in.value);
        }

        private boolean keepLeaf(Tape in, int key, int sign, int number) {
            in.next();
            return keepPart(key, sign, number);
        }

        private boolean keepPart(int key, int sign, int number) {
            if (parts < 0 || parts >= MOST_PARTS) {
                return false;
            }
            keys[parts] = key;
            signs[parts] = sign;
            numbers[parts] = number;
            parts++;
            return true;
        }

        /** SLIDES of which it may be said, as bits. */
        int slidesOf(Scene scene, State state) {
            int all = (1 << scene.slides) - 1;
            int high = 0;
            for (int i = 0; i < parts && i < MOST_PARTS; i++) {
                if (keys[i] == KEY_AND && high > 1) {
                    high--;
                    stack[high - 1] &= stack[high];
                } else if (keys[i] == KEY_OR && high > 1) {
                    high--;
                    stack[high - 1] |= stack[high];
                } else if (keys[i] == KEY_NOT && high > 0) {
                    stack[high - 1] ^= all;
                } else if (high < MOST_PARTS) {
                    stack[high] = leafSlides(scene, state, i);
                    high++;
                }
            }
            return stack[0];
        }

        private int leafSlides(Scene scene, State state, int i) {
            if (keys[i] == KEY_SO) {
                return state.so;
            }
            if (keys[i] == KEY_CRACKED) {
                return state.cracked;
            }
            if (keys[i] == KEY_LIKE) {
                return state.lookalikes(scene, numbers[i]);
            }
            int found = 0;
            for (int s = 0; s < scene.slides; s++) {
                if (isLeafTrue(scene, state, i, s)) {
                    found |= 1 << s;
                }
            }
            return found;
        }

        private boolean isLeafTrue(Scene scene, State state, int i, int s) {
            int picture = state.pictures[s];
            switch (keys[i]) {
                case KEY_EVEN: return Picture.mirror(picture) == picture;
                case KEY_LIGHT: return compares(Integer.bitCount(picture), i);
                case KEY_HEAT: return compares(scene.heats[s], i);
                case KEY_SIGHS: return compares(Integer.bitCount(scene.sighers(picture, state.behind)), i);
                default: return compares(s, i);
            }
        }

        private boolean compares(int value, int i) {
            switch (signs[i]) {
                case '<': return value < numbers[i];
                case '=': return value == numbers[i];
                default: return value > numbers[i];
            }
        }
    }
}
