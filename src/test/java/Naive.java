import java.util.ArrayList;
import java.util.Arrays;
import java.util.LinkedHashMap;
import java.util.List;
import java.util.Map;
import java.util.NoSuchElementException;

/**
 * The document once more, in the plainest way and with other means than the class itself (grids, maps, trees,
 * trying everything by really doing it), so that ModelTest can hold the two against each other.
 */
final class Naive {
    static final int NONE = -1;
    private static final List<String> KEYWORDS = Arrays.asList(
        "slide", "hearer", "front", "behind", "likes", "hates", "near", "after", "pass", "spread", "lamp",
        "shown", "over", "scratch", "sits", "hour",
        "or", "and", "not", "so", "cracked", "even", "like", "light", "heat", "sighs", "number");

    /** A FAULT on its way out. */
    private static final class Fault extends RuntimeException {
        private static final long serialVersionUID = 1L;
        final int kind;
        final int place;

        Fault(int kind, int place) {
            super(kind + " at " + place);
            this.kind = kind;
            this.place = place;
        }
    }

    private static final class Slide {
        String name;
        boolean[][] light = new boolean[4][4];
        int heat;
        int after = NONE;
        boolean so;
        boolean cracked;
        int shown;

        Slide copy() {
            Slide c = new Slide();
            c.name = name;
            c.light = copyOf(light);
            c.heat = heat;
            c.after = after;
            c.so = so;
            c.cracked = cracked;
            c.shown = shown;
            return c;
        }
    }

    private static final class Hearer {
        String name;
        boolean behind;
        int need;
        int[][] thinks = new int[4][4];
        List<Integer> near = new ArrayList<>();
        int sighed;

        Hearer copy() {
            Hearer c = new Hearer();
            c.name = name;
            c.behind = behind;
            c.need = need;
            for (int y = 0; y < 4; y++) {
                c.thinks[y] = thinks[y].clone();
            }
            c.near = new ArrayList<>(near);
            c.sighed = sighed;
            return c;
        }
    }

    /** SESSION and all that is so. */
    private static final class World {
        List<Slide> slides = new ArrayList<>();
        List<Hearer> hearers = new ArrayList<>();
        int nears;
        Map<String, Integer> settings = new LinkedHashMap<>();
        int hour;
        int heat;
        boolean black;
        int allSighs;
        int lines;

        World copy() {
            World c = new World();
            for (Slide s : slides) {
                c.slides.add(s.copy());
            }
            for (Hearer h : hearers) {
                c.hearers.add(h.copy());
            }
            c.nears = nears;
            c.settings = new LinkedHashMap<>(settings);
            c.hour = hour;
            c.heat = heat;
            c.black = black;
            c.allSighs = allSighs;
            c.lines = lines;
            return c;
        }

        int setting(String word) {
            return settings.getOrDefault(word, word.equals("pass") ? 1 : word.equals("spread") ? 0 : 40);
        }

        int slideNamed(String name) {
            for (int s = 0; s < slides.size(); s++) {
                if (slides.get(s).name.equals(name)) {
                    return s;
                }
            }
            return NONE;
        }

        int hearerNamed(String name) {
            for (int h = 0; h < hearers.size(); h++) {
                if (hearers.get(h).name.equals(name)) {
                    return h;
                }
            }
            return NONE;
        }

        boolean[] ownSighs(boolean[][] shown) {
            boolean[] sigh = new boolean[hearers.size()];
            for (int h = 0; h < sigh.length; h++) {
                Hearer one = hearers.get(h);
                boolean[][] sees = one.behind ? by(shown, 2) : shown;
                int more = 0;
                for (int y = 0; y < 4; y++) {
                    for (int x = 0; x < 4; x++) {
                        if (sees[y][x]) {
                            more += one.thinks[y][x] == 1 ? 1 : one.thinks[y][x] == 2 ? -1 : 0;
                        }
                    }
                }
                sigh[h] = more >= one.need;
            }
            return sigh;
        }

        boolean[] spread(boolean[] sigh) {
            int needed = setting("spread");
            boolean changed = needed > 0;
            while (changed) {
                changed = false;
                for (int h = 0; h < sigh.length; h++) {
                    int many = 0;
                    for (int g : hearers.get(h).near) {
                        many += sigh[g] ? 1 : 0;
                    }
                    if (!sigh[h] && many >= needed) {
                        sigh[h] = true;
                        changed = true;
                    }
                }
            }
            return sigh;
        }

        boolean[] sighs(boolean[][] shown) {
            return spread(ownSighs(shown));
        }

        boolean enough(boolean[][] shown) {
            return countOf(sighs(shown)) >= setting("pass");
        }

        boolean waits(int s) {
            int first = slides.get(s).after;
            return first != NONE && !slides.get(first).so;
        }

        int show(int s, int way) {
            Slide one = slides.get(s);
            if (one.cracked) {
                return -2;
            }
            if (waits(s)) {
                return -3;
            }
            if (black) {
                return -4;
            }
            return shine(List.of(one), by(one.light, way));
        }

        int over(int s, int t) {
            if (s == t || slides.get(s).cracked || slides.get(t).cracked) {
                return -2;
            }
            if (waits(s) || waits(t)) {
                return -3;
            }
            if (black) {
                return -4;
            }
            boolean[][] both = copyOf(slides.get(s).light);
            for (int y = 0; y < 4; y++) {
                for (int x = 0; x < 4; x++) {
                    both[y][x] |= slides.get(t).light[y][x];
                }
            }
            return shine(List.of(slides.get(s), slides.get(t)), both);
        }

        private int shine(List<Slide> shown, boolean[][] picture) {
            for (Slide one : shown) {
                one.shown++;
                heat += one.heat;
            }
            if (heat > setting("lamp")) {
                black = true;
                for (Slide one : shown) {
                    one.cracked = true;
                }
                return -5;
            }
            boolean[] sigh = sighs(picture);
            for (int h = 0; h < sigh.length; h++) {
                hearers.get(h).sighed += sigh[h] ? 1 : 0;
            }
            allSighs += countOf(sigh);
            for (Slide one : shown) {
                one.so |= countOf(sigh) >= setting("pass");
            }
            return countOf(sigh);
        }

        int scratch(int s, int x, int y) {
            Slide one = slides.get(s);
            if (one.cracked) {
                return 1;
            }
            one.light[y][x] = !one.light[y][x];
            return 0;
        }

        int sit(int h, boolean back) {
            if (hearers.get(h).behind == back) {
                return 1;
            }
            hearers.get(h).behind = back;
            return 0;
        }

        int hours(int n) {
            int gone = 0;
            while (gone < n && hour < 400) {
                heat = heat > 5 ? heat - 5 : 0;
                black &= heat != 0;
                hour++;
                gone++;
            }
            return gone;
        }

        int drawn(int n, int seed) {
            int[] x = {seed};
            int gone = 0;
            while (gone < n && hour < 400) {
                int s = draw(x, slides.size());
                show(s, draw(x, 4));
                for (Hearer one : hearers) {
                    one.behind ^= draw(x, 12) == 0;
                }
                gone += hours(1);
            }
            return gone;
        }

        private static int draw(int[] x, int n) {
            x[0] = x[0] * 1103515245 + 12345;
            return (x[0] >>> 8) % n;
        }

        int soBits() {
            int bits = 0;
            for (int s = 0; s < slides.size(); s++) {
                bits |= slides.get(s).so ? 1 << s : 0;
            }
            return bits;
        }
    }

    private World world = new World();
    private final List<World> acts = new ArrayList<>();
    private final World[] imageWorlds = new World[2];
    private final String[] imageRules = new String[2];
    private final List<Integer> tape = new ArrayList<>();
    /** The SENTENCE, as its TOKENS with the SLIDES' numbers for their NAMES; null without one. */
    private String rule;
    private int fault;
    private List<Integer> lastOrder = new ArrayList<>();
    private int lastMoved = NONE;
    private int lastScratched = NONE;
    private String lastBill = "";
    private int[] toldRow;

    private static boolean[][] copyOf(boolean[][] grid) {
        boolean[][] c = new boolean[4][];
        for (int y = 0; y < 4; y++) {
            c[y] = grid[y].clone();
        }
        return c;
    }

    private static boolean[][] by(boolean[][] grid, int way) {
        boolean[][] turned = new boolean[4][4];
        for (int y = 0; y < 4; y++) {
            for (int x = 0; x < 4; x++) {
                turned[y][x] = grid[way == 1 || way == 3 ? 3 - y : y][way == 1 || way == 2 ? 3 - x : x];
            }
        }
        return turned;
    }

    private static int countOf(boolean[] row) {
        int many = 0;
        for (boolean b : row) {
            many += b ? 1 : 0;
        }
        return many;
    }

    private static int bitsOf(boolean[] row) {
        int bits = 0;
        for (int i = 0; i < row.length; i++) {
            bits |= row[i] ? 1 << i : 0;
        }
        return bits;
    }

    private static int lightOf(boolean[][] grid) {
        int many = 0;
        for (boolean[] row : grid) {
            many += countOf(row);
        }
        return many;
    }

    private static int rowNumber(boolean[] row) {
        return (row[0] ? 8 : 0) + (row[1] ? 4 : 0) + (row[2] ? 2 : 0) + (row[3] ? 1 : 0);
    }

    // ---- texts

    private static final class Token {
        final int place;
        final String text;

        Token(int place, String text) {
            this.place = place;
            this.text = text;
        }

        boolean is(String other) {
            return text.equals(other);
        }

        boolean isNumber() {
            return text.matches("[0-9]{1,3}");
        }

        boolean isName() {
            return text.matches("[a-z]{1,7}") && !KEYWORDS.contains(text);
        }

        Fault fault(int kind) {
            return new Fault(kind, place);
        }
    }

    /** All TOKENS; the last one has the text "" (the end) or "!" (too long, or no TOKEN). */
    private List<Token> tokens(int most) {
        StringBuilder text = new StringBuilder();
        for (int b : tape) {
            text.append((char) b);
        }
        tape.clear();
        List<Token> found = new ArrayList<>();
        java.util.regex.Matcher m = java.util.regex.Pattern.compile("[ \n]+|[a-z0-9]+|[^a-z0-9 \n]").matcher(text);
        boolean cut = false;
        while (m.find() && !cut) {
            String one = m.group();
            if (m.start() >= most) {
                cut = true;
            } else if (one.charAt(0) != ' ' && one.charAt(0) != '\n') {
                boolean fits = one.matches("[a-z]{1,7}|[0-9]{1,3}|[;<=>()]");
                found.add(new Token(m.start(), fits ? one : "!"));
            }
        }
        boolean tooLong = text.length() > most;
        found.add(new Token(tooLong ? most : text.length(), tooLong ? "!" : ""));
        return found;
    }

    private static int number(Token t, int least, int most) {
        if (!t.isNumber()) {
            throw t.fault(1);
        }
        int n = Integer.parseInt(t.text);
        if (n < least || n > most) {
            throw t.fault(2);
        }
        return n;
    }

    private static int slideAt(World w, Token t) {
        if (!t.isName()) {
            throw t.fault(1);
        }
        if (w.slideNamed(t.text) == NONE) {
            throw t.fault(3);
        }
        return w.slideNamed(t.text);
    }

    private static int hearerAt(World w, Token t) {
        if (!t.isName()) {
            throw t.fault(1);
        }
        if (w.hearerNamed(t.text) == NONE) {
            throw t.fault(3);
        }
        return w.hearerNamed(t.text);
    }

    private static boolean seatAt(Token t) {
        if (!t.is("front") && !t.is("behind")) {
            throw t.fault(1);
        }
        return t.is("behind");
    }

    private static void sign(Token t, String sign) {
        if (!t.is(sign)) {
            throw t.fault(1);
        }
    }

    private static void newName(World w, Token t) {
        if (!t.isName()) {
            throw t.fault(1);
        }
        if (w.slideNamed(t.text) != NONE || w.hearerNamed(t.text) != NONE) {
            throw t.fault(3);
        }
    }

    private World readSession() {
        List<Token> t = tokens(900);
        World w = new World();
        int i = 0;
        while (!t.get(i).is("")) {
            Token first = t.get(i++);
            switch (first.text) {
                case "slide": {
                    if (w.slides.size() == 6) {
                        throw first.fault(4);
                    }
                    Slide one = new Slide();
                    newName(w, t.get(i));
                    one.name = t.get(i++).text;
                    for (int y = 0; y < 4; y++) {
                        int r = number(t.get(i++), 0, 15);
                        for (int x = 0; x < 4; x++) {
                            one.light[y][x] = (r & 8 >> x) != 0;
                        }
                    }
                    one.heat = number(t.get(i++), 1, 20);
                    w.slides.add(one);
                    break;
                }
                case "hearer": {
                    if (w.hearers.size() == 8) {
                        throw first.fault(4);
                    }
                    Hearer one = new Hearer();
                    newName(w, t.get(i));
                    one.name = t.get(i++).text;
                    one.behind = seatAt(t.get(i++));
                    one.need = number(t.get(i++), 0, 16);
                    w.hearers.add(one);
                    break;
                }
                case "likes":
                case "hates": {
                    Hearer one = w.hearers.get(hearerAt(w, t.get(i++)));
                    int x = number(t.get(i++), 0, 3);
                    int y = number(t.get(i), 0, 3);
                    if (one.thinks[y][x] != 0) {
                        throw t.get(i).fault(3);
                    }
                    i++;
                    one.thinks[y][x] = first.is("likes") ? 1 : 2;
                    break;
                }
                case "near": {
                    if (w.nears == 12) {
                        throw first.fault(4);
                    }
                    int h = hearerAt(w, t.get(i++));
                    int g = hearerAt(w, t.get(i));
                    if (h == g || w.hearers.get(h).near.contains(g)) {
                        throw t.get(i).fault(3);
                    }
                    i++;
                    w.hearers.get(h).near.add(g);
                    w.hearers.get(g).near.add(h);
                    w.nears++;
                    break;
                }
                case "after": {
                    int s = slideAt(w, t.get(i));
                    if (w.slides.get(s).after != NONE) {
                        throw t.get(i).fault(3);
                    }
                    int other = slideAt(w, t.get(++i));
                    if (other == s) {
                        throw t.get(i).fault(3);
                    }
                    i++;
                    w.slides.get(s).after = other;
                    break;
                }
                case "pass":
                case "spread":
                case "lamp":
                    if (w.settings.containsKey(first.text)) {
                        throw first.fault(3);
                    }
                    w.settings.put(first.text, first.is("lamp") ? number(t.get(i++), 1, 99) : number(t.get(i++), 0, 8));
                    break;
                default:
                    throw first.fault(1);
            }
            sign(t.get(i++), ";");
            w.lines++;
        }
        return w;
    }

    private List<String> readBook() {
        List<Token> t = tokens(400);
        List<String> lines = new ArrayList<>();
        int i = 0;
        while (!t.get(i).is("")) {
            Token first = t.get(i++);
            if (!first.is("hour") && !first.isName()) {
                throw first.fault(1);
            }
            boolean isSlide = world.slideNamed(first.text) != NONE;
            if (!first.is("hour") && !isSlide && world.hearerNamed(first.text) == NONE) {
                throw first.fault(3);
            }
            if (lines.size() == 40) {
                throw first.fault(4);
            }
            if (first.is("hour")) {
                lines.add("hour " + number(t.get(i++), 1, 24));
            } else if (!isSlide) {
                sign(t.get(i++), "sits");
                lines.add("sits " + world.hearerNamed(first.text) + " " + seatAt(t.get(i++)));
            } else {
                Token act = t.get(i++);
                String line = act.text + " " + world.slideNamed(first.text) + " ";
                if (act.is("shown")) {
                    line += number(t.get(i++), 0, 3);
                } else if (act.is("over")) {
                    line += slideAt(world, t.get(i++));
                } else if (act.is("scratch")) {
                    line += number(t.get(i++), 0, 3) + " ";
                    line += number(t.get(i++), 0, 3);
                } else {
                    throw act.fault(1);
                }
                lines.add(line);
            }
            sign(t.get(i++), ";");
        }
        return lines;
    }

    /** Reads, and, if a SLIDE is given, judges a SENTENCE as it goes. */
    private final class Reading {
        final List<Token> t;
        final World w;
        final int slide;
        int i;
        int ones;

        Reading(List<Token> t, World w, int slide) {
            this.t = t;
            this.w = w;
            this.slide = slide;
        }

        boolean cond(int within) {
            boolean is = all(within);
            while (t.get(i).is("or")) {
                i++;
                is |= all(within);
            }
            return is;
        }

        boolean all(int within) {
            boolean is = one(within);
            while (t.get(i).is("and")) {
                i++;
                is &= one(within);
            }
            return is;
        }

        boolean one(int within) {
            Token first = t.get(i);
            if (!Arrays.asList("not", "(", "so", "cracked", "even", "like", "light", "heat", "sighs", "number").contains(first.text)) {
                throw first.fault(1);
            }
            if (ones == 20 || within == 9) {
                throw first.fault(4);
            }
            ones++;
            i++;
            Slide it = slide == NONE ? new Slide() : w.slides.get(slide);
            switch (first.text) {
                case "not":
                    return !one(within + 1);
                case "(":
                    boolean is = cond(within + 1);
                    sign(t.get(i++), ")");
                    return is;
                case "so":
                    return it.so;
                case "cracked":
                    return it.cracked;
                case "even":
                    return Arrays.deepEquals(it.light, by(it.light, 2));
                case "like":
                    int other = slideAt(w, t.get(i++));
                    return looksLike(it.light, w.slides.get(other).light);
                default:
                    String sign = t.get(i).text;
                    if (!sign.equals("<") && !sign.equals("=") && !sign.equals(">")) {
                        throw t.get(i).fault(1);
                    }
                    i++;
                    int n = number(t.get(i++), 0, 999);
                    int value = first.is("light") ? lightOf(it.light) : first.is("heat") ? it.heat
                        : first.is("sighs") ? countOf(w.sighs(it.light)) : slide;
                    return sign.equals("<") ? value < n : sign.equals("=") ? value == n : value > n;
            }
        }
    }

    private static boolean looksLike(boolean[][] one, boolean[][] other) {
        for (int way = 0; way < 4; way++) {
            if (Arrays.deepEquals(by(one, way), other)) {
                return true;
            }
        }
        return false;
    }

    // ---- the face

    int feed(int... five) {
        if (tape.size() + 20 > 940) {
            return NONE;
        }
        for (int n : five) {
            for (int k = 3; k >= 0; k--) {
                tape.add(n >> 8 * k & 255);
            }
        }
        return tape.size();
    }

    boolean end(int n) {
        if (n < 0 || n > tape.size()) {
            return false;
        }
        while (tape.size() > n) {
            tape.remove(tape.size() - 1);
        }
        return true;
    }

    int session() {
        try {
            world = readSession();
        } catch (Fault f) {
            fault = f.kind;
            return -1 - f.place;
        }
        fault = 0;
        acts.clear();
        rule = null;
        return world.lines;
    }

    int fault() {
        return fault;
    }

    private boolean noSlide(int s) {
        return s < 0 || s >= world.slides.size();
    }

    private boolean noHearer(int h) {
        return h < 0 || h >= world.hearers.size();
    }

    private static boolean out(int n, int most) {
        return n < 0 || n > most;
    }

    int slide(int s, int what) {
        if (noSlide(s) || out(what, 9)) {
            throw new NoSuchElementException();
        }
        Slide one = world.slides.get(s);
        int[] all = {0, 0, 0, 0, one.heat, one.after, one.so ? 1 : 0, one.cracked ? 1 : 0, one.shown, lightOf(one.light)};
        return what < 4 ? rowNumber(one.light[what]) : all[what];
    }

    int row(int s, int way, int seat, int y) {
        if (noSlide(s) || out(way, 3) || out(seat, 1) || out(y, 3)) {
            return NONE;
        }
        boolean[][] shown = by(world.slides.get(s).light, way);
        return rowNumber((seat == 1 ? by(shown, 2) : shown)[y]);
    }

    int hearer(int h, int what) {
        if (noHearer(h) || out(what, 5)) {
            throw new NoSuchElementException();
        }
        Hearer one = world.hearers.get(h);
        int[] thoughts = new int[3];
        for (int[] row : one.thinks) {
            for (int t : row) {
                thoughts[t]++;
            }
        }
        int near = 0;
        for (int g : one.near) {
            near += 1 << g;
        }
        return new int[] {one.behind ? 1 : 0, one.need, thoughts[1], thoughts[2], one.sighed, near}[what];
    }

    int thinks(int h, int x, int y) {
        return noHearer(h) || out(x, 3) || out(y, 3) ? NONE : world.hearers.get(h).thinks[y][x];
    }

    int now(int what) {
        if (out(what, 6)) {
            return NONE;
        }
        int cracked = 0;
        for (int s = 0; s < world.slides.size(); s++) {
            cracked += world.slides.get(s).cracked ? 1 << s : 0;
        }
        int behind = 0;
        for (int h = 0; h < world.hearers.size(); h++) {
            behind += world.hearers.get(h).behind ? 1 << h : 0;
        }
        return new int[] {world.hour, world.heat, world.black ? 1 : 0, world.soBits(), cracked, behind, world.allSighs}[what];
    }

    private void act(World before) {
        acts.add(before);
        if (acts.size() > 8) {
            acts.remove(0);
        }
    }

    int show(int s, int way) {
        if (noSlide(s) || out(way, 3)) {
            return NONE;
        }
        World before = world.copy();
        int answer = world.show(s, way);
        if (answer >= 0 || answer == -5) {
            act(before);
        }
        return answer;
    }

    int over(int s, int t) {
        if (noSlide(s) || noSlide(t)) {
            return NONE;
        }
        World before = world.copy();
        int answer = world.over(s, t);
        if (answer >= 0 || answer == -5) {
            act(before);
        }
        return answer;
    }

    int scratch(int s, int x, int y) {
        if (noSlide(s) || out(x, 3) || out(y, 3)) {
            return NONE;
        }
        World before = world.copy();
        int answer = world.scratch(s, x, y);
        if (answer == 0) {
            act(before);
        }
        return answer;
    }

    int sit(int h, int seat) {
        if (noHearer(h) || out(seat, 1)) {
            return NONE;
        }
        World before = world.copy();
        int answer = world.sit(h, seat == 1);
        if (answer == 0) {
            act(before);
        }
        return answer;
    }

    int hours(int n) {
        if (n < 1 || n > 24) {
            return NONE;
        }
        World before = world.copy();
        int gone = world.hours(n);
        if (gone > 0) {
            act(before);
        }
        return gone;
    }

    int undo() {
        if (acts.isEmpty()) {
            return NONE;
        }
        world = acts.remove(acts.size() - 1);
        return acts.size();
    }

    int sighs(int s, int way) {
        return noSlide(s) || out(way, 3) ? NONE : bitsOf(world.sighs(by(world.slides.get(s).light, way)));
    }

    int best(int s) {
        if (noSlide(s)) {
            return NONE;
        }
        int best = 0;
        for (int way = 1; way < 4; way++) {
            if (Integer.bitCount(sighs(s, way)) > Integer.bitCount(sighs(s, best))) {
                best = way;
            }
        }
        return best;
    }

    int spreads(int set) {
        if (set < 0 || set >= 1 << world.hearers.size()) {
            return NONE;
        }
        boolean[] sigh = new boolean[world.hearers.size()];
        for (int h = 0; h < sigh.length; h++) {
            sigh[h] = (set & 1 << h) != 0;
        }
        return bitsOf(world.spread(sigh));
    }

    int order() {
        List<List<Integer>> all = new ArrayList<>();
        List<Integer> passes = new ArrayList<>();
        List<Integer> left = new ArrayList<>();
        for (int s = 0; s < world.slides.size(); s++) {
            if (!world.slides.get(s).so && !world.slides.get(s).cracked) {
                left.add(s);
            }
        }
        runs(world, left, new ArrayList<>(), all, passes);
        int best = 0;
        for (int i = 1; i < all.size(); i++) {
            if (passes.get(i) > passes.get(best)
                || passes.get(i).equals(passes.get(best)) && all.get(i).toString().compareTo(all.get(best).toString()) < 0) {
                best = i;
            }
        }
        lastOrder = all.get(best);
        return passes.get(best);
    }

    private void runs(World w, List<Integer> left, List<Integer> path, List<List<Integer>> all, List<Integer> passes) {
        boolean ends = true;
        // from the last one on, so that nothing rests on the way in which they are tried
        for (int k = left.size() - 1; k >= 0; k--) {
            World then = w.copy();
            int answer = then.show(left.get(k), 0);
            if (answer >= 0 || answer == -5) {
                ends = false;
                List<Integer> rest = new ArrayList<>(left);
                List<Integer> more = new ArrayList<>(path);
                more.add(rest.remove(k));
                runs(then, rest, more, all, passes);
            }
        }
        if (ends) {
            all.add(path);
            passes.add(Integer.bitCount(w.soBits()) - Integer.bitCount(world.soBits()));
        }
    }

    int orderAt(int k) {
        return k < 0 || k >= lastOrder.size() ? NONE : lastOrder.get(k);
    }

    int moved(int s, int way) {
        if (noSlide(s) || out(way, 3)) {
            return NONE;
        }
        for (int many = 0; many <= 8; many++) {
            for (int set = 0; set < 1 << world.hearers.size(); set++) {
                if (Integer.bitCount(set) == many) {
                    World then = world.copy();
                    for (int h = 0; h < then.hearers.size(); h++) {
                        then.hearers.get(h).behind ^= (set & 1 << h) != 0;
                    }
                    if (then.enough(by(then.slides.get(s).light, way))) {
                        lastMoved = set;
                        return many;
                    }
                }
            }
        }
        return NONE;
    }

    int movedWho() {
        return lastMoved;
    }

    int scratches(int s) {
        if (noSlide(s)) {
            return NONE;
        }
        for (int many = 0; many <= 4; many++) {
            for (int set = 0; set < 65536; set++) {
                if (Integer.bitCount(set) == many) {
                    boolean[][] light = copyOf(world.slides.get(s).light);
                    for (int cell = 0; cell < 16; cell++) {
                        light[cell / 4][cell % 4] ^= (set & 1 << cell) != 0;
                    }
                    if (world.enough(light)) {
                        lastScratched = set;
                        return many;
                    }
                }
            }
        }
        return NONE;
    }

    int scratched() {
        return lastScratched;
    }

    int seen() {
        List<Integer> bytes = new ArrayList<>(tape);
        tape.clear();
        if (bytes.size() != 8) {
            return NONE;
        }
        for (int i = 0; i < 8; i++) {
            if (bytes.get(i) > 15 || i < 4 && (bytes.get(i + 4) | bytes.get(i)) != bytes.get(i)) {
                return NONE;
            }
        }
        int found = 0;
        for (int s = 0; s < world.slides.size(); s++) {
            for (int way = 0; way < 4; way++) {
                boolean fits = true;
                for (int y = 0; y < 4; y++) {
                    fits &= (row(s, way, 0, y) & bytes.get(y)) == bytes.get(4 + y);
                }
                found |= fits ? 1 << s : 0;
            }
        }
        return found;
    }

    int alike(int s) {
        if (noSlide(s)) {
            return NONE;
        }
        int found = 0;
        for (int t = 0; t < world.slides.size(); t++) {
            found += t != s && looksLike(world.slides.get(t).light, world.slides.get(s).light) ? 1 << t : 0;
        }
        return found;
    }

    int differ(int s, int t) {
        if (noSlide(s) || noSlide(t)) {
            return NONE;
        }
        int many = 0;
        for (int cell = 0; cell < 16; cell++) {
            many += world.slides.get(s).light[cell / 4][cell % 4] != world.slides.get(t).light[cell / 4][cell % 4] ? 1 : 0;
        }
        return many;
    }

    int parts() {
        int found = NONE;
        int least = 99;
        for (int s = 0; s < world.slides.size(); s++) {
            int would = Integer.bitCount(sighs(s, 0));
            int apart = Math.abs(would - (world.hearers.size() - would));
            if (!world.slides.get(s).cracked && apart < least) {
                least = apart;
                found = s;
            }
        }
        return found;
    }

    int bill(int s) {
        if (noSlide(s)) {
            return NONE;
        }
        Slide one = world.slides.get(s);
        lastBill = one.name + (one.so ? " is so" : one.cracked ? " is cracked" : " is not so");
        if (!one.so && !one.cracked && world.waits(s)) {
            lastBill += " for " + world.slides.get(one.after).name;
        }
        return lastBill.length();
    }

    int byteAt(int i) {
        return i < 0 || i >= lastBill.length() ? NONE : lastBill.charAt(i);
    }

    int drawn(int n, int seed) {
        if (n < 1 || n > 24 || world.slides.isEmpty()) {
            return NONE;
        }
        World before = world.copy();
        int gone = world.drawn(n, seed);
        if (gone > 0) {
            act(before);
        }
        return gone;
    }

    int odds(int s, int n, int seed) {
        if (noSlide(s) || n < 1 || n > 30) {
            return NONE;
        }
        int many = 0;
        for (int i = 0; i < n; i++) {
            World then = world.copy();
            then.drawn(20, seed + i);
            many += then.slides.get(s).so ? 1 : 0;
        }
        return many;
    }

    int book(int lives) {
        if (out(lives, 1)) {
            return -1000;
        }
        List<String> lines;
        try {
            lines = readBook();
        } catch (Fault f) {
            fault = f.kind;
            return -2 - f.place;
        }
        fault = 0;
        World then = world.copy();
        int wrong = NONE;
        int why = 0;
        for (int i = 0; i < lines.size() && wrong == NONE; i++) {
            why = live(then, lines.get(i).split(" "));
            wrong = why == 0 ? NONE : i;
        }
        toldRow = new int[] {why, wrong == NONE ? lines.size() : wrong, then.hour, then.soBits()};
        if (lives == 1) {
            act(world);
            world = then;
        }
        return wrong;
    }

    private static int live(World w, String[] line) {
        int first = Integer.parseInt(line[1]);
        int answer;
        switch (line[0]) {
            case "shown":
                answer = w.show(first, Integer.parseInt(line[2]));
                return answer >= 0 || answer == -5 ? 0 : -1 - answer;
            case "over":
                answer = w.over(first, Integer.parseInt(line[2]));
                return answer >= 0 || answer == -5 ? 0 : 9 - answer;
            case "scratch":
                return 21 * w.scratch(first, Integer.parseInt(line[2]), Integer.parseInt(line[3]));
            case "sits":
                return 31 * w.sit(first, Boolean.parseBoolean(line[2]));
            default:
                if (w.hour + first > 400) {
                    return 41;
                }
                w.hours(first);
                return 0;
        }
    }

    int told(int what) {
        return toldRow == null || out(what, 3) ? NONE : toldRow[what];
    }

    int sentence() {
        List<Token> t = tokens(200);
        StringBuilder text = new StringBuilder();
        for (Token one : t) {
            text.append(one.text).append(' ');
        }
        try {
            Reading reading = new Reading(t, world, NONE);
            reading.cond(1);
            if (!t.get(reading.i).is("")) {
                throw t.get(reading.i).fault(1);
            }
            fault = 0;
            rule = text.toString().trim();
            return reading.ones;
        } catch (Fault f) {
            fault = f.kind;
            return -1 - f.place;
        }
    }

    int said(int k) {
        if (rule == null) {
            return NONE;
        }
        List<Token> t = new ArrayList<>();
        for (String one : rule.split(" ")) {
            t.add(new Token(0, one));
        }
        t.add(new Token(0, ""));
        List<Integer> found = new ArrayList<>();
        for (int s = 0; s < world.slides.size(); s++) {
            if (new Reading(t, world, s).cond(1)) {
                found.add(s);
            }
        }
        return k == NONE ? found.size() : k >= 0 && k < found.size() ? found.get(k) : NONE;
    }

    boolean image(int k) {
        if (out(k, 1)) {
            return false;
        }
        imageWorlds[k] = world.copy();
        imageRules[k] = rule;
        return true;
    }

    boolean restore(int k) {
        if (out(k, 1) || imageWorlds[k] == null) {
            return false;
        }
        world = imageWorlds[k].copy();
        rule = imageRules[k];
        acts.clear();
        return true;
    }

    int count(int what) {
        return out(what, 6) ? NONE : new int[] {world.slides.size(), world.hearers.size(), world.nears, world.setting("pass"),
            world.setting("spread"), world.setting("lamp"), tape.size()}[what];
    }
}
