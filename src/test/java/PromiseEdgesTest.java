/** The edges that the promises themselves name, promise by promise, each a test of its own. */
public final class PromiseEdgesTest {
    private static final int[] FAR = {Integer.MIN_VALUE, -1000, 1000, Integer.MAX_VALUE};
    private static final String ONE = "slide a 8 0 0 0 5;hearer g front 1;likes g 0 0;";
    private static final String HOT = "slide a 8 0 0 0 20;slide b 8 0 0 0 5;slide c 0 0 0 0 5;after c b;hearer g front 1;likes g 0 0;hearer h behind 1;lamp 19;";

    public static void main(String[] args) throws IllegalAccessException {
        Check.runAll(PromiseEdgesTest.class);
    }

    private static LanternState atHour(int hour, String text) {
        LanternState x = Check.of(text);
        while (x.now(0) < hour) {
            x.hours(Math.min(24, hour - x.now(0)));
        }
        return x;
    }

    // ---- 1: a new object

    static void promise01NewObjectHasAnEmptySession() {
        LanternState x = new LanternState();
        int[] due = {0, 0, 0, 1, 0, 40, 0};
        for (int what = 0; what < due.length; what++) {
            Check.due("count(" + what + ")", x.count(what), due[what]);
        }
        for (int what = 0; what < 7; what++) {
            Check.due("now(" + what + ")", x.now(what), 0);
        }
    }

    static void promise01NewObjectHasToldNothing() {
        LanternState x = new LanternState();
        Check.due("fault()", x.fault(), 0);
        Check.due("orderAt(0)", x.orderAt(0), -1);
        Check.due("movedWho()", x.movedWho(), -1);
        Check.due("scratched()", x.scratched(), -1);
        Check.due("byteAt(0)", x.byteAt(0), -1);
        Check.due("told(0)", x.told(0), -1);
        Check.due("said(-1)", x.said(-1), -1);
        Check.due("undo()", x.undo(), -1);
        Check.due("restore(0)", x.restore(0), false);
        Check.due("restore(1)", x.restore(1), false);
    }

    static void promise01TwoObjectsAreApart() {
        LanternState x = Check.of(ONE);
        LanternState y = new LanternState();
        x.feed(0, 0, 0, 0, 0);
        Check.due("slides of the other", y.count(0), 0);
        Check.due("tape of the other", y.count(6), 0);
    }

    // ---- 2: feed

    static void promise02FeedUpToJust940() {
        LanternState x = new LanternState();
        for (int i = 1; i <= 47; i++) {
            Check.due("feed " + i, x.feed(0, 0, 0, 0, 0), 20 * i);
        }
    }

    static void promise02FeedBeyond940IsRefusedWhole() {
        LanternState x = new LanternState();
        for (int i = 1; i <= 47; i++) {
            x.feed(0x20202020, 0x20202020, 0x20202020, 0x20202020, 0x20202020);
        }
        x.end(921);
        Check.due("941", x.feed(0, 0, 0, 0, 0), -1);
        Check.due("none came", x.count(6), 921);
        x.end(920);
        Check.due("940", x.feed(0x20202020, 0x20202020, 0x20202020, 0x20202020, 0x20202020), 940);
        Check.due("full", x.feed(0, 0, 0, 0, 0), -1);
        Check.due("full as it was", x.count(6), 940);
    }

    static void promise02FeedKeepsAllEightBits() {
        // known 0 0 0 0, light 0 0 0 0; then 255 and 128 in each place are not as told
        LanternState x = Check.of(ONE);
        int[] bytes = {0xFF000000, 0x00FF0000, 0x0000FF00, 0x000000FF, 0x80000000};
        for (int b : bytes) {
            x.feed(b, 0, 0, 0, 0);
            x.end(8);
            Check.due("seen() of " + b, x.seen(), -1);
        }
    }

    static void promise02FeedPutsTheHighestByteFirst() {
        LanternState x = Check.of("slide a 8 4 2 1 1;");
        x.feed(0x0F0F0F0F, 0x08040201, -1, -1, -1);
        x.end(8);
        Check.due("as it is", x.seen(), 1);
        x.feed(0x0F0F0F0F, 0x01000408, -1, -1, -1);
        x.end(8);
        Check.due("another", x.seen(), 0);
    }

    static void promise02FeedTakesAllFiveInOrder() {
        LanternState x = new LanternState();
        // "pass 3;spread 2;la" and "mp"
        x.feed(0x70617373, 0x20333b73, 0x70726561, 0x6420323b, 0x6c616d70);
        x.feed(0x2039373b, 0x20202020, 0x20202020, 0x20202020, 0x20202020);
        Check.due("session", x.session(), 3);
        Check.due("pass", x.count(3), 3);
        Check.due("spread", x.count(4), 2);
        Check.due("lamp", x.count(5), 97);
    }

    // ---- 3: end

    static void promise03EndOfJustAllAndOfNone() {
        LanternState x = new LanternState();
        Check.due("none of none", x.end(0), true);
        Check.due("one of none", x.end(1), false);
        x.feed(0, 0, 0, 0, 0);
        Check.due("all", x.end(20), true);
        Check.due("none", x.end(0), true);
        Check.due("bytes", x.count(6), 0);
    }

    static void promise03EndOfOneMoreIsRefused() {
        LanternState x = new LanternState();
        x.feed(0, 0, 0, 0, 0);
        Check.due("21", x.end(21), false);
        Check.due("all are there", x.count(6), 20);
        Check.due("far", x.end(Integer.MAX_VALUE), false);
    }

    static void promise03EndBelow0IsRefused() {
        LanternState x = new LanternState();
        x.feed(0, 0, 0, 0, 0);
        Check.due("-1", x.end(-1), false);
        Check.due("far", x.end(Integer.MIN_VALUE), false);
        Check.due("all are there", x.count(6), 20);
    }

    static void promise03EndForgetsWhatIsBehind() {
        LanternState x = new LanternState();
        x.feed(0x6c616d70, 0x20373b3f, 0x3f3f3f3f, 0x3f3f3f3f, 0x3f3f3f3f);
        Check.due("lamp 7;", x.end(7), true);
        Check.due("no way back", x.end(8), false);
        Check.due("session", x.session(), 1);
    }

    // ---- 4, 5: session, fault (their texts: TextEdgesTest)

    static void promise04SessionOfAnEmptyTape() {
        LanternState x = Check.of(ONE);
        Check.due("session", x.session(), 0);
        Check.due("slides", x.count(0), 0);
    }

    static void promise04SessionFaultAtTheFirstByte() {
        LanternState x = new LanternState();
        Check.due("at 0", Check.session(x, "?"), -1);
        Check.due("at 1", Check.session(x, " ?"), -2);
    }

    static void promise05FaultAheadOfAny() {
        Check.due("fault", new LanternState().fault(), 0);
    }

    static void promise05FaultOfEachKindOfText() {
        LanternState x = Check.of(ONE);
        Check.session(x, "lamp 0;");
        Check.due("session", x.fault(), 2);
        Check.book(x, "z", 0);
        Check.due("book", x.fault(), 3);
        Check.sentence(x, "");
        Check.due("sentence", x.fault(), 1);
    }

    static void promise05FaultIsLeftByBookOfAnotherLives() {
        LanternState x = Check.of(ONE);
        Check.session(x, "lamp 0;");
        Check.due("-1000", x.book(2), -1000);
        Check.due("fault", x.fault(), 2);
    }

    static void promise05FaultIsLeftByOtherCalls() {
        LanternState x = Check.of(ONE);
        x.image(0);
        Check.session(x, "lamp 0;");
        x.show(0, 0);
        x.seen();
        x.undo();
        x.restore(0);
        Check.due("fault", x.fault(), 2);
    }

    // ---- 6: slide

    static void promise06SlideOfNoSuchOnesThrows() {
        LanternState x = Check.of(ONE);
        int[][] none = {{1, 0}, {-1, 0}, {0, -1}, {0, 10}, {1, 10}};
        for (int[] n : none) {
            Check.due("slide(" + n[0] + ", " + n[1] + ")", Check.slideThrows(x, n[0], n[1]), true);
        }
        for (int far : FAR) {
            Check.due("slide(" + far + ", 0)", Check.slideThrows(x, far, 0), true);
            Check.due("slide(0, " + far + ")", Check.slideThrows(x, 0, far), true);
        }
    }

    static void promise06SlideOfAnEmptySessionThrows() {
        Check.due("slide(0, 0)", Check.slideThrows(new LanternState(), 0, 0), true);
    }

    static void promise06SlideThatThrowsChangesNothing() {
        LanternState x = Check.of(ONE);
        x.show(0, 0);
        Check.slideThrows(x, 7, 7);
        Check.due("shown", x.slide(0, 8), 1);
        Check.due("undo", x.undo(), 0);
    }

    static void promise06SlideBehindNoneIsNone() {
        Check.due("slide(0, 5)", Check.of(ONE).slide(0, 5), -1);
    }

    static void promise06SlideBehindSlide0() {
        Check.due("slide(2, 5)", Check.of("slide a 0 0 0 0 1;slide b 0 0 0 0 1;slide c 0 0 0 0 1;after c a;").slide(2, 5), 0);
    }

    static void promise06SlideCountsShowingsOverAndCracking() {
        LanternState x = Check.of("slide a 0 0 0 0 10;slide b 0 0 0 0 10;lamp 39;");
        x.show(0, 0);
        Check.due("shown", x.slide(0, 8), 1);
        x.over(1, 0);
        Check.due("over another one", x.slide(0, 8), 2);
        Check.due("the other one", x.slide(1, 8), 1);
        Check.due("it cracks", x.show(0, 0), -5);
        Check.due("when it cracked", x.slide(0, 8), 3);
        x.show(0, 0);
        x.show(1, 0);
        x.over(0, 1);
        Check.due("not when refused", x.slide(0, 8), 3);
        Check.due("not when black", x.slide(1, 8), 1);
    }

    // ---- 7: row

    static void promise07RowOfNoSuchOnes() {
        LanternState x = Check.of(ONE);
        int[][] none = {{1, 0, 0, 0}, {-1, 0, 0, 0}, {0, 4, 0, 0}, {0, -1, 0, 0}, {0, 0, 2, 0}, {0, 0, -1, 0}, {0, 0, 0, 4}, {0, 0, 0, -1}};
        for (int[] n : none) {
            Check.due("row(" + n[0] + ", " + n[1] + ", " + n[2] + ", " + n[3] + ")", x.row(n[0], n[1], n[2], n[3]), -1);
        }
        for (int far : FAR) {
            Check.due("far slide", x.row(far, 0, 0, 0), -1);
            Check.due("far way", x.row(0, far, 0, 0), -1);
            Check.due("far seat", x.row(0, 0, far, 0), -1);
            Check.due("far row", x.row(0, 0, 0, far), -1);
        }
    }

    static void promise07RowOfACrackedOne() {
        LanternState x = Check.of(HOT);
        x.show(0, 0);
        Check.due("row", x.row(0, 2, 0, 0), 1);
    }

    // ---- 8: hearer

    static void promise08HearerOfNoSuchOnesThrows() {
        LanternState x = Check.of(ONE);
        int[][] none = {{1, 0}, {-1, 0}, {0, -1}, {0, 6}, {1, 6}};
        for (int[] n : none) {
            Check.due("hearer(" + n[0] + ", " + n[1] + ")", Check.hearerThrows(x, n[0], n[1]), true);
        }
        for (int far : FAR) {
            Check.due("hearer(" + far + ", 0)", Check.hearerThrows(x, far, 0), true);
            Check.due("hearer(0, " + far + ")", Check.hearerThrows(x, 0, far), true);
        }
    }

    static void promise08HearerOfAnEmptySessionThrows() {
        Check.due("hearer(0, 0)", Check.hearerThrows(new LanternState(), 0, 0), true);
    }

    static void promise08HearerThatThrowsChangesNothing() {
        LanternState x = Check.of(ONE);
        x.sit(0, 1);
        Check.hearerThrows(x, 7, 7);
        Check.due("seat", x.hearer(0, 0), 1);
        Check.due("undo", x.undo(), 0);
    }

    static void promise08HearerWithNobodyNear() {
        Check.due("near", Check.of(ONE).hearer(0, 5), 0);
    }

    static void promise08HearerNearTheFirstAndTheLast() {
        StringBuilder text = new StringBuilder();
        for (char c = 'k'; c < 's'; c++) {
            text.append("hearer ").append(c).append(" front 0;");
        }
        LanternState x = Check.of(text + "near m k;near r m;");
        Check.due("near m", x.hearer(2, 5), 1 | 128);
        Check.due("near k", x.hearer(0, 5), 4);
        Check.due("near r", x.hearer(7, 5), 4);
    }

    static void promise08HearerSighsOnlyWhenShown() {
        LanternState x = Check.of(HOT);
        x.show(0, 0);
        x.sighs(1, 0);
        Check.due("nobody when it cracks", x.hearer(0, 4), 0);
        x.hours(4);
        x.show(1, 0);
        x.show(1, 0);
        Check.due("twice", x.hearer(0, 4), 2);
        Check.due("never", x.hearer(1, 4), 0);
    }

    // ---- 9: thinks

    static void promise09ThinksOfNoSuchOnes() {
        LanternState x = Check.of(ONE);
        int[][] none = {{1, 0, 0}, {-1, 0, 0}, {0, 4, 0}, {0, -1, 0}, {0, 0, 4}, {0, 0, -1}};
        for (int[] n : none) {
            Check.due("thinks(" + n[0] + ", " + n[1] + ", " + n[2] + ")", x.thinks(n[0], n[1], n[2]), -1);
        }
        for (int far : FAR) {
            Check.due("far hearer", x.thinks(far, 0, 0), -1);
            Check.due("far x", x.thinks(0, far, 0), -1);
            Check.due("far y", x.thinks(0, 0, far), -1);
        }
    }

    static void promise09ThinksOfACellWhereverHeSits() {
        LanternState x = Check.of("hearer g behind 1;likes g 0 1;hates g 2 3;");
        Check.due("likes", x.thinks(0, 0, 1), 1);
        Check.due("hates", x.thinks(0, 2, 3), 2);
        Check.due("not mirrored", x.thinks(0, 3, 1), 0);
        Check.due("neither", x.thinks(0, 3, 2), 0);
    }

    // ---- 10: now

    static void promise10NowOfAnotherWhat() {
        LanternState x = Check.of(ONE);
        Check.due("now(-1)", x.now(-1), -1);
        Check.due("now(7)", x.now(7), -1);
        for (int far : FAR) {
            Check.due("now(" + far + ")", x.now(far), -1);
        }
    }

    static void promise10NowOfTheSixthSlideAndTheEighthHearer() {
        StringBuilder text = new StringBuilder("lamp 1;pass 0;");
        for (char c = 'a'; c < 'g'; c++) {
            text.append("slide ").append(c).append(" 0 0 0 0 1;");
        }
        for (char c = 'k'; c < 's'; c++) {
            text.append("hearer ").append(c).append(" front 0;");
        }
        LanternState x = Check.of(text.toString());
        x.show(5, 0);
        x.sit(7, 1);
        Check.due("eight sighs", x.now(6), 8);
        Check.due("so", x.now(3), 32);
        Check.due("behind", x.now(5), 128);
        x.show(5, 0);
        Check.due("cracked", x.now(4), 32);
    }

    // ---- 11: show

    static void promise11ShowOfNoSuchOnes() {
        LanternState x = Check.of(ONE);
        int[][] none = {{1, 0}, {-1, 0}, {0, 4}, {0, -1}};
        for (int[] n : none) {
            Check.due("show(" + n[0] + ", " + n[1] + ")", x.show(n[0], n[1]), -1);
        }
        for (int far : FAR) {
            Check.due("far slide", x.show(far, 0), -1);
            Check.due("far way", x.show(0, far), -1);
        }
        Check.due("cold", x.now(1), 0);
        Check.due("nothing to undo", x.undo(), -1);
    }

    static void promise11ShowOfANoSuchWayOfACrackedOne() {
        LanternState x = Check.of(HOT);
        x.show(0, 0);
        Check.due("no such way", x.show(0, 4), -1);
    }

    // ---- 12: over

    static void promise12OverOfNoSuchOnes() {
        LanternState x = Check.of(HOT);
        int[][] none = {{3, 0}, {-1, 0}, {0, 3}, {0, -1}, {3, 3}, {-1, -1}};
        for (int[] n : none) {
            Check.due("over(" + n[0] + ", " + n[1] + ")", x.over(n[0], n[1]), -1);
        }
        for (int far : FAR) {
            Check.due("far first", x.over(far, 0), -1);
            Check.due("far second", x.over(0, far), -1);
        }
        Check.due("nothing to undo", x.undo(), -1);
    }

    // ---- 13: scratch

    static void promise13ScratchOfNoSuchOnes() {
        LanternState x = Check.of(ONE);
        int[][] none = {{1, 0, 0}, {-1, 0, 0}, {0, 4, 0}, {0, -1, 0}, {0, 0, 4}, {0, 0, -1}};
        for (int[] n : none) {
            Check.due("scratch(" + n[0] + ", " + n[1] + ", " + n[2] + ")", x.scratch(n[0], n[1], n[2]), -1);
        }
        for (int far : FAR) {
            Check.due("far slide", x.scratch(far, 0, 0), -1);
            Check.due("far x", x.scratch(0, far, 0), -1);
            Check.due("far y", x.scratch(0, 0, far), -1);
        }
        Check.due("nothing to undo", x.undo(), -1);
        Check.due("light cells", x.slide(0, 9), 1);
    }

    static void promise13ScratchOfANoSuchCellOfACrackedOne() {
        LanternState x = Check.of(HOT);
        x.show(0, 0);
        Check.due("no such cell", x.scratch(0, 4, 0), -1);
    }

    // ---- 14: sit

    static void promise14SitOfNoSuchOnes() {
        LanternState x = Check.of(ONE);
        int[][] none = {{1, 0}, {-1, 0}, {0, 2}, {0, -1}};
        for (int[] n : none) {
            Check.due("sit(" + n[0] + ", " + n[1] + ")", x.sit(n[0], n[1]), -1);
        }
        for (int far : FAR) {
            Check.due("far hearer", x.sit(far, 1), -1);
            Check.due("far seat", x.sit(0, far), -1);
        }
        Check.due("nothing to undo", x.undo(), -1);
        Check.due("seats", x.now(5), 0);
    }

    // ---- 15: hours

    static void promise15HoursFrom1To24() {
        LanternState x = new LanternState();
        Check.due("1", x.hours(1), 1);
        Check.due("24", x.hours(24), 24);
        Check.due("25 went", x.now(0), 25);
    }

    static void promise15HoursOf0Or25AreNotAsTold() {
        LanternState x = new LanternState();
        Check.due("0", x.hours(0), -1);
        Check.due("-1", x.hours(-1), -1);
        Check.due("25", x.hours(25), -1);
        for (int far : FAR) {
            Check.due("far", x.hours(far), -1);
        }
        Check.due("none went", x.now(0), 0);
    }

    static void promise15HoursNotAsToldAt400() {
        LanternState x = atHour(400, "");
        Check.due("0", x.hours(0), -1);
        Check.due("25", x.hours(25), -1);
        Check.due("1", x.hours(1), 0);
        Check.due("24", x.hours(24), 0);
    }

    static void promise15HoursThatAreLeft() {
        LanternState x = atHour(376, "");
        Check.due("24 of 24", x.hours(24), 24);
        Check.due("all are over", x.now(0), 400);
        LanternState y = atHour(377, "");
        Check.due("23 of 24", y.hours(24), 23);
    }

    // ---- 16: undo

    static void promise16UndoOfNothing() {
        Check.due("a new one", new LanternState().undo(), -1);
        LanternState x = Check.of(ONE);
        x.show(0, 0);
        Check.due("one", x.undo(), 0);
        Check.due("none", x.undo(), -1);
        Check.due("cold", x.now(1), 0);
    }

    static void promise16UndoKeepsJustEight() {
        LanternState x = Check.of(ONE);
        for (int i = 0; i < 8; i++) {
            x.hours(1);
        }
        for (int left = 7; left >= 0; left--) {
            Check.due("left", x.undo(), left);
            Check.due("HOUR", x.now(0), left);
        }
        Check.due("none", x.undo(), -1);
    }

    static void promise16UndoForgetsTheNinth() {
        LanternState x = Check.of(ONE);
        for (int i = 0; i < 9; i++) {
            x.hours(1);
        }
        for (int left = 7; left >= 0; left--) {
            Check.due("left", x.undo(), left);
            Check.due("HOUR", x.now(0), left + 1);
        }
        Check.due("none", x.undo(), -1);
        Check.due("the first stays", x.now(0), 1);
    }

    static void promise16UndoGoesRoundManyTimes() {
        LanternState x = Check.of(ONE);
        int hour = 0;
        for (int round = 0; round < 40; round++) {
            for (int i = 0; i < 5; i++) {
                x.hours(1);
                hour++;
            }
            x.undo();
            x.undo();
            hour -= 2;
            Check.due("HOUR of round " + round, x.now(0), hour);
        }
        Check.due("eight are kept, two were undone", x.undo(), 5);
    }

    static void promise16UndoOfShowOf0() {
        LanternState x = Check.of("slide a 0 0 0 0 5;");
        Check.due("nobody", x.show(0, 0), 0);
        Check.due("undone", x.undo(), 0);
        Check.due("cold", x.now(1), 0);
        Check.due("not shown", x.slide(0, 8), 0);
    }

    static void promise16UndoOfACrack() {
        LanternState x = Check.of(HOT);
        Check.due("cracks", x.show(0, 0), -5);
        Check.due("undone", x.undo(), 0);
        Check.due("whole", x.now(4), 0);
        Check.due("not black", x.now(2), 0);
        Check.due("cold", x.now(1), 0);
        Check.due("not shown", x.slide(0, 8), 0);
    }

    static void promise16UndoOfOver() {
        LanternState x = Check.of("slide a 8 0 0 0 5;slide b 0 0 0 0 5;hearer g front 1;likes g 0 0;lamp 15;");
        Check.due("over", x.over(0, 1), 1);
        Check.due("over cracks", x.over(0, 1), -5);
        Check.due("undone", x.undo(), 1);
        Check.due("so still", x.now(3), 3);
        Check.due("whole", x.now(4), 0);
        Check.due("undone, too", x.undo(), 0);
        Check.due("not so", x.now(3), 0);
        Check.due("no sighs", x.hearer(0, 4), 0);
    }

    static void promise16UndoOfScratchSitAndHours() {
        LanternState x = Check.of(ONE);
        x.show(0, 0);
        x.scratch(0, 3, 3);
        x.sit(0, 1);
        x.hours(2);
        Check.due("hours", x.undo(), 3);
        Check.due("hot", x.now(1), 5);
        Check.due("sit", x.undo(), 2);
        Check.due("in front", x.now(5), 0);
        Check.due("scratch", x.undo(), 1);
        Check.due("dark", x.slide(0, 3), 0);
        Check.due("show", x.undo(), 0);
        Check.due("not so", x.now(3), 0);
    }

    private static int[] all(LanternState x) {
        int slides = x.count(0);
        int hearers = x.count(1);
        int[] told = new int[7 + 10 * slides + 6 * hearers];
        int n = 0;
        for (int what = 0; what < 7; what++) {
            told[n++] = x.now(what);
        }
        for (int i = 0; i < 10 * slides; i++) {
            told[n++] = x.slide(i / 10, i % 10);
        }
        for (int i = 0; i < 6 * hearers; i++) {
            told[n++] = x.hearer(i / 6, i % 6);
        }
        return told;
    }

    /** Each of some acts, one behind the other. */
    private static void act(LanternState x, int which) {
        switch (which) {
            case 0: Check.due("over", x.over(1, 0), 1); break;
            case 1: Check.due("scratch", x.scratch(1, 2, 3), 0); break;
            case 2: Check.due("sit", x.sit(1, 0), 0); break;
            case 3: Check.due("hours", x.hours(1), 1); break;
            case 4: Check.due("drawn", x.drawn(1, 4), 1); break;
            case 5: Check.due("a BOOK", Check.book(x, "hour 1;c scratch 1 1;h sits behind;", 1), -1); break;
            case 6: Check.due("show", x.show(1, 0), 1); break;
            default: Check.due("it cracks", x.show(0, 2), -5); break;
        }
    }

    static void promise16UndoOfEachActLeavesAllAsAheadOfIt() {
        LanternState x = Check.of(HOT.replace("lamp 19", "lamp 25"));
        int[][] ahead = new int[8][];
        for (int i = 0; i < 8; i++) {
            ahead[i] = all(x);
            act(x, i);
            Check.due("act " + i + " changes something", java.util.Arrays.equals(all(x), ahead[i]), false);
        }
        for (int i = 7; i >= 0; i--) {
            Check.due("undo", x.undo(), i);
            Check.dueText("all ahead of act " + i, java.util.Arrays.toString(all(x)), java.util.Arrays.toString(ahead[i]));
        }
    }

    static void promise16UndoOfJustOneHour() {
        LanternState x = Check.of(ONE);
        Check.due("hours(1)", x.hours(1), 1);
        Check.due("drawn(1)", x.drawn(1, 1), 1);
        Check.due("drawn undone", x.undo(), 1);
        Check.due("HOUR", x.now(0), 1);
        Check.due("hours undone", x.undo(), 0);
        Check.due("HOUR", x.now(0), 0);
    }

    static void promise16UndoOfDrawnAtOnce() {
        LanternState x = Check.of(ONE);
        Check.due("drawn", x.drawn(24, 9), 24);
        Check.due("undone", x.undo(), 0);
        Check.due("HOUR", x.now(0), 0);
        Check.due("not shown", x.slide(0, 8), 0);
    }

    static void promise16UndoOfABookAtOnce() {
        LanternState x = Check.of(ONE);
        Check.due("lived", Check.book(x, "a shown 0;hour 3;g sits behind;a scratch 1 1;", 1), -1);
        Check.due("undone", x.undo(), 0);
        Check.due("HOUR", x.now(0), 0);
        Check.due("not shown", x.slide(0, 8), 0);
        Check.due("in front", x.now(5), 0);
        Check.due("dark", x.slide(0, 1), 0);
    }

    static void promise16UndoOfABookLivedAsFarAsItWasNotWrong() {
        LanternState x = Check.of(ONE);
        Check.due("wrong", Check.book(x, "hour 3;g sits front;", 1), 1);
        Check.due("lived so far", x.now(0), 3);
        Check.due("undone", x.undo(), 0);
        Check.due("HOUR", x.now(0), 0);
    }

    static void promise16UndoNotOfABookJudgedOrWithAFault() {
        LanternState x = Check.of(ONE);
        Check.due("judged", Check.book(x, "hour 3;", 0), -1);
        Check.due("a fault", Check.book(x, "hour 3", 1), -2 - 6);
        Check.due("another lives", x.book(2), -1000);
        Check.due("nothing", x.undo(), -1);
    }

    static void promise16UndoNotOfRefusedCalls() {
        LanternState x = Check.of(HOT);
        x.show(0, 0);
        x.undo();
        Check.due("behind one not so", x.show(2, 0), -3);
        Check.due("itself", x.over(1, 1), -2);
        Check.due("one waits", x.over(1, 2), -3);
        Check.due("sits so", x.sit(0, 0), 1);
        Check.due("no hours", x.hours(0), -1);
        Check.due("not drawn", x.drawn(0, 1), -1);
        Check.due("nothing", x.undo(), -1);
        x.show(0, 0);
        Check.due("cracked", x.show(0, 0), -2);
        Check.due("black", x.show(1, 0), -4);
        Check.due("scratch of a cracked one", x.scratch(0, 0, 0), 1);
        Check.due("the crack alone", x.undo(), 0);
    }

    static void promise16UndoNotOfHoursOf0() {
        LanternState x = atHour(400, ONE);
        Check.due("no hours", x.hours(5), 0);
        Check.due("not drawn", x.drawn(5, 1), 0);
        Check.due("the latest hours", x.undo(), 7);
        Check.due("HOUR", x.now(0), 384);
    }

    static void promise16UndoNotOfAsking() {
        LanternState x = Check.of(ONE);
        x.sighs(0, 0);
        x.best(0);
        x.order();
        x.moved(0, 0);
        x.scratches(0);
        x.parts();
        x.bill(0);
        x.odds(0, 5, 5);
        x.image(0);
        Check.sentence(x, "so");
        x.said(0);
        Check.due("nothing", x.undo(), -1);
    }

    static void promise16UndoLeavesTapeAndSentence() {
        LanternState x = Check.of(ONE);
        x.show(0, 0);
        Check.sentence(x, "not so");
        x.feed(0, 0, 0, 0, 0);
        x.undo();
        Check.due("tape", x.count(6), 20);
        Check.due("said", x.said(-1), 1);
    }

    // ---- 17: sighs

    static void promise17SighsOfNoSuchOnes() {
        LanternState x = Check.of(ONE);
        int[][] none = {{1, 0}, {-1, 0}, {0, 4}, {0, -1}};
        for (int[] n : none) {
            Check.due("sighs(" + n[0] + ", " + n[1] + ")", x.sighs(n[0], n[1]), -1);
        }
        for (int far : FAR) {
            Check.due("far slide", x.sighs(far, 0), -1);
            Check.due("far way", x.sighs(0, far), -1);
        }
    }

    static void promise17SighsOfACrackedOneWhenBlack() {
        LanternState x = Check.of(HOT);
        x.show(0, 0);
        Check.due("cracked", x.sighs(0, 0), 1);
        Check.due("waiting", x.sighs(2, 0), 0);
        Check.due("black", x.sighs(1, 0), 1);
    }

    static void promise17SighsWithoutHearers() {
        Check.due("nobody", Check.of("slide a 8 0 0 0 1;").sighs(0, 0), 0);
    }

    // ---- 18: best

    static void promise18BestOfNoSuchOne() {
        LanternState x = Check.of(ONE);
        Check.due("1", x.best(1), -1);
        Check.due("-1", x.best(-1), -1);
        for (int far : FAR) {
            Check.due("far", x.best(far), -1);
        }
    }

    static void promise18BestWhereSlidesAreMoreOrFewerThanHearers() {
        LanternState x = Check.of("slide a 8 0 0 0 1;slide b 1 0 0 0 1;hearer g front 1;likes g 0 0;");
        Check.due("more", x.best(1), 2);
        Check.due("none such", x.best(2), -1);
        LanternState y = Check.of("slide a 8 0 0 0 1;hearer g front 1;likes g 0 0;hearer h front 0;");
        Check.due("fewer", y.best(0), 0);
        Check.due("none such", y.best(1), -1);
    }

    static void promise18BestOfEachWay() {
        String[] cells = {"0 0", "3 3", "3 0", "0 3"};
        for (int way = 0; way < 4; way++) {
            LanternState x = Check.of("slide a 8 0 0 0 1;hearer g front 1;likes g " + cells[way] + ";");
            Check.due("best", x.best(0), way);
        }
    }

    static void promise18BestOfLikeOnesTheFirst() {
        Check.due("nobody by any", Check.of("slide a 0 0 0 0 1;hearer g front 1;").best(0), 0);
        Check.due("all by all", Check.of("slide a 0 0 0 0 1;hearer g front 0;").best(0), 0);
        Check.due("1 and 3", Check.of("slide a 9 0 0 0 1;hearer g front 1;likes g 0 3;").best(0), 1);
        Check.due("2 and 3", Check.of("slide a 8 0 0 0 1;hearer g front 1;likes g 3 0;likes g 0 3;").best(0), 2);
    }

    static void promise18BestOfACrackedOne() {
        LanternState x = Check.of("slide a 1 0 0 0 20;lamp 1;hearer g front 1;likes g 0 0;");
        x.show(0, 0);
        Check.due("best", x.best(0), 2);
    }

    // ---- 19: spreads

    static void promise19SpreadsOfNoSuchOnes() {
        LanternState x = Check.of("hearer g front 1;hearer h front 1;near g h;spread 1;");
        Check.due("none of them", x.spreads(0), 0);
        Check.due("all of them", x.spreads(3), 3);
        Check.due("a third", x.spreads(4), -1);
        Check.due("a third, too", x.spreads(5), -1);
        Check.due("-1", x.spreads(-1), -1);
        for (int far : FAR) {
            Check.due("far", x.spreads(far), -1);
        }
    }

    static void promise19SpreadsWithoutHearers() {
        Check.due("0", new LanternState().spreads(0), 0);
        Check.due("1", new LanternState().spreads(1), -1);
    }

    static void promise19SpreadsOfEight() {
        StringBuilder text = new StringBuilder("spread 1;");
        for (char c = 'k'; c < 's'; c++) {
            text.append("hearer ").append(c).append(" front 16;");
        }
        for (char c = 'k'; c < 'r'; c++) {
            text.append("near ").append(c).append(' ').append((char) (c + 1)).append(';');
        }
        LanternState x = Check.of(text.toString());
        Check.due("from the first", x.spreads(1), 255);
        Check.due("from the last", x.spreads(128), 255);
        Check.due("all", x.spreads(255), 255);
        Check.due("256", x.spreads(256), -1);
    }

    // ---- 20, 21: order, orderAt (more: FindingEdgesTest)

    static void promise21OrderAtOfNoneSuch() {
        LanternState x = Check.of("slide a 8 0 0 0 5;slide b 8 0 0 0 5;hearer g front 1;likes g 0 0;");
        Check.due("ahead of any", x.orderAt(0), -1);
        Check.due("order", x.order(), 2);
        Check.due("-1", x.orderAt(-1), -1);
        Check.due("0", x.orderAt(0), 0);
        Check.due("1", x.orderAt(1), 1);
        Check.due("2", x.orderAt(2), -1);
        Check.due("6", x.orderAt(6), -1);
        for (int far : FAR) {
            Check.due("far", x.orderAt(far), -1);
        }
    }

    static void promise21OrderAtIsByTheLatestOrder() {
        LanternState x = Check.of("slide a 8 0 0 0 5;slide b 8 0 0 0 5;hearer g front 1;likes g 0 0;");
        x.order();
        x.show(0, 0);
        Check.due("as it was told", x.orderAt(0), 0);
        x.order();
        Check.due("told anew", x.orderAt(0), 1);
        Check.due("one alone", x.orderAt(1), -1);
        x.show(1, 0);
        x.order();
        Check.due("none", x.orderAt(0), -1);
    }

    // ---- 22, 23: moved, movedWho

    static void promise22MovedOfNoSuchOnes() {
        LanternState x = Check.of(ONE);
        int[][] none = {{1, 0}, {-1, 0}, {0, 4}, {0, -1}};
        for (int[] n : none) {
            Check.due("moved(" + n[0] + ", " + n[1] + ")", x.moved(n[0], n[1]), -1);
        }
        for (int far : FAR) {
            Check.due("far slide", x.moved(far, 0), -1);
            Check.due("far way", x.moved(0, far), -1);
        }
        Check.due("movedWho", x.movedWho(), -1);
    }

    static void promise23MovedWhoIsByTheLatestThatWasNotNone() {
        LanternState x = Check.of(ONE);
        Check.due("mirrored", x.moved(0, 2), 1);
        Check.due("who", x.movedWho(), 1);
        Check.due("by none", x.moved(0, 1), -1);
        Check.due("no such one", x.moved(5, 5), -1);
        Check.due("who, still", x.movedWho(), 1);
        Check.due("nobody", x.moved(0, 0), 0);
        Check.due("nobody", x.movedWho(), 0);
    }

    // ---- 24, 25: scratches, scratched

    static void promise24ScratchesOfNoSuchOne() {
        LanternState x = Check.of(ONE);
        Check.due("1", x.scratches(1), -1);
        Check.due("-1", x.scratches(-1), -1);
        for (int far : FAR) {
            Check.due("far", x.scratches(far), -1);
        }
        Check.due("scratched", x.scratched(), -1);
    }

    static void promise25ScratchedIsByTheLatestThatWasNotNone() {
        LanternState x = Check.of("slide a 0 0 0 0 5;slide b 1 0 0 0 5;hearer g front 4;likes g 0 0;likes g 1 0;likes g 2 0;likes g 3 3;hates g 3 0;");
        Check.due("four", x.scratches(0), 4);
        Check.due("which", x.scratched(), 7 | 1 << 15);
        Check.due("five", x.scratches(1), -1);
        Check.due("no such one", x.scratches(2), -1);
        Check.due("which, still", x.scratched(), 7 | 1 << 15);
    }

    // ---- 26: seen (more: FindingEdgesTest)

    static void promise26SeenEmptiesTheTape() {
        LanternState x = Check.of(ONE);
        x.feed(0, 0, 0, 0, 0);
        Check.due("20 bytes", x.seen(), -1);
        Check.due("empty", x.count(6), 0);
        x.feed(0, 0, 0, 0, 0);
        x.end(8);
        Check.due("8 bytes", x.seen(), 1);
        Check.due("empty", x.count(6), 0);
    }

    // ---- 27: alike

    static void promise27AlikeOfNoSuchOne() {
        LanternState x = Check.of(ONE);
        Check.due("1", x.alike(1), -1);
        Check.due("-1", x.alike(-1), -1);
        for (int far : FAR) {
            Check.due("far", x.alike(far), -1);
        }
    }

    static void promise27AlikeIsNotItself() {
        Check.due("even", Check.of("slide a 0 0 0 0 1;").alike(0), 0);
    }

    static void promise27AlikeByEachWay() {
        LanternState x = Check.of("slide a 12 1 0 0 1;slide b 12 1 0 0 1;slide c 0 0 8 3 1;slide d 3 8 0 0 1;slide e 0 0 1 12 1;slide f 12 8 0 0 1;");
        for (int s = 0; s < 5; s++) {
            Check.due("alike(" + s + ")", x.alike(s), 31 & ~(1 << s));
        }
        Check.due("alike(5)", x.alike(5), 0);
    }

    static void promise27AlikeACrackedOneToo() {
        LanternState x = Check.of("slide a 8 0 0 0 20;slide b 1 0 0 0 1;lamp 19;");
        x.show(0, 0);
        Check.due("a like b", x.alike(1), 1);
        Check.due("b like a", x.alike(0), 2);
    }

    // ---- 28: differ

    static void promise28DifferOfNoSuchOnes() {
        LanternState x = Check.of(ONE);
        int[][] none = {{1, 0}, {-1, 0}, {0, 1}, {0, -1}, {1, 1}};
        for (int[] n : none) {
            Check.due("differ(" + n[0] + ", " + n[1] + ")", x.differ(n[0], n[1]), -1);
        }
        for (int far : FAR) {
            Check.due("far first", x.differ(far, 0), -1);
            Check.due("far second", x.differ(0, far), -1);
        }
    }

    static void promise28DifferFromNoneToAll() {
        LanternState x = Check.of("slide a 0 0 0 0 1;slide b 15 15 15 15 1;slide c 8 0 0 0 1;slide d 1 0 0 0 1;");
        Check.due("itself", x.differ(1, 1), 0);
        Check.due("all", x.differ(0, 1), 16);
        Check.due("all, the other way", x.differ(1, 0), 16);
        Check.due("by WAY 0 alone", x.differ(2, 3), 2);
    }

    // ---- 29: parts (see FindingEdgesTest); 30, 31: bill, byteAt

    static void promise30BillOfNoSuchOne() {
        LanternState x = Check.of(ONE);
        Check.due("1", x.bill(1), -1);
        Check.due("-1", x.bill(-1), -1);
        for (int far : FAR) {
            Check.due("far", x.bill(far), -1);
        }
        Check.due("byteAt(0)", x.byteAt(0), -1);
    }

    static void promise31ByteAtOfNoneSuch() {
        LanternState x = Check.of(ONE);
        Check.due("ahead of any", x.byteAt(0), -1);
        Check.due("a is not so", x.bill(0), 11);
        Check.due("0", x.byteAt(0), 'a');
        Check.due("10", x.byteAt(10), 'o');
        Check.due("11", x.byteAt(11), -1);
        Check.due("-1", x.byteAt(-1), -1);
        for (int far : FAR) {
            Check.due("far", x.byteAt(far), -1);
        }
    }

    static void promise31ByteAtIsOfTheLatestBill() {
        LanternState x = Check.of(ONE);
        x.bill(0);
        x.show(0, 0);
        Check.due("as it was told", x.byteAt(5), 'n');
        Check.due("no such one", x.bill(7), -1);
        Check.due("still", x.byteAt(10), 'o');
        Check.due("a is so", x.bill(0), 7);
        Check.due("6", x.byteAt(6), 'o');
        Check.due("a longer one is gone", x.byteAt(7), -1);
    }

    // ---- 32: drawn

    static void promise32DrawnFrom1To24() {
        LanternState x = Check.of(ONE);
        Check.due("1", x.drawn(1, 5), 1);
        Check.due("24", x.drawn(24, 5), 24);
        Check.due("25 went", x.now(0), 25);
    }

    static void promise32DrawnOf0Or25IsNotAsTold() {
        LanternState x = Check.of(ONE);
        Check.due("0", x.drawn(0, 5), -1);
        Check.due("25", x.drawn(25, 5), -1);
        for (int far : FAR) {
            Check.due("far", x.drawn(far, 5), -1);
        }
        Check.due("none went", x.now(0), 0);
    }

    static void promise32DrawnWithoutSlides() {
        LanternState x = Check.of("hearer g front 0;");
        Check.due("no slides", x.drawn(1, 5), -1);
        Check.due("none went", x.now(0), 0);
        Check.due("nobody moved", x.now(5), 0);
        Check.due("a new one", new LanternState().drawn(24, 5), -1);
    }

    static void promise32DrawnHoursThatAreLeft() {
        LanternState x = atHour(399, ONE);
        Check.due("one", x.drawn(24, 5), 1);
        Check.due("shown once", x.slide(0, 8), 1);
        Check.due("all are over", x.now(0), 400);
        Check.due("none", x.drawn(24, 5), 0);
        Check.due("not shown", x.slide(0, 8), 1);
        Check.due("not as told", x.drawn(25, 5), -1);
    }

    // ---- 33: odds

    static void promise33OddsFrom1To30() {
        LanternState x = Check.of("slide a 0 0 0 0 1;pass 0;");
        Check.due("1", x.odds(0, 1, 5), 1);
        Check.due("30", x.odds(0, 30, 5), 30);
    }

    static void promise33OddsOfNoSuchOnes() {
        LanternState x = Check.of(ONE);
        Check.due("0", x.odds(0, 0, 5), -1);
        Check.due("31", x.odds(0, 31, 5), -1);
        Check.due("slide 1", x.odds(1, 1, 5), -1);
        Check.due("slide -1", x.odds(-1, 1, 5), -1);
        for (int far : FAR) {
            Check.due("far n", x.odds(0, far, 5), -1);
            Check.due("far slide", x.odds(far, 1, 5), -1);
        }
    }

    static void promise33OddsOfSeedsThatWrap() {
        String text = Check.HALL;
        int[] seeds = {Integer.MAX_VALUE, Integer.MAX_VALUE - 15, -1, 0};
        for (int first : seeds) {
            int due = 0;
            for (int i = 0; i < 30; i++) {
                LanternState y = Check.of(text);
                y.drawn(20, first + i);
                due += y.slide(2, 6);
            }
            Check.due("odds from " + first, Check.of(text).odds(2, 30, first), due);
        }
    }

    static void promise33OddsAreOfJust20Hours() {
        // a SLIDE that is so when it is drawn at all: seeds that draw it in the 20th HOUR first, and in the 21st first
        String text = "slide a 0 0 0 0 1;slide b 0 0 0 0 1;slide c 0 0 0 0 1;slide d 0 0 0 0 1;slide e 0 0 0 0 1;slide f 0 0 0 0 1;pass 0;";
        int inThe20th = 0;
        int inThe21st = 0;
        for (int seed = 0; seed < 600; seed++) {
            LanternState x = Check.of(text);
            int odds = x.odds(5, 1, seed);
            x.drawn(19, seed);
            int by19 = x.slide(5, 6);
            x.undo();
            x.drawn(20, seed);
            int by20 = x.slide(5, 6);
            x.undo();
            x.drawn(21, seed);
            inThe20th += by20 - by19;
            inThe21st += x.slide(5, 6) - by20;
            Check.due("odds of seed " + seed, odds, by20);
        }
        Check.due("some in the 20th", inThe20th > 0, true);
        Check.due("some in the 21st", inThe21st > 0, true);
    }

    static void promise33OddsOfASoOneAreAll() {
        LanternState x = Check.of(ONE);
        x.show(0, 0);
        Check.due("so", x.odds(0, 30, 1), 30);
    }

    static void promise33OddsOfACrackedOneAreNone() {
        LanternState x = Check.of(HOT);
        x.show(0, 0);
        Check.due("cracked", x.odds(0, 30, 1), 0);
    }

    static void promise33OddsBeginNow() {
        // by 20 HOURS a is shown for sure; with the lamp failing at once it never is
        LanternState x = Check.of("slide a 0 0 0 0 1;pass 0;");
        LanternState late = atHour(400, "slide a 0 0 0 0 1;pass 0;");
        Check.due("from HOUR 0", x.odds(0, 10, 3), 10);
        Check.due("no HOUR is left", late.odds(0, 10, 3), 0);
        Check.due("one is left", atHour(399, "slide a 0 0 0 0 1;pass 0;").odds(0, 10, 3), 10);
    }

    static void promise33OddsChangeNothing() {
        LanternState x = Check.of(HOT);
        x.sit(1, 0);
        x.odds(0, 30, 1);
        int[] due = {0, 0, 0, 0, 0, 0, 0};
        for (int what = 0; what < 7; what++) {
            Check.due("now(" + what + ")", x.now(what), due[what]);
        }
        Check.due("shown", x.slide(0, 8) + x.slide(1, 8) + x.slide(2, 8), 0);
        Check.due("the seat alone", x.undo(), 0);
    }

    // ---- 34: book (its text: TextEdgesTest)

    static void promise34BookOfAnotherLivesLeavesTheTape() {
        LanternState x = Check.of(ONE);
        Check.feed(x, Check.bytes("hour 3;"));
        int[] others = {2, -1, Integer.MAX_VALUE, Integer.MIN_VALUE};
        for (int lives : others) {
            Check.due("book(" + lives + ")", x.book(lives), -1000);
            Check.due("the tape", x.count(6), 7);
        }
        Check.due("told", x.told(0), -1);
        Check.due("judged", x.book(0), -1);
        Check.due("the tape is empty", x.count(6), 0);
    }

    static void promise34BookOfAnEmptyTape() {
        LanternState x = Check.of(ONE);
        Check.due("judged", x.book(0), -1);
        Check.due("lived", x.book(1), -1);
        Check.due("lines", x.told(1), 0);
    }

    static void promise34BookWrongAtItsFirstLineIs0() {
        LanternState x = Check.of(ONE);
        Check.due("the first", Check.book(x, "g sits front;hour 5;", 1), 0);
        Check.due("nothing is lived", x.now(0), 0);
        Check.due("lines", x.told(1), 0);
    }

    static void promise34BookWrongAtItsLastLineIs39() {
        LanternState x = Check.of(ONE);
        Check.due("the last", Check.book(x, "hour 1;".repeat(39) + "g sits front;", 1), 39);
        Check.due("39 HOURS", x.now(0), 39);
        Check.due("lines", x.told(1), 39);
    }

    static void promise34BookFaultAtItsFirstByte() {
        Check.due("at 0", Check.book(Check.of(ONE), "?", 0), -2);
    }

    static void promise34BookScratchesXAndY() {
        for (int cell = 0; cell < 16; cell++) {
            LanternState x = Check.of("slide a 0 0 0 0 1;");
            Check.due("lived", Check.book(x, "a scratch " + cell % 4 + " " + cell / 4 + ";", 1), -1);
            Check.due("row", x.slide(0, cell / 4), 8 >> cell % 4);
            Check.due("one cell", x.slide(0, 9), 1);
        }
    }

    static void promise34BookShowsByEachWay() {
        String[] cells = {"0 0", "3 3", "3 0", "0 3"};
        for (int way = 0; way < 4; way++) {
            LanternState x = Check.of("slide a 8 0 0 0 1;hearer g front 1;likes g " + cells[way] + ";");
            Check.due("lived", Check.book(x, "a shown " + way + ";", 1), -1);
            Check.due("so", x.told(3), 1);
        }
    }

    static void promise34BookJudgedLeavesAll() {
        LanternState x = Check.of(HOT);
        Check.due("judged", Check.book(x, "g sits behind;a shown 0;b scratch 0 0;hour 4;b shown 0;", 0), -1);
        int[] due = {0, 0, 0, 0, 0, 2, 0};
        for (int what = 0; what < 7; what++) {
            Check.due("now(" + what + ")", x.now(what), due[what]);
        }
        Check.due("row", x.slide(1, 0), 8);
        Check.due("shown", x.slide(0, 8) + x.slide(1, 8), 0);
    }

    static void promise34BookWithAFaultBehindIsNotLivedAtAll() {
        LanternState x = Check.of(ONE);
        Check.due("a fault", Check.book(x, "hour 5;hour 5;hour 0;", 1), -2 - 19);
        Check.due("nothing is lived", x.now(0), 0);
    }

    static void promise34BookWithAFaultBehindAWrongLine() {
        LanternState x = Check.of(ONE);
        Check.due("the fault is told", Check.book(x, "g sits front;?", 1), -2 - 13);
        Check.due("told", x.told(0), -1);
    }

    // ---- 35: told

    private static void wrong(String text, int line, int why) {
        LanternState x = Check.of(HOT);
        Check.due("book '" + text + "'", Check.book(x, text, 0), line);
        Check.due("why", x.told(0), why);
        Check.due("lines", x.told(1), line == -1 ? text.chars().filter(c -> c == ';').count() : line);
    }

    static void promise35ToldOfAnotherWhat() {
        LanternState x = Check.of(ONE);
        for (int what = -1; what < 5; what++) {
            Check.due("ahead of any", x.told(what), -1);
        }
        x.book(0);
        Check.due("-1", x.told(-1), -1);
        Check.due("0", x.told(0), 0);
        Check.due("3", x.told(3), 0);
        Check.due("4", x.told(4), -1);
        for (int far : FAR) {
            Check.due("far", x.told(far), -1);
        }
    }

    static void promise35ToldOfShowing() {
        wrong("a shown 0;a shown 0;", 1, 1);
        wrong("c shown 0;", 0, 2);
        wrong("a shown 0;b shown 0;", 1, 3);
    }

    static void promise35ToldOfShowingOver() {
        wrong("b over b;", 0, 11);
        wrong("a shown 0;a over b;", 1, 11);
        wrong("a shown 0;b over a;", 1, 11);
        wrong("a over c;", 0, 12);
        wrong("c over a;", 0, 12);
        wrong("b shown 0;a shown 0;b over c;", 2, 13);
    }

    static void promise35ToldOfScratching() {
        wrong("a shown 0;a scratch 0 0;", 1, 21);
    }

    static void promise35ToldOfSitting() {
        wrong("g sits front;", 0, 31);
        wrong("h sits behind;", 0, 31);
        wrong("g sits behind;g sits behind;", 1, 31);
    }

    static void promise35ToldOfFewerHoursLeft() {
        wrong("hour 24;".repeat(16) + "hour 17;", 16, 41);
        wrong("hour 24;".repeat(16) + "hour 16;hour 1;", 17, 41);
        wrong("hour 24;".repeat(16) + "hour 16;", -1, 0);
    }

    static void promise35ToldOfFewerHoursLeftLetsNoneGo() {
        LanternState x = atHour(380, ONE);
        Check.due("21 of 20", Check.book(x, "hour 21;", 1), 0);
        Check.due("HOUR", x.now(0), 380);
        Check.due("told HOUR", x.told(2), 380);
        Check.due("20 of 20", Check.book(x, "hour 20;", 1), -1);
        Check.due("HOUR", x.now(0), 400);
    }

    static void promise35ToldOfOnesThatCrack() {
        wrong("a shown 0;", -1, 0);
        wrong("a over b;hour 3;", -1, 0);
    }

    static void promise35ToldOfAnEmptyBookBehindAWrongOne() {
        LanternState x = atHour(7, ONE);
        x.show(0, 0);
        Check.due("wrong", Check.book(x, "hour 1;g sits front;", 0), 1);
        Check.due("why", x.told(0), 31);
        Check.due("empty", Check.book(x, "", 0), -1);
        int[] due = {0, 0, 7, 1};
        for (int what = 0; what < 4; what++) {
            Check.due("told(" + what + ")", x.told(what), due[what]);
        }
    }

    static void promise35ToldOfHourAndSoThen() {
        LanternState x = Check.of(HOT);
        Check.due("judged", Check.book(x, "hour 2;b shown 0;c shown 0;hour 1;c shown 0;g sits front;hour 9;", 0), 5);
        Check.due("HOUR then", x.told(2), 3);
        Check.due("so then", x.told(3), 2);
        Check.due("HOUR now", x.now(0), 0);
        Check.due("so now", x.now(3), 0);
    }

    static void promise35ToldIsLeftByFaultsAndAnotherLives() {
        LanternState x = Check.of(ONE);
        Check.book(x, "hour 5;g sits front;", 0);
        Check.due("another lives", x.book(3), -1000);
        Check.due("a fault", Check.book(x, "?", 1), -2);
        int[] due = {31, 1, 5, 0};
        for (int what = 0; what < 4; what++) {
            Check.due("told(" + what + ")", x.told(what), due[what]);
        }
    }

    // ---- 36, 37: sentence, said (the text: TextEdgesTest)

    static void promise36SentenceCountsEachOne() {
        String[] texts = {"so", "not so", "(so)", "not (so)", "so and so", "(so or not cracked) and heat < 5", "like a or (number = 0)"};
        int[] ones = {1, 2, 2, 3, 2, 5, 3};
        for (int i = 0; i < texts.length; i++) {
            Check.due(texts[i], Check.sentence(Check.of(ONE), texts[i]), ones[i]);
        }
    }

    static void promise36SentenceFaultAtTheFirstByte() {
        Check.due("at 0", Check.sentence(Check.of(ONE), "?"), -1);
    }

    static void promise36SentenceStaysBehindAFault() {
        LanternState x = Check.of(ONE);
        Check.due("none", Check.sentence(x, "?"), -1);
        Check.due("none is said", x.said(-1), -1);
        Check.due("one", Check.sentence(x, "not so"), 2);
        Check.due("a fault", Check.sentence(x, "so or cracked and not not ?"), -1 - 26);
        Check.due("it stays", x.said(-1), 1);
    }

    static void promise37SaidWithoutASentence() {
        LanternState x = Check.of(ONE);
        Check.due("-1", x.said(-1), -1);
        Check.due("0", x.said(0), -1);
    }

    static void promise37SaidOfNoneSuch() {
        LanternState x = Check.of("slide a 0 0 0 0 1;slide b 0 0 0 0 2;slide c 0 0 0 0 3;");
        Check.sentence(x, "heat > 1");
        Check.due("two", x.said(-1), 2);
        Check.due("0", x.said(0), 1);
        Check.due("1", x.said(1), 2);
        Check.due("2", x.said(2), -1);
        Check.due("-2", x.said(-2), -1);
        for (int far : FAR) {
            Check.due("far", x.said(far), -1);
        }
    }

    static void promise37SaidOfNoSlide() {
        LanternState x = Check.of("slide a 0 0 0 0 1;");
        Check.sentence(x, "so");
        Check.due("none", x.said(-1), 0);
        Check.due("0", x.said(0), -1);
        LanternState y = new LanternState();
        Check.sentence(y, "not so");
        Check.due("no slides", y.said(-1), 0);
    }

    private static void says(LanternState x, String text, int slides) {
        Check.sentence(x, text);
        int said = 0;
        for (int k = 0; k < x.said(-1); k++) {
            said |= 1 << x.said(k);
        }
        Check.due("'" + text + "'", said, slides);
    }

    static void promise37SaidByJustTheNumber() {
        LanternState x = Check.of("slide a 8 0 0 0 3;slide b 12 0 0 0 4;slide c 14 0 0 0 5;"
            + "hearer g front 1;likes g 0 0;hearer h front 1;likes h 1 0;hearer k front 1;likes k 2 0;");
        String[] measures = {"light", "sighs"};
        for (String word : measures) {
            says(x, word + " < 2", 1);
            says(x, word + " = 2", 2);
            says(x, word + " > 2", 4);
            says(x, word + " > 0", 7);
            says(x, word + " < 4", 7);
        }
        says(x, "heat < 4", 1);
        says(x, "heat = 4", 2);
        says(x, "heat > 4", 4);
        says(x, "number < 1", 1);
        says(x, "number = 1", 2);
        says(x, "number > 1", 4);
        says(x, "number > 999", 0);
        says(x, "number < 999", 7);
    }

    static void promise37SaidOfLikeItselfToo() {
        LanternState x = Check.of("slide a 8 0 0 0 3;slide b 0 0 0 1 4;slide c 4 0 0 0 4;");
        says(x, "like a", 3);
        says(x, "like b", 3);
        says(x, "like c", 4);
    }

    static void promise37SaidOfEvenOnes() {
        LanternState x = Check.of("slide a 0 0 0 0 1;slide b 9 6 15 0 1;slide c 8 0 0 0 1;slide d 8 0 0 8 1;slide e 8 0 0 1 1;");
        // d is like itself turned over, e upside down, but neither mirrored
        says(x, "even", 3);
    }

    static void promise37SaidOfSighsSpreadByWay0() {
        LanternState x = Check.of("slide a 8 0 0 0 1;slide b 1 0 0 0 1;hearer g front 1;likes g 0 0;hearer h front 16;near g h;spread 1;");
        says(x, "sighs = 2", 1);
        says(x, "sighs = 0", 2);
    }

    static void promise37SaidByAndAheadOfOr() {
        LanternState x = Check.of("slide a 0 0 0 0 1;slide b 0 0 0 0 2;slide c 0 0 0 0 3;");
        says(x, "number = 0 or number = 1 and heat = 3", 1);
        says(x, "heat = 3 and number = 1 or number = 0", 1);
        says(x, "(number = 0 or number = 2) and heat = 3", 4);
        says(x, "not number = 0 and not number = 1", 4);
        says(x, "not (number = 0 and number = 1)", 7);
    }

    static void promise37SaidAsThingsAreNow() {
        LanternState x = Check.of(HOT);
        Check.sentence(x, "so or cracked");
        Check.due("none", x.said(-1), 0);
        x.show(0, 0);
        Check.due("cracked", x.said(0), 0);
        x.undo();
        Check.due("none again", x.said(-1), 0);
        x.show(1, 0);
        Check.due("so", x.said(0), 1);
    }

    // ---- 38, 39: image, restore

    static void promise38ImageOfNoSuchPlace() {
        LanternState x = Check.of(ONE);
        Check.due("-1", x.image(-1), false);
        Check.due("2", x.image(2), false);
        for (int far : FAR) {
            Check.due("far", x.image(far), false);
        }
        Check.due("nothing is kept in 0", x.restore(0), false);
        Check.due("nothing is kept in 1", x.restore(1), false);
    }

    static void promise39RestoreOfNoSuchPlace() {
        LanternState x = Check.of(ONE);
        x.image(0);
        x.image(1);
        x.hours(1);
        Check.due("-1", x.restore(-1), false);
        Check.due("2", x.restore(2), false);
        for (int far : FAR) {
            Check.due("far", x.restore(far), false);
        }
        Check.due("HOUR stays", x.now(0), 1);
        Check.due("acts stay", x.undo(), 0);
    }

    static void promise39RestoreOfNothingKept() {
        LanternState x = Check.of(ONE);
        x.hours(1);
        x.image(1);
        x.hours(1);
        Check.due("0", x.restore(0), false);
        Check.due("HOUR stays", x.now(0), 2);
        Check.due("acts stay", x.undo(), 1);
        Check.due("1", x.restore(1), true);
        Check.due("HOUR", x.now(0), 1);
    }

    static void promise38ImagesAreApart() {
        LanternState x = Check.of(ONE);
        x.image(0);
        x.hours(1);
        x.image(1);
        x.hours(1);
        x.restore(0);
        Check.due("0", x.now(0), 0);
        x.hours(5);
        x.restore(1);
        Check.due("1", x.now(0), 1);
        x.restore(0);
        Check.due("0, kept still", x.now(0), 0);
    }

    static void promise38ImageIsKeptOverANewSession() {
        LanternState x = Check.of(HOT);
        x.show(1, 0);
        x.image(0);
        Check.session(x, "");
        x.restore(0);
        Check.due("slides", x.count(0), 3);
        Check.due("hearers", x.count(1), 2);
        Check.due("so", x.now(3), 2);
        Check.due("behind", x.slide(2, 5), 1);
    }

    static void promise38ImageOfAnEmptySession() {
        LanternState x = new LanternState();
        Check.due("image", x.image(0), true);
        Check.session(x, HOT);
        x.show(0, 0);
        Check.due("restore", x.restore(0), true);
        Check.due("slides", x.count(0), 0);
        Check.due("lamp", x.count(5), 40);
        Check.due("black", x.now(2), 0);
    }

    static void promise39RestoreLeavesNothingToUndo() {
        LanternState x = Check.of(ONE);
        x.hours(1);
        x.image(0);
        x.hours(1);
        x.restore(0);
        Check.due("undo", x.undo(), -1);
        Check.due("HOUR", x.now(0), 1);
        x.hours(1);
        Check.due("undo again", x.undo(), 0);
    }

    static void promise39RestoreOfTheSentence() {
        LanternState x = Check.of(ONE);
        x.image(0);
        Check.sentence(x, "not so");
        x.image(1);
        x.restore(0);
        Check.due("none", x.said(-1), -1);
        x.restore(1);
        Check.due("one", x.said(-1), 1);
        Check.sentence(x, "so");
        Check.due("another", x.said(-1), 0);
        x.restore(1);
        Check.due("one again", x.said(-1), 1);
    }

    static void promise39RestoreLeavesTheTape() {
        LanternState x = Check.of(ONE);
        x.image(0);
        x.feed(0x6c616d70, 0x20373b20, 0x20202020, 0x20202020, 0x20202020);
        x.restore(0);
        Check.due("bytes", x.count(6), 20);
        Check.due("session", x.session(), 1);
        Check.due("lamp", x.count(5), 7);
    }

    static void promise39RestoreLeavesWhatWasToldLast() {
        LanternState x = Check.of("slide a 8 0 0 0 5;slide b 1 0 0 0 5;hearer g front 1;likes g 0 0;hearer h front 1;likes h 3 0;");
        x.image(0);
        Check.due("order", x.order(), 2);
        Check.due("moved", x.moved(1, 2), 0);
        x.sit(0, 1);
        x.sit(1, 1);
        Check.due("moved", x.moved(0, 0), 0);
        Check.due("scratches", x.scratches(0), 0);
        Check.due("bill", x.bill(1), 11);
        Check.book(x, "hour 7;", 0);
        Check.session(x, "lamp 0;");
        x.restore(0);
        Check.due("orderAt", x.orderAt(1), 1);
        Check.due("movedWho", x.movedWho(), 0);
        Check.due("scratched", x.scratched(), 0);
        Check.due("byteAt", x.byteAt(0), 'b');
        Check.due("told", x.told(2), 7);
        Check.due("fault", x.fault(), 2);
    }

    // ---- 40: count

    static void promise40CountOfAnotherWhat() {
        LanternState x = Check.of(ONE);
        Check.due("-1", x.count(-1), -1);
        Check.due("7", x.count(7), -1);
        for (int far : FAR) {
            Check.due("far", x.count(far), -1);
        }
    }

    static void promise40CountOfTheTape() {
        LanternState x = new LanternState();
        Check.due("none", x.count(6), 0);
        x.feed(0, 0, 0, 0, 0);
        Check.due("20", x.count(6), 20);
        x.end(1);
        Check.due("1", x.count(6), 1);
        x.session();
        Check.due("empty behind a fault", x.count(6), 0);
    }

    // ---- 512 calls

    static void fiveHundredAndTwelveCallsOfOneObject() {
        LanternState x = Check.of("slide a 8 0 0 0 20;slide b 1 2 3 4 7;after b a;hearer g front 1;likes g 0 0;hearer h behind 0;lamp 25;");
        for (int i = 0; i < 100; i++) {
            x.drawn(24, i);
            x.odds(0, 30, i);
            x.undo();
            x.scratches(1);
            x.order();
        }
        Check.due("HOUR", x.now(0), 0);
        Check.due("behind", x.now(5), 2);
    }
}
