/** Promises 11 to 16: showing, scratching, sitting, hours, and all that undone. */
public final class ActsTest {
    public static void main(String[] args) {
        showing();
        cracking();
        showingOver();
        scratching();
        sitting();
        hoursGo();
        undoing();
        undoneWhole();
        Check.finish("ActsTest");
    }

    private static void showing() {
        LanternState x = Check.of("slide a 8 0 0 0 5;slide b 0 0 0 0 5;slide c 8 0 0 0 5;after c a;after b c;"
            + "hearer g front 1;likes g 0 0;hearer h behind 1;likes h 3 0;pass 2;");
        Check.due("behind one not so", x.show(2, 0), -3);
        Check.due("mirrored", x.show(0, 2), 0);
        Check.due("it did not pass", x.now(3), 0);
        Check.due("hotter", x.now(1), 5);
        Check.due("right", x.show(0, 0), 2);
        Check.due("it has passed", x.now(3), 1);
        Check.due("shown again, it stays so", x.show(0, 2), 0);
        Check.due("so", x.slide(0, 6), 1);
        Check.due("shown", x.slide(0, 8), 3);
        Check.due("its follower", x.show(2, 0), 2);
        Check.due("and its follower", x.show(1, 0), 0);
        Check.due("so then", x.now(3), 5);
        Check.due("sighs", x.now(6), 4);
        Check.due("sighs of g", x.hearer(0, 4), 2);
        Check.due("show(3, 0)", x.show(3, 0), -1);
        Check.due("show(-1, 0)", x.show(-1, 0), -1);
        Check.due("show(0, 4)", x.show(0, 4), -1);
        Check.due("show(0, -1)", x.show(0, -1), -1);
        LanternState z = Check.of("slide a 0 0 0 0 1;slide b 0 0 0 0 1;after a b;pass 0;");
        Check.due("behind a later one", z.show(0, 0), -3);
        Check.due("over it, too", z.over(0, 1), -3);
        Check.due("the later one", z.show(1, 0), 0);
        Check.due("then the first", z.show(0, 0), 0);
        LanternState y = Check.of("slide a 0 0 0 0 1;pass 0;");
        Check.due("none need sigh", y.show(0, 3), 0);
        Check.due("so without hearers", y.now(3), 1);
    }

    private static void cracking() {
        LanternState x = Check.of("slide a 8 0 0 0 10;slide b 0 0 0 0 20;slide c 0 0 0 0 1;after c b;hearer g front 0;lamp 20;");
        Check.due("10", x.show(0, 0), 1);
        Check.due("20 is not more than 20", x.show(0, 0), 1);
        Check.due("not black", x.now(2), 0);
        Check.due("40 is", x.show(1, 0), -5);
        Check.due("black", x.now(2), 1);
        Check.due("hot", x.now(1), 40);
        Check.due("cracked", x.now(4), 2);
        Check.due("slide cracked", x.slide(1, 7), 1);
        Check.due("shown when it cracked", x.slide(1, 8), 1);
        Check.due("nobody sighed", x.now(6), 2);
        Check.due("1 ahead of 3", x.show(1, 0), -2);
        Check.due("2 ahead of 3", x.show(2, 0), -3);
        Check.due("3", x.show(0, 0), -4);
        Check.due("7 hours", x.hours(7), 7);
        Check.due("still black", x.now(2), 1);
        Check.due("5 hot", x.now(1), 5);
        Check.due("an hour", x.hours(1), 1);
        Check.due("black no more", x.now(2), 0);
        Check.due("shown again", x.show(0, 0), 1);
        Check.due("cracked stays", x.show(1, 0), -2);
        LanternState y = Check.of("slide a 8 0 0 0 10;hearer g front 0;lamp 15;");
        y.show(0, 0);
        Check.due("a so one cracks", y.show(0, 0), -5);
        Check.due("it is so all the same", y.slide(0, 6), 1);
        Check.due("and cracked", y.slide(0, 7), 1);
        Check.dueText("its bill", Check.bill(y, 0), "a is so");
    }

    private static void showingOver() {
        LanternState x = Check.of("slide a 8 0 0 0 5;slide b 0 0 0 1 6;slide c 0 0 0 0 5;slide d 0 0 0 0 20;after c a;after d c;"
            + "hearer g front 2;likes g 0 0;likes g 3 3;hearer h front 1;hates h 0 0;likes h 1 1;lamp 22;");
        Check.due("over itself", x.over(0, 0), -2);
        Check.due("one waits", x.over(1, 2), -3);
        Check.due("the other waits", x.over(2, 1), -3);
        Check.due("one waits for the other", x.over(0, 2), -3);
        Check.due("neither alone", x.sighs(0, 0) | x.sighs(1, 0), 0);
        Check.due("over", x.over(0, 1), 1);
        Check.due("both pass", x.now(3), 3);
        Check.due("both heats", x.now(1), 11);
        Check.due("a shown", x.slide(0, 8), 1);
        Check.due("b shown", x.slide(1, 8), 1);
        Check.due("g sighed", x.hearer(0, 4), 1);
        Check.due("22 is not more", x.over(1, 0), 1);
        Check.due("both crack", x.over(1, 2), -5);
        Check.due("cracked", x.now(4), 6);
        Check.due("black", x.now(2), 1);
        Check.due("one is cracked", x.over(0, 1), -2);
        Check.due("the first is cracked", x.over(1, 0), -2);
        Check.due("cracked ahead of waiting", x.over(3, 1), -2);
        Check.due("waiting ahead of black", x.over(3, 0), -3);
        Check.due("over(4, 0)", x.over(4, 0), -1);
        Check.due("over(0, 4)", x.over(0, 4), -1);
        Check.due("over(-1, 0)", x.over(-1, 0), -1);
        Check.due("over(0, -1)", x.over(0, -1), -1);
        LanternState y = Check.of("slide a 8 0 0 0 5;slide b 8 0 0 0 5;slide c 0 0 0 0 20;lamp 19;");
        Check.due("like pictures may be shown over each other", y.over(0, 1), 0);
        y.show(2, 0);
        Check.due("black", y.over(0, 1), -4);
        Check.due("over itself when black", y.over(0, 0), -2);
    }

    private static void scratching() {
        LanternState x = Check.of("slide a 8 0 0 0 5;slide b 0 0 0 0 20;lamp 19;");
        Check.due("lights", x.scratch(0, 2, 3), 0);
        Check.due("its row", x.slide(0, 3), 2);
        Check.due("darkens", x.scratch(0, 0, 0), 0);
        Check.due("its first row", x.slide(0, 0), 0);
        Check.due("its light cells", x.slide(0, 9), 1);
        x.show(1, 0);
        Check.due("cracked", x.scratch(1, 0, 0), 1);
        Check.due("it stays", x.slide(1, 9), 0);
        Check.due("black does not matter", x.scratch(0, 1, 1), 0);
        int[][] none = {{2, 0, 0}, {-1, 0, 0}, {0, 4, 0}, {0, -1, 0}, {0, 0, 4}, {0, 0, -1}};
        for (int[] n : none) {
            Check.due("scratch of none such", x.scratch(n[0], n[1], n[2]), -1);
        }
    }

    private static void sitting() {
        LanternState x = Check.hall();
        Check.due("he sits so", x.sit(0, 0), 1);
        Check.due("she sits so", x.sit(1, 1), 1);
        Check.due("behind", x.sit(0, 1), 0);
        Check.due("in front", x.sit(1, 0), 0);
        Check.due("now(5)", x.now(5), 1);
        Check.due("hearer(0, 0)", x.hearer(0, 0), 1);
        Check.due("sit(3, 0)", x.sit(3, 0), -1);
        Check.due("sit(-1, 0)", x.sit(-1, 0), -1);
        Check.due("sit(0, 2)", x.sit(0, 2), -1);
        Check.due("sit(0, -1)", x.sit(0, -1), -1);
    }

    private static void hoursGo() {
        LanternState x = Check.of("slide a 8 0 0 0 13;");
        x.show(0, 0);
        Check.due("hours(2)", x.hours(2), 2);
        Check.due("3 hot", x.now(1), 3);
        Check.due("hours(1)", x.hours(1), 1);
        Check.due("0 at least", x.now(1), 0);
        Check.due("hours(0)", x.hours(0), -1);
        Check.due("hours(-1)", x.hours(-1), -1);
        Check.due("hours(25)", x.hours(25), -1);
        for (int i = 0; i < 16; i++) {
            Check.due("hours(24)", x.hours(24), 24);
        }
        Check.due("387", x.now(0), 387);
        Check.due("13 are left", x.hours(24), 13);
        Check.due("all are over", x.now(0), 400);
        Check.due("none is left", x.hours(1), 0);
        Check.due("none is left to draw", x.drawn(1, 1), 0);
        Check.due("it may be shown", x.show(0, 0), 0);
        Check.due("undone", x.undo(), 7);
        Check.due("and the hours", x.undo(), 6);
        Check.due("387 again", x.now(0), 387);
    }

    private static void undoing() {
        LanternState x = Check.hall();
        Check.due("none", x.undo(), -1);
        Check.due("not shown", x.show(2, 0), -3);
        Check.due("not over", x.over(0, 0), -2);
        Check.due("not moved", x.sit(0, 0), 1);
        Check.due("no hours", x.hours(0), -1);
        Check.due("none yet", x.undo(), -1);
        for (int i = 0; i < 5; i++) {
            x.scratch(0, i % 4, 0);
            x.sit(0, 1 - i % 2);
        }
        Check.due("eight are kept", x.undo(), 7);
        for (int left = 6; left >= 0; left--) {
            Check.due("more", x.undo(), left);
        }
        Check.due("no more", x.undo(), -1);
        Check.due("the first scratch stays", x.slide(0, 0), 6 ^ 8);
        Check.due("the first seat stays", x.now(5), 3);
        x.hours(3);
        Check.due("one again", x.undo(), 0);
        Check.due("hour 0", x.now(0), 0);
    }

    private static void undoneWhole() {
        LanternState x = Check.of(Check.HALL.replace("lamp 30", "lamp 33"));
        int[] before = all(x);
        x.show(0, 0);
        int[] shown = all(x);
        x.over(0, 1);
        int[] over = all(x);
        x.show(1, 0);
        Check.due("it is black", x.now(2), 1);
        int[] cracked = all(x);
        x.drawn(5, 77);
        int[] drawn = all(x);
        Check.due("a book", Check.book(x, "hour 3;crown scratch 0 0;hour 24;hour 24;crown sits", 1), -2 - 47);
        Check.due("a book lived", Check.book(x, "hour 3;crown scratch 0 0;", 1), -1);
        Check.due("a book judged", Check.book(x, "hour 3;", 0), -1);
        Check.due("the book", x.undo(), 4);
        same("drawn", all(x), drawn);
        Check.due("the draws", x.undo(), 3);
        same("cracked", all(x), cracked);
        Check.due("the crack", x.undo(), 2);
        same("over", all(x), over);
        Check.due("the one over", x.undo(), 1);
        same("shown", all(x), shown);
        Check.due("the first", x.undo(), 0);
        same("before", all(x), before);
        Check.due("a book that does nothing was lived, too", Check.book(x, "", 1), -1);
        Check.due("undone", x.undo(), 0);
        Check.due("one that is wrong at once, too", Check.book(x, "eagle shown 0;", 1), 0);
        Check.due("undone, too", x.undo(), 0);
    }

    private static int[] all(LanternState x) {
        int[] told = new int[7 + 30 + 18];
        for (int i = 0; i < 7; i++) {
            told[i] = x.now(i);
        }
        for (int i = 0; i < 30; i++) {
            told[7 + i] = x.slide(i / 10, i % 10);
        }
        for (int i = 0; i < 18; i++) {
            told[37 + i] = x.hearer(i / 6, i % 6);
        }
        return told;
    }

    private static void same(String when, int[] got, int[] want) {
        for (int i = 0; i < got.length; i++) {
            Check.due(when + ": part " + i, got[i], want[i]);
        }
    }
}
