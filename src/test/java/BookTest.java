/** Promises 34 and 35, and the BOOK's part of 5. */
public final class BookTest {
    public static void main(String[] args) {
        lives();
        wrongs();
        faults();
        tooMany();
        tooLong();
        Check.finish("BookTest");
    }

    private static void told(LanternState x, int why, int lines, int hour, int so) {
        int[] due = {why, lines, hour, so};
        for (int what = 0; what < 4; what++) {
            Check.due("told(" + what + ")", x.told(what), due[what]);
        }
        Check.due("told(4)", x.told(4), -1);
        Check.due("told(-1)", x.told(-1), -1);
    }

    private static void lives() {
        LanternState x = Check.hall();
        for (int what = 0; what < 4; what++) {
            Check.due("told ahead of any", x.told(what), -1);
        }
        String text = "tower shown 2;\nhour 3;tower scratch 0 0; ann sits behind;bob sits front;crown over tower;";
        Check.due("judged", Check.book(x, text, 0), -1);
        Check.due("fault()", x.fault(), 0);
        Check.due("the tape is empty", x.count(6), 0);
        LanternState y = Check.hall();
        y.show(1, 2);
        y.hours(3);
        y.scratch(1, 0, 0);
        y.sit(0, 1);
        y.sit(1, 0);
        y.over(0, 1);
        told(x, 0, 6, 3, y.now(3));
        Check.due("all stays", x.now(0), 0);
        Check.due("nothing to undo", x.undo(), -1);
        Check.due("lived", Check.book(x, text, 1), -1);
        for (int what = 0; what <= 6; what++) {
            Check.due("lived: now(" + what + ")", x.now(what), y.now(what));
        }
        for (int what = 0; what < 10; what++) {
            Check.due("lived: slide(1, " + what + ")", x.slide(1, what), y.slide(1, what));
        }
        told(x, 0, 6, 3, y.now(3));
        Check.due("undone", x.undo(), 0);
        Check.due("an empty one", Check.book(x, "", 0), -1);
        told(x, 0, 0, 0, 0);
        Check.feed(x, Check.bytes("hour 24;"));
        Check.due("another lives", x.book(2), -1000);
        Check.due("another lives", x.book(-1), -1000);
        Check.due("the tape stays", x.count(6), 8);
        Check.due("lived then", x.book(1), -1);
        told(x, 0, 1, 24, 0);
    }

    private static void wrong(LanternState x, String text, int line, int why, int hour) {
        int so = x.now(3);
        Check.due("book '" + text + "'", Check.book(x, text, 0), line);
        Check.due("fault() of '" + text + "'", x.fault(), 0);
        told(x, why, line, hour, so);
    }

    private static void wrongs() {
        LanternState x = Check.of("slide a 0 0 0 0 20;slide b 0 0 0 0 5;slide c 0 0 0 0 5;after c b;"
            + "hearer g front 1;hearer h behind 1;lamp 19;");
        wrong(x, "hour 1;c shown 0;hour 5;", 1, 2, 1);
        wrong(x, "a shown 0;a shown 0;", 1, 1, 0);
        wrong(x, "a shown 0;hour 2;b shown 0;", 2, 3, 2);
        wrong(x, "b over b;", 0, 11, 0);
        wrong(x, "a shown 0;b over a;", 1, 11, 0);
        wrong(x, "a over c;", 0, 12, 0);
        wrong(x, "a shown 3;hour 1;hour 1;b over b;", 3, 11, 2);
        wrong(x, "a shown 0;a scratch 0 0;", 1, 21, 0);
        wrong(x, "b scratch 0 0;g sits front;", 1, 31, 0);
        wrong(x, "h sits behind;", 0, 31, 0);
        wrong(x, Check.times("hour 24;", 16) + "hour 16;hour 1;", 17, 41, 400);
        wrong(x, Check.times("hour 24;", 17), 16, 41, 384);
        Check.due("black: over", Check.book(x, "a shown 0;b over b;", 0), 1);
        LanternState y = Check.of("slide a 0 0 0 0 20;slide b 0 0 0 0 5;slide c 0 0 0 0 5;lamp 19;");
        wrong(y, "a shown 0;b over c;", 1, 13, 0);
        Check.due("cracks are not wrong", Check.book(x, "a over b;", 0), -1);
        told(x, 0, 1, 0, 0);
        Check.due("lived as far as it goes", Check.book(x, "hour 2;b scratch 1 0;g sits front;hour 9;", 1), 2);
        told(x, 31, 2, 2, 0);
        Check.due("the hour", x.now(0), 2);
        Check.due("the scratch", x.slide(1, 0), 4);
        Check.due("undone whole", x.undo(), 0);
        Check.due("hour 0", x.now(0), 0);
    }

    private static void fault(String text, int kind, int place) {
        LanternState x = Check.of("slide a 0 0 0 0 20;slide b 0 0 0 0 5;hearer g front 1;hearer h behind 1;");
        Check.book(x, "hour 7;", 0);
        Check.due("book '" + text + "'", Check.book(x, text, 1), -2 - place);
        Check.due("fault() of '" + text + "'", x.fault(), kind);
        Check.due("book(-1000)", x.book(5), -1000);
        Check.due("fault() stays", x.fault(), kind);
        Check.due("the tape is empty", x.count(6), 0);
        told(x, 0, 1, 7, 0);
        Check.due("nothing is lived", x.now(0), 0);
        Check.due("nothing to undo", x.undo(), -1);
    }

    private static void faults() {
        fault("?", 1, 0);
        fault("5", 1, 0);
        fault(";", 1, 0);
        fault("shown a;", 1, 0);
        fault("lamp 5;", 1, 0);
        fault("x shown 0;", 3, 0);
        fault(" hours 1;", 3, 1);
        fault("a sits front;", 1, 2);
        fault("g shown 0;", 1, 2);
        fault("a b;", 1, 2);
        fault("a shown b;", 1, 8);
        fault("a shown 4;", 2, 8);
        fault("a shown 0", 1, 9);
        fault("a shown 0 0;", 1, 10);
        fault("a over g;", 3, 7);
        fault("a over x;", 3, 7);
        fault("a over over;", 1, 7);
        fault("a over 1;", 1, 7);
        fault("a scratch 4 0;", 2, 10);
        fault("a scratch 0 4;", 2, 12);
        fault("a scratch 0;", 1, 11);
        fault("g sits 1;", 1, 7);
        fault("g sits a;", 1, 7);
        fault("g sits behind", 1, 13);
        fault("hour 0;", 2, 5);
        fault("hour 25;", 2, 5);
        fault("hour hour;", 1, 5);
        fault("hour 1;hour 1", 1, 13);
        fault("hour 24;a shown 0;a shown 0;a shown 9;", 2, 36);
    }

    private static void tooMany() {
        String forty = Check.times("hour 1;", 40);
        LanternState x = Check.of("slide a 0 0 0 0 20;hearer g front 1;");
        Check.due("forty", Check.book(x, forty, 0), -1);
        told(x, 0, 40, 40, 0);
        String[] more = {" hour 99", " a ?", " g 1"};
        for (String line : more) {
            Check.due("forty-one", Check.book(x, forty + line, 0), -2 - 281);
            Check.due("its kind", x.fault(), 4);
        }
        Check.due("a 41st that is not told", Check.book(x, forty + "x", 0), -2 - 280);
        Check.due("its kind", x.fault(), 3);
        Check.due("a 41st that can't come", Check.book(x, forty + "over", 0), -2 - 280);
        Check.due("its kind", x.fault(), 1);
    }

    private static void tooLong() {
        String blanks = Check.times(" ", 393);
        LanternState x = Check.of("slide a 0 0 0 0 20;");
        Check.due("400 bytes", Check.book(x, blanks + "hour 5;", 0), -1);
        Check.due("401 bytes", Check.book(x, blanks + "hour 5; ", 0), -2 - 400);
        Check.due("its kind", x.fault(), 1);
        Check.due("read whole", Check.book(x, blanks + "hour  99;", 0), -2 - 399);
        Check.due("its kind", x.fault(), 2);
        Check.due("read whole, it fits", Check.book(x, blanks + "hour  24;", 0), -2 - 400);
        Check.due("its kind", x.fault(), 1);
        Check.due("a name over the edge", Check.book(x, blanks + "    abcde", 0), -2 - 397);
        Check.due("its kind", x.fault(), 3);
    }
}
