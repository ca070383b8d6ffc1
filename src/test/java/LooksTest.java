/** Promises 6 to 10 and 17 to 19, 26 to 31: what is told of slides and hearers as they are. */
public final class LooksTest {
    public static void main(String[] args) {
        slides();
        rows();
        hearers();
        nowAndThen();
        sighing();
        spreading();
        seeing();
        likeness();
        parting();
        bills();
        Check.finish("LooksTest");
    }

    private static void slides() {
        LanternState x = Check.hall();
        int[][] due = {{6, 9, 9, 6, 10, -1, 0, 0, 0, 8}, {8, 12, 14, 15, 12, -1, 0, 0, 0, 10}, {15, 0, 15, 0, 20, 0, 0, 0, 0, 8}};
        for (int s = 0; s < 3; s++) {
            for (int what = 0; what < 10; what++) {
                Check.due("slide(" + s + ", " + what + ")", x.slide(s, what), due[s][what]);
            }
        }
        int[][] wrong = {{-1, 0}, {3, 0}, {0, -1}, {0, 10}, {Integer.MAX_VALUE, 1}, {1, Integer.MIN_VALUE}};
        for (int[] w : wrong) {
            Check.due("slide(" + w[0] + ", " + w[1] + ") throws", Check.slideThrows(x, w[0], w[1]), true);
        }
    }

    private static void rows() {
        LanternState x = Check.of("slide a 8 4 7 15 1;");
        int[][][] due = {
            {{8, 4, 7, 15}, {1, 2, 14, 15}},
            {{15, 14, 2, 1}, {15, 7, 4, 8}},
            {{1, 2, 14, 15}, {8, 4, 7, 15}},
            {{15, 7, 4, 8}, {15, 14, 2, 1}}};
        for (int way = 0; way < 4; way++) {
            for (int seat = 0; seat < 2; seat++) {
                for (int y = 0; y < 4; y++) {
                    Check.due("row(0, " + way + ", " + seat + ", " + y + ")", x.row(0, way, seat, y), due[way][seat][y]);
                }
            }
        }
        int[][] wrong = {{1, 0, 0, 0}, {-1, 0, 0, 0}, {0, 4, 0, 0}, {0, -1, 0, 0}, {0, 0, 2, 0}, {0, 0, -1, 0}, {0, 0, 0, 4}, {0, 0, 0, -1}};
        for (int[] w : wrong) {
            Check.due("a row that is not", x.row(w[0], w[1], w[2], w[3]), -1);
        }
        x.scratch(0, 3, 0);
        Check.due("a row behind a scratch", x.row(0, 0, 0, 0), 9);
        x.scratch(0, 0, 0);
        Check.due("a row behind two", x.row(0, 2, 0, 0), 8);
        Check.due("its light cells", x.slide(0, 9), 9);
    }

    private static void hearers() {
        LanternState x = Check.hall();
        int[][] due = {{0, 2, 2, 1, 0, 4}, {1, 1, 1, 1, 0, 0}, {0, 3, 1, 0, 0, 1}};
        for (int h = 0; h < 3; h++) {
            for (int what = 0; what < 6; what++) {
                Check.due("hearer(" + h + ", " + what + ")", x.hearer(h, what), due[h][what]);
            }
        }
        int[][] wrong = {{-1, 0}, {3, 0}, {0, -1}, {0, 6}};
        for (int[] w : wrong) {
            Check.due("hearer(" + w[0] + ", " + w[1] + ") throws", Check.hearerThrows(x, w[0], w[1]), true);
        }
        Check.due("thinks likes", x.thinks(0, 1, 0), 1);
        Check.due("thinks of X and Y, not of Y and X", x.thinks(1, 3, 0), 0);
        Check.due("thinks likes 0 3", x.thinks(1, 0, 3), 1);
        Check.due("thinks hates", x.thinks(0, 3, 3), 2);
        Check.due("thinks neither", x.thinks(0, 0, 0), 0);
        int[][] none = {{3, 0, 0}, {-1, 0, 0}, {0, 4, 0}, {0, -1, 0}, {0, 0, 4}, {0, 0, -1}};
        for (int[] n : none) {
            Check.due("thinks of none such", x.thinks(n[0], n[1], n[2]), -1);
        }
    }

    private static void nowAndThen() {
        LanternState x = Check.hall();
        x.show(0, 0);
        int sighed = Integer.bitCount(x.sighs(0, 0));
        x.hours(1);
        x.sit(0, 1);
        x.show(1, 0);
        int all = sighed + Integer.bitCount(x.sighs(1, 0));
        x.show(1, 0);
        x.show(1, 0);
        int[] due = {1, 41, 1, x.slide(0, 6) | x.slide(1, 6) << 1, 2, 3, all + Integer.bitCount(x.sighs(1, 0))};
        for (int what = 0; what < due.length; what++) {
            Check.due("now(" + what + ")", x.now(what), due[what]);
        }
        Check.due("now(-1)", x.now(-1), -1);
        Check.due("now(7)", x.now(7), -1);
    }

    private static void sighing() {
        // g likes the upper left cell and hates the upper right one
        String text = "slide a 8 0 0 0 1;slide b 9 0 0 0 1;slide c 0 0 0 0 1;slide d 1 0 0 0 1;"
            + "hearer g front 1;hearer h behind 1;hearer k front 0;hearer l front 1;"
            + "likes g 0 0;hates g 3 0;likes h 0 0;hates h 3 0;hates k 3 3;";
        LanternState x = Check.of(text);
        Check.due("sighs of a", x.sighs(0, 0), 1 | 4);
        Check.due("sighs of a mirrored", x.sighs(0, 2), 2 | 4);
        Check.due("sighs of a upside down", x.sighs(0, 1), 0);
        Check.due("sighs of a turned over", x.sighs(0, 3), 4);
        Check.due("sighs of b", x.sighs(1, 0), 4);
        Check.due("sighs of c", x.sighs(2, 0), 4);
        Check.due("sighs of d", x.sighs(3, 0), 2 | 4);
        Check.due("best of a", x.best(0), 0);
        Check.due("best of c", x.best(2), 0);
        x.sit(0, 1);
        Check.due("sighs of a then", x.sighs(0, 0), 4);
        Check.due("sighs of a mirrored then", x.sighs(0, 2), 1 | 2 | 4);
        Check.due("best of a then", x.best(0), 2);
        Check.due("best of d then", x.best(3), 0);
        Check.due("sighs(4, 0)", x.sighs(4, 0), -1);
        Check.due("sighs(-1, 0)", x.sighs(-1, 0), -1);
        Check.due("sighs(0, 4)", x.sighs(0, 4), -1);
        Check.due("sighs(0, -1)", x.sighs(0, -1), -1);
        Check.due("best(4)", x.best(4), -1);
        Check.due("best(-1)", x.best(-1), -1);
        LanternState hot = Check.of("slide a 8 0 0 0 20;hearer g front 1;likes g 0 0;lamp 1;");
        Check.due("it cracks", hot.show(0, 0), -5);
        Check.due("sighs of a cracked one", hot.sighs(0, 0), 1);
        Check.due("best of a cracked one", hot.best(0), 0);
    }

    private static void spreading() {
        String five = "hearer a front 0;hearer b front 0;hearer c front 0;hearer d front 0;hearer e front 0;"
            + "near a b;near b c;near c d;near a d;near d e;";
        LanternState x = Check.of(five + "spread 1;");
        Check.due("from a", x.spreads(1), 31);
        Check.due("from none", x.spreads(0), 0);
        Check.due("from all", x.spreads(31), 31);
        Check.due("no such one", x.spreads(32), -1);
        Check.due("below 0", x.spreads(-1), -1);
        LanternState y = Check.of(five + "spread 2;");
        Check.due("two: from a", y.spreads(1), 1);
        Check.due("two: from a and c", y.spreads(5), 15);
        Check.due("two: from a, c and e", y.spreads(21), 31);
        LanternState z = Check.of(five);
        Check.due("without spread", z.spreads(1), 1);
        String chain = "spread 1;slide s 8 0 0 0 1;hearer a front 1;likes a 0 0;hearer b front 9;hearer c front 9;hearer d front 9;"
            + "hearer e front 9;hearer f front 9;hearer g front 9;hearer h front 9;"
            + "near h g;near g f;near f e;near e d;near d c;near c b;near b a;";
        LanternState all = Check.of(chain);
        Check.due("along eight", all.sighs(0, 0), 255);
        Check.due("shown to eight", all.show(0, 0), 8);
        Check.due("the last one sighed", all.hearer(7, 4), 1);
    }

    private static void seeing() {
        LanternState x = Check.of("slide a 8 0 0 0 20;slide b 1 0 0 0 1;slide c 0 0 0 0 1;slide d 9 0 0 0 1;lamp 1;");
        Check.due("nothing known", Check.seen(x, 0, 0, 0, 0, 0, 0, 0, 0), 15);
        Check.due("the tape is empty then", x.count(6), 0);
        Check.due("all known", Check.seen(x, 15, 15, 15, 15, 8, 0, 0, 0), 3);
        Check.due("by the lower corner", Check.seen(x, 0, 0, 0, 1, 0, 0, 0, 1), 11);
        Check.due("dark corner", Check.seen(x, 8, 0, 0, 0, 0, 0, 0, 0), 15);
        Check.due("dark corners", Check.seen(x, 9, 0, 0, 9, 0, 0, 0, 0), 4);
        Check.due("a light one not known", Check.seen(x, 7, 15, 15, 15, 8, 0, 0, 0), -1);
        Check.due("16 known", Check.seen(x, 16, 0, 0, 0, 0, 0, 0, 0), -1);
        Check.due("255 light", Check.seen(x, 15, 0, 0, 0, 255, 0, 0, 0), -1);
        Check.due("seven bytes", Check.seen(x, 15, 0, 0, 0, 0, 0, 0), -1);
        Check.due("nine bytes", Check.seen(x, 15, 0, 0, 0, 0, 0, 0, 0, 0), -1);
        Check.due("the tape is empty behind NONE", x.count(6), 0);
        Check.due("no bytes", x.seen(), -1);
        x.show(0, 0);
        Check.due("a cracked one, too", Check.seen(x, 15, 15, 15, 15, 0, 0, 0, 8), 3);
        Check.due("no slides", Check.seen(new LanternState(), 0, 0, 0, 0, 0, 0, 0, 0), 0);
    }

    private static void likeness() {
        LanternState x = Check.of("slide a 8 0 0 0 1;slide b 1 0 0 0 1;slide c 0 0 0 8 1;slide d 4 0 0 0 1;slide e 0 0 0 1 1;");
        Check.due("alike(0)", x.alike(0), 22);
        Check.due("alike(1)", x.alike(1), 21);
        Check.due("alike(3)", x.alike(3), 0);
        Check.due("alike(5)", x.alike(5), -1);
        Check.due("alike(-1)", x.alike(-1), -1);
        Check.due("differ(0, 1)", x.differ(0, 1), 2);
        Check.due("differ(0, 0)", x.differ(0, 0), 0);
        Check.due("differ(0, 5)", x.differ(0, 5), -1);
        Check.due("differ(5, 0)", x.differ(5, 0), -1);
        Check.due("differ(-1, 0)", x.differ(-1, 0), -1);
        Check.due("differ(0, -1)", x.differ(0, -1), -1);
        x.scratch(0, 0, 0);
        x.scratch(0, 2, 3);
        Check.due("alike(3) behind scratches", x.alike(3), 1);
        Check.due("differ(0, 3) behind scratches", x.differ(0, 3), 2);
    }

    private static void parting() {
        String text = "slide a 15 0 0 0 20;slide b 8 0 0 0 1;slide c 12 0 0 0 1;slide d 3 0 0 0 1;"
            + "hearer g front 1;likes g 0 0;hearer h front 1;likes h 1 0;hearer k front 1;likes k 2 0;hearer l front 1;likes l 3 0;lamp 10;";
        LanternState x = Check.of(text);
        Check.due("parts()", x.parts(), 2);
        x.scratch(1, 2, 0);
        Check.due("of like ones the first", x.parts(), 1);
        LanternState y = Check.of("slide a 8 0 0 0 20;slide b 8 8 8 8 20;hearer g front 1;likes g 0 0;lamp 1;");
        Check.due("both as near", y.parts(), 0);
        y.show(0, 0);
        Check.due("not a cracked one", y.parts(), 1);
        y.hours(24);
        y.show(1, 0);
        Check.due("all cracked", y.parts(), -1);
        Check.due("no hearers", Check.of("slide a 8 0 0 0 20;").parts(), 0);
    }

    private static void bills() {
        LanternState x = Check.of("slide abcdefg 0 0 0 0 20;slide z 0 0 0 0 20;slide gfedcba 0 0 0 0 20;after abcdefg gfedcba;"
            + "after gfedcba z;pass 0;lamp 20;");
        Check.due("byteAt(0) ahead of any", x.byteAt(0), -1);
        Check.dueText("bill(0)", Check.bill(x, 0), "abcdefg is not so for gfedcba");
        Check.dueText("bill(1)", Check.bill(x, 1), "z is not so");
        Check.due("bill(3)", x.bill(3), -1);
        Check.due("bill(-1)", x.bill(-1), -1);
        Check.due("the latest bill stays", x.byteAt(0), 'z');
        x.show(1, 0);
        Check.dueText("bill of a so one", Check.bill(x, 1), "z is so");
        Check.dueText("bill of one whose forerunner is so", Check.bill(x, 2), "gfedcba is not so");
        Check.due("it cracks", x.show(2, 0), -5);
        Check.dueText("bill of a cracked one", Check.bill(x, 2), "gfedcba is cracked");
        Check.dueText("bill behind a cracked one", Check.bill(x, 0), "abcdefg is not so for gfedcba");
        Check.session(x, "");
        Check.due("the latest bill stays, whatever session", x.byteAt(0), 'a');
    }
}
