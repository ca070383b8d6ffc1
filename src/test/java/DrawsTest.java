/** Promises 32 and 33: HOURS by draws. */
public final class DrawsTest {
    public static void main(String[] args) {
        likeActs();
        edges();
        odds();
        lateOdds();
        Check.finish("DrawsTest");
    }

    private static int seed;

    private static int draw(int n) {
        seed = seed * 1103515245 + 12345;
        return (seed >>> 8) % n;
    }

    private static void likeActs() {
        int[] seeds = {0, 1, -1, 12345, Integer.MIN_VALUE, 99999};
        for (int first : seeds) {
            LanternState x = Check.hall();
            LanternState y = Check.hall();
            Check.due("drawn(24)", x.drawn(24, first), 24);
            seed = first;
            for (int i = 0; i < 24; i++) {
                int s = draw(3);
                y.show(s, draw(4));
                for (int h = 0; h < 3; h++) {
                    if (draw(12) == 0) {
                        y.sit(h, 1 - y.hearer(h, 0));
                    }
                }
                y.hours(1);
            }
            for (int what = 0; what <= 6; what++) {
                Check.due("seed " + first + ": now(" + what + ")", x.now(what), y.now(what));
            }
            for (int s = 0; s < 3; s++) {
                Check.due("seed " + first + ": shown " + s, x.slide(s, 8), y.slide(s, 8));
            }
            for (int h = 0; h < 3; h++) {
                Check.due("seed " + first + ": sighed " + h, x.hearer(h, 4), y.hearer(h, 4));
            }
            Check.due("undone at once", x.undo(), 0);
            Check.due("hour 0", x.now(0), 0);
        }
    }

    private static void edges() {
        LanternState x = Check.hall();
        Check.due("drawn(0)", x.drawn(0, 1), -1);
        Check.due("drawn(25)", x.drawn(25, 1), -1);
        Check.due("drawn(-1)", x.drawn(-1, 1), -1);
        Check.due("no slides", new LanternState().drawn(1, 1), -1);
        Check.due("no slides, a hearer", Check.of("hearer g front 0;").drawn(1, 1), -1);
        Check.due("nothing to undo", x.undo(), -1);
        Check.due("one", x.drawn(1, 1), 1);
        for (int i = 0; i < 16; i++) {
            x.hours(24);
        }
        Check.due("as many as are left", x.drawn(24, 3), 15);
        Check.due("the hour", x.now(0), 400);
        Check.due("none is left", x.drawn(24, 3), 0);
    }

    private static void odds() {
        LanternState x = Check.hall();
        int[] seeds = {7, Integer.MAX_VALUE - 3, -4};
        for (int first : seeds) {
            int[] many = new int[3];
            for (int i = 0; i < 30; i++) {
                LanternState y = Check.hall();
                y.drawn(20, first + i);
                for (int s = 0; s < 3; s++) {
                    many[s] += y.slide(s, 6);
                }
            }
            for (int s = 0; s < 3; s++) {
                Check.due("odds(" + s + ", 30, " + first + ")", x.odds(s, 30, first), many[s]);
            }
        }
        Check.due("all stays", x.now(0), 0);
        Check.due("nothing to undo", x.undo(), -1);
        Check.due("odds of 0", x.odds(0, 0, 1), -1);
        Check.due("odds of 31", x.odds(0, 31, 1), -1);
        Check.due("odds(3)", x.odds(3, 1, 1), -1);
        Check.due("odds(-1)", x.odds(-1, 1, 1), -1);
    }

    private static void lateOdds() {
        LanternState x = Check.of("slide a 8 0 0 0 1;pass 0;");
        Check.due("shown in the end", x.odds(0, 30, 5), 30);
        for (int i = 0; i < 16; i++) {
            x.hours(24);
        }
        x.hours(16);
        Check.due("no HOUR is left", x.odds(0, 30, 5), 0);
        x.show(0, 0);
        Check.due("it is so already", x.odds(0, 30, 5), 30);
    }
}
