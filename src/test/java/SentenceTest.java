/** Promises 36 and 37, and the SENTENCE's part of 5. */
public final class SentenceTest {
    private static final String SIX = "slide a 8 0 0 0 1;slide b 1 0 0 0 20;slide c 6 0 0 9 5;slide d 6 9 9 6 6;slide e 0 0 0 0 10;slide f 4 0 0 0 3;"
        + "hearer g front 1;likes g 0 0;hearer h front 1;likes h 1 0;hearer k front 0;lamp 10;";

    public static void main(String[] args) {
        parts();
        joins();
        changes();
        faults();
        tooMany();
        tooLong();
        Check.finish("SentenceTest");
    }

    private static void says(LanternState x, String text, int ones, int... slides) {
        Check.due("sentence '" + text + "'", Check.sentence(x, text), ones);
        Check.due("fault() of '" + text + "'", x.fault(), 0);
        said(x, text, slides);
    }

    private static void said(LanternState x, String text, int... slides) {
        Check.due("said(-1) of '" + text + "'", x.said(-1), slides.length);
        for (int k = 0; k < slides.length; k++) {
            Check.due("said(" + k + ") of '" + text + "'", x.said(k), slides[k]);
        }
        Check.due("said behind of '" + text + "'", x.said(slides.length), -1);
        Check.due("said(-2) of '" + text + "'", x.said(-2), -1);
    }

    private static void parts() {
        LanternState x = Check.of(SIX);
        Check.due("ahead of any", x.said(-1), -1);
        Check.due("ahead of any", x.said(0), -1);
        says(x, "so", 1);
        says(x, "not so", 2, 0, 1, 2, 3, 4, 5);
        says(x, "cracked", 1);
        says(x, "even", 1, 2, 3, 4);
        says(x, "like a", 1, 0, 1);
        says(x, "like f", 1, 5);
        says(x, "light = 8", 1, 3);
        says(x, "light<1", 1, 4);
        says(x, "light > 1", 1, 2, 3);
        says(x, "heat = 20", 1, 1);
        says(x, "heat > 999", 1);
        says(x, "heat < 005", 1, 0, 5);
        says(x, "sighs = 1", 1, 1, 4);
        says(x, "sighs > 1", 1, 0, 2, 3, 5);
        says(x, "number = 3", 1, 3);
        says(x, "number > 3", 1, 4, 5);
        says(x, "number < 2", 1, 0, 1);
        says(x, "(so)", 2);
        says(new LanternState(), "not so", 2);
    }

    private static void joins() {
        LanternState x = Check.of(SIX);
        says(x, "even and light > 1", 2, 2, 3);
        says(x, "number = 0 or number = 1 and so", 3, 0);
        says(x, "so and number = 1 or number = 0", 3, 0);
        says(x, "(number = 0 or number = 1) and not so", 5, 0, 1);
        says(x, "not number = 0 and number < 3", 3, 1, 2);
        says(x, "not (number = 0 or number = 5)", 4, 1, 2, 3, 4);
        says(x, "not not not number < 4", 4, 4, 5);
        says(x, "((number=1))or(even and(heat=6 or heat=10))", 8, 1, 3, 4);
    }

    private static void changes() {
        LanternState x = Check.of(SIX);
        says(x, "cracked or so", 2);
        x.show(0, 0);
        said(x, "cracked or so", 0);
        x.show(1, 0);
        said(x, "cracked or so, then", 0, 1);
        says(x, "cracked", 1, 1);
        x.undo();
        said(x, "cracked, undone");
        says(x, "light = 1", 1, 0, 1, 5);
        x.scratch(4, 0, 0);
        said(x, "light = 1, scratched", 0, 1, 4, 5);
        Check.due("a fault", Check.sentence(x, "light"), -6);
        said(x, "it stays", 0, 1, 4, 5);
    }

    private static void fault(String text, int kind, int place) {
        LanternState x = Check.of(SIX);
        Check.due("sentence '" + text + "'", Check.sentence(x, text), -1 - place);
        Check.due("fault() of '" + text + "'", x.fault(), kind);
        Check.due("the tape is empty", x.count(6), 0);
        Check.due("there is none", x.said(-1), -1);
    }

    private static void faults() {
        fault("", 1, 0);
        fault("  ", 1, 2);
        fault("?", 1, 0);
        fault("a", 1, 0);
        fault("slide", 1, 0);
        fault("or so", 1, 0);
        fault(")", 1, 0);
        fault("5", 1, 0);
        fault("so so", 1, 3);
        fault("so;", 1, 2);
        fault("so)", 1, 2);
        fault("so or", 1, 5);
        fault("so and or", 1, 7);
        fault("not", 1, 3);
        fault("not and", 1, 4);
        fault("(so", 1, 3);
        fault("(so so", 1, 4);
        fault("()", 1, 1);
        fault("like", 1, 4);
        fault("like so", 1, 5);
        fault("like 1", 1, 5);
        fault("like x", 3, 5);
        fault("like g", 3, 5);
        fault("like x ?", 3, 5);
        fault("light", 1, 5);
        fault("light 5", 1, 6);
        fault("light ( 5", 1, 6);
        fault("light = a", 1, 8);
        fault("light = =", 1, 8);
        fault("light = 1000", 1, 8);
        fault("light = 5 5", 1, 10);
        fault("so.", 1, 2);
    }

    private static void tooMany() {
        LanternState x = Check.of(SIX);
        says(x, Check.times("so or ", 19) + "even", 20, 2, 3, 4);
        says(x, Check.times("even and ", 19) + "even", 20, 2, 3, 4);
        fault(Check.times("so and ", 20) + "even", 4, 140);
        fault(Check.times("so or ", 20) + "even", 4, 120);
        fault(Check.times("so or ", 20) + "like ?", 4, 120);
        fault(Check.times("so or ", 20) + "(so", 4, 120);
        fault(Check.times("so or ", 20) + "or", 1, 120);
        fault(Check.times("so or ", 20), 1, 120);
        fault(Check.times("not so or ", 10) + "so", 4, 100);
        says(x, Check.times("not ", 7) + "so", 8, 0, 1, 2, 3, 4, 5);
        fault(Check.times("not ", 8) + "so", 4, 32);
        fault(Check.times("not ", 8) + "and", 1, 32);
        fault(Check.times("not ", 8), 1, 32);
        says(x, Check.times("(", 7) + "even" + Check.times(")", 7), 8, 2, 3, 4);
        fault(Check.times("(", 8) + "even" + Check.times(")", 8), 4, 8);
        says(x, Check.times("(not ", 3) + "(even or so" + Check.times(")", 4) + " and " + Check.times("(not ", 3) + "(even" + Check.times(")", 4), 17, 0, 1, 5);
    }

    private static void tooLong() {
        LanternState x = Check.of(SIX);
        String blanks = Check.times("\n", 196);
        Check.due("200 bytes", Check.sentence(x, blanks + "even"), 1);
        Check.due("201 bytes", Check.sentence(x, blanks + "even "), -201);
        Check.due("its kind", x.fault(), 1);
        Check.due("read whole", Check.sentence(x, blanks + "  evens"), -199);
        Check.due("read whole, it fits", Check.sentence(x, blanks + "  even"), -201);
        Check.due("it stays", x.said(-1), 3);
        Check.due("a fault just ahead", Check.sentence(x, blanks + "not?  even"), -200);
    }
}
