/** Promises 20 to 25: ORDER, MOVED and SCRATCHED. */
public final class SearchTest {
    public static void main(String[] args) {
        orders();
        ordersThatEnd();
        moves();
        movesThatSpread();
        scratchings();
        Check.finish("SearchTest");
    }

    private static void order(LanternState x, int passed, int... slides) {
        Check.due("order()", x.order(), passed);
        for (int k = 0; k < slides.length; k++) {
            Check.due("orderAt(" + k + ")", x.orderAt(k), slides[k]);
        }
        Check.due("orderAt behind", x.orderAt(slides.length), -1);
        Check.due("orderAt(-1)", x.orderAt(-1), -1);
    }

    private static void orders() {
        String hearer = "hearer g front 1;likes g 0 0;";
        LanternState x = Check.of("slide a 8 0 0 0 20;slide b 8 0 0 0 5;slide c 8 0 0 0 6;slide d 0 0 0 0 1;" + hearer + "lamp 25;");
        Check.due("orderAt(0) ahead of any", x.orderAt(0), -1);
        // a and b alone fill the lamp; c cracks
        order(x, 2, 0, 1, 2);
        LanternState y = Check.of("slide a 8 0 0 0 20;slide b 8 0 0 0 5;slide c 8 0 0 0 6;slide d 8 0 0 0 7;" + hearer + "lamp 25;");
        order(y, 3, 1, 2, 3, 0);
        LanternState z = Check.of("slide a 0 0 0 0 20;slide b 8 0 0 0 5;slide c 8 0 0 0 5;" + hearer + "lamp 25;after b c;");
        order(z, 2, 2, 1, 0);
        Check.due("acts stay undone", z.now(1), 0);
        z.show(2, 0);
        // a fills the lamp without passing, so that b must come ahead of it; an HOUR later it need not
        order(z, 1, 1, 0);
        z.hours(1);
        order(z, 1, 0, 1);
        LanternState w = Check.of("slide a 0 0 0 0 1;slide b 8 0 0 0 5;after b a;" + hearer);
        order(w, 0, 0);
    }

    private static void ordersThatEnd() {
        LanternState x = Check.of("slide a 8 0 0 0 20;slide b 8 0 0 0 10;slide c 8 0 0 0 3;slide d 8 0 0 0 4;after d b;hearer g front 0;lamp 18;");
        order(x, 3, 1, 2, 3, 0);
        Check.due("a cracks", x.show(0, 0), -5);
        order(x, 0);
        x.hours(4);
        order(x, 3, 1, 2, 3);
        x.show(1, 0);
        order(x, 2, 2, 3);
        Check.session(x, "");
        Check.due("the latest order stays", x.orderAt(1), 3);
        order(x, 0);
    }

    private static void moved(LanternState x, int s, int way, int many, int who) {
        Check.due("moved(" + s + ", " + way + ")", x.moved(s, way), many);
        Check.due("movedWho()", x.movedWho(), who);
    }

    private static void moves() {
        String text = "slide a 8 0 0 0 20;slide b 0 0 0 0 1;"
            + "hearer g front 1;likes g 0 0;hearer h behind 1;likes h 0 0;hearer k front 1;likes k 3 0;hearer l front 1;likes l 3 0;";
        LanternState x = Check.of(text + "pass 2;lamp 10;");
        Check.due("movedWho() ahead of any", x.movedWho(), -1);
        moved(x, 0, 0, 1, 2);
        moved(x, 0, 2, 0, 0);
        x.sit(2, 1);
        x.sit(1, 0);
        moved(x, 0, 2, 1, 1);
        Check.due("by none", x.moved(0, 1), -1);
        Check.due("movedWho() stays", x.movedWho(), 1);
        Check.due("moved(2, 0)", x.moved(2, 0), -1);
        Check.due("moved(-1, 0)", x.moved(-1, 0), -1);
        Check.due("moved(0, 4)", x.moved(0, 4), -1);
        Check.due("moved(0, -1)", x.moved(0, -1), -1);
        Check.due("movedWho() stays then", x.movedWho(), 1);
        Check.due("seats stay", x.now(5), 4);
        x.show(0, 0);
        moved(x, 0, 2, 1, 1);
        LanternState y = Check.of(text + "pass 4;");
        moved(y, 0, 0, 3, 14);
        Check.due("five of four", Check.of(text + "pass 5;").moved(0, 0), -1);
        moved(Check.of("slide a 0 0 0 0 1;pass 0;"), 0, 0, 0, 0);
    }

    private static void movesThatSpread() {
        LanternState x = Check.of("slide a 8 0 0 0 20;hearer g front 1;likes g 3 0;hearer h front 1;likes h 3 0;hearer k front 9;hearer l front 9;"
            + "near h k;near h l;pass 3;spread 1;");
        moved(x, 0, 0, 1, 2);
        LanternState y = Check.of("slide a 8 0 0 0 20;hearer g front 1;likes g 3 0;hearer h front 1;likes h 3 0;"
            + "hearer k front 1;likes k 3 0;hearer l front 9;near k l;pass 2;spread 1;");
        // g and h together are the lesser bits, but k alone is fewer
        moved(y, 0, 0, 1, 4);
    }

    private static void scratched(LanternState x, int s, int many, int which) {
        Check.due("scratches(" + s + ")", x.scratches(s), many);
        Check.due("scratched()", x.scratched(), which);
    }

    private static void scratchings() {
        LanternState x = Check.of("slide a 0 0 0 0 20;slide b 15 15 15 15 20;slide c 1 0 0 2 20;"
            + "hearer g front 2;likes g 3 0;likes g 2 3;likes g 1 1;hearer h behind 1;likes h 3 0;hearer k front 3;likes k 0 3;likes k 1 3;hates k 3 3;");
        Check.due("scratched() ahead of any", x.scratched(), -1);
        // h sits behind: what he likes at 3 0 is shown at 0 0
        scratched(x, 0, 1, 1);
        scratched(x, 1, 0, 0);
        scratched(x, 2, 0, 0);
        Check.due("scratches(3)", x.scratches(3), -1);
        Check.due("scratches(-1)", x.scratches(-1), -1);
        Check.due("scratched() stays", x.scratched(), 0);
        Check.due("pictures stay", x.slide(0, 9), 0);
        LanternState y = Check.of("slide a 1 0 0 0 20;hearer g front 4;likes g 0 0;likes g 1 0;likes g 2 0;likes g 3 3;hates g 3 0;likes g 3 2;lamp 1;");
        Check.due("five are not looked for", y.scratches(0), -1);
        Check.due("scratched() ahead of any that was not NONE", y.scratched(), -1);
        y.scratch(0, 3, 3);
        scratched(y, 0, 4, 15);
        y.show(0, 0);
        scratched(y, 0, 4, 15);
        LanternState z = Check.of("slide a 0 0 0 0 20;hearer g front 1;likes g 3 3;likes g 1 2;likes g 2 2;");
        scratched(z, 0, 1, 1 << 9);
        z.sit(0, 1);
        scratched(z, 0, 1, 1 << 9);
        z.scratch(0, 0, 0);
        Check.due("pass of none", Check.of("slide a 0 0 0 0 1;").scratches(0), -1);
    }
}
