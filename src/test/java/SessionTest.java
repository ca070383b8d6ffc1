/** Promises 4, 5 and 40: what a SESSION may tell, its FAULTS, and where they are. */
public final class SessionTest {
    private static final String TWO = "slide a 1 2 3 4 5;slide b 0 0 0 0 1;hearer g front 0;hearer h behind 16;";
    private static final int AT = TWO.length();

    public static void main(String[] args) {
        fits();
        staysBehindFault();
        tokens();
        numbers();
        names();
        tooMany();
        ends();
        tooLong();
        startsAnew();
        Check.finish("SessionTest");
    }

    private static void fits() {
        LanternState x = new LanternState();
        Check.due("the hall's lines", Check.session(x, Check.HALL), 17);
        int[] due = {3, 3, 1, 2, 1, 30, 0};
        for (int what = 0; what < due.length; what++) {
            Check.due("hall: count(" + what + ")", x.count(what), due[what]);
        }
        Check.due("no line", Check.session(x, " \n \n"), 0);
        Check.due("no slides then", x.count(0), 0);
        Check.due("lamp without", x.count(5), 40);
        Check.due("edges", Check.session(x, "slide abcdefg 0 15 015 000 20;hearer q behind 16;pass 0;spread 8;lamp 99;"), 5);
        Check.due("pass 0", x.count(3), 0);
        Check.due("spread 8", x.count(4), 8);
        Check.due("lamp 99", x.count(5), 99);
        Check.due("blanks", Check.session(x, "\n\n slide\na 1\n2 3 4  5\n; lamp 1 ;"), 2);
        Check.due("both near ways", Check.session(x, "hearer a front 0;hearer b front 0;near b a;"), 3);
        Check.due("near bits of a", x.hearer(0, 5), 2);
        Check.due("near bits of b", x.hearer(1, 5), 1);
        Check.due("after each other", Check.session(x, "slide a 0 0 0 0 1;slide b 0 0 0 0 1;after a b;after b a;"), 4);
    }

    private static void staysBehindFault() {
        LanternState x = Check.hall();
        x.show(0, 0);
        Check.due("a fault", Check.session(x, "slide z 1 1 1 1 1; x"), -1 - 19);
        Check.due("fault()", x.fault(), 1);
        Check.due("the tape is empty", x.count(6), 0);
        Check.due("slides stay", x.count(0), 3);
        Check.due("what is so stays", x.now(3), 1);
        Check.due("acts stay", x.undo(), 0);
        Check.due("then none", Check.session(x, ""), 0);
        Check.due("fault() then", x.fault(), 0);
    }

    /** The text behind TWO has this FAULT at this place of it. */
    private static void fault(String text, int kind, int place) {
        faultAlone(TWO + text, kind, AT + place);
    }

    private static void faultAlone(String text, int kind, int place) {
        LanternState x = new LanternState();
        Check.due("session '" + text + "'", Check.session(x, text), -1 - place);
        Check.due("fault() of '" + text + "'", x.fault(), kind);
        Check.due("slides of '" + text + "'", x.count(0), 0);
    }

    private static void tokens() {
        fault("x 1;", 1, 0);
        fault("5;", 1, 0);
        fault(";", 1, 0);
        fault("  ,", 1, 2);
        fault("lamp lamp;", 1, 5);
        fault("Lamp 4;", 1, 0);
        fault("lamp 4.", 1, 6);
        fault("lamp 4 5;", 1, 7);
        fault("lamp4;", 1, 0);
        fault("lamp 4a;", 1, 5);
        fault("lamp 0004;", 1, 5);
        fault("lamp\t4;", 1, 4);
        fault("lamp 4" + (char) 233 + ";", 1, 6);
        fault("slide abcdefgh 1 1 1 1 1;", 1, 6);
        fault("slide a1 1 1 1 1 1;", 1, 6);
        fault("slide 1 1 1 1 1 1;", 1, 6);
        fault("slide c 1 1 1 c 1;", 1, 14);
        fault("slide c 1 1 1 1;", 1, 15);
        fault("slide c 1 1 1 1 1 1;", 1, 18);
        fault("hearer k 1 1;", 1, 9);
        fault("hearer k left 1;", 1, 9);
        fault("hearer k front front;", 1, 15);
        fault("hearer k left;", 1, 9);
        fault("hearer front;", 1, 7);
        fault("slide slide;", 1, 6);
        fault("likes g;", 1, 7);
        fault("near lamp g;", 1, 5);
        fault("near 1 g;", 1, 5);
        fault("after a;", 1, 7);
        fault("shown a 1;", 1, 0);
        String[] keywords = ("slide hearer front behind likes hates near after pass spread lamp shown over scratch sits hour"
            + " or and not so cracked even like light heat sighs number").split(" ");
        for (String word : keywords) {
            fault("slide " + word + " 1 1 1 1 1;", 1, 6);
            fault("hearer " + word + " front 1;", 1, 7);
        }
        LanternState x = new LanternState();
        Check.due("like words are names", Check.session(x, "slide slides 0 0 0 0 1;slide hours 0 0 0 0 1;hearer o front 0;"), 3);
    }

    private static void numbers() {
        fault("slide c 16 1 1 1 1;", 2, 8);
        fault("slide c 1 1 1 16 1;", 2, 14);
        fault("slide c 1 1 1 1 0;", 2, 16);
        fault("slide c 1 1 1 1 21;", 2, 16);
        fault("hearer k front 17;", 2, 15);
        fault("likes g 4 0;", 2, 8);
        fault("hates g 0 4;", 2, 10);
        fault("pass 9;", 2, 5);
        fault("spread 9;", 2, 7);
        fault("lamp 0;", 2, 5);
        fault("lamp 100;", 2, 5);
    }

    private static void names() {
        fault("slide a 1 1 1 1 1;", 3, 6);
        fault("slide g 1 1 1 1 1;", 3, 6);
        fault("hearer h front 1;", 3, 7);
        fault("hearer b x", 3, 7);
        fault("likes x 1 1;", 3, 6);
        fault("likes a 1 1;", 3, 6);
        fault("likes g 1 2;likes g 1 2;", 3, 22);
        fault("likes g 1 2;hates g 1 2;", 3, 22);
        fault("hates g 3 3;hates h 3 3;likes g 3 3;", 3, 34);
        fault("near g g;", 3, 7);
        fault("near g x;", 3, 7);
        fault("near a g;", 3, 5);
        fault("near x;", 3, 5);
        fault("likes x;", 3, 6);
        fault("after x;", 3, 6);
        fault("near g h;near h g;", 3, 16);
        fault("near g h;near g h;", 3, 16);
        fault("after a a;", 3, 8);
        fault("after x a;", 3, 6);
        fault("after a g;", 3, 8);
        fault("after g a;", 3, 6);
        fault("after a b;after a b;", 3, 16);
        fault("after a b;after a a;", 3, 16);
        fault("pass 1;pass 1;", 3, 7);
        fault("spread 0;spread x;", 3, 9);
        fault("lamp 40;lamp 40;", 3, 8);
        faultAlone("near g h;hearer g front 0;hearer h front 0;", 3, 5);
    }

    private static void tooMany() {
        StringBuilder slides = new StringBuilder();
        for (char c = 'a'; c < 'g'; c++) {
            slides.append("slide ").append(c).append(" 1 1 1 1 1;");
        }
        Check.due("six slides", Check.session(new LanternState(), slides.toString()), 6);
        faultAlone(slides + " slide a 99", 4, slides.length() + 1);
        StringBuilder hearers = new StringBuilder();
        for (char c = 'a'; c < 'i'; c++) {
            hearers.append("hearer ").append(c).append(" front 1;");
        }
        Check.due("eight hearers", Check.session(new LanternState(), hearers.toString()), 8);
        faultAlone(hearers + "hearer 5", 4, hearers.length());
        StringBuilder near = new StringBuilder(hearers);
        int pairs = 0;
        for (char c = 'a'; c < 'i'; c++) {
            for (char d = (char) (c + 1); d < 'i' && pairs < 12; d++) {
                near.append("near ").append(c).append(' ').append(d).append(';');
                pairs++;
            }
        }
        LanternState x = new LanternState();
        Check.due("twelve near", Check.session(x, near.toString()), 20);
        Check.due("count(2)", x.count(2), 12);
        faultAlone(near + "near", 4, near.length());
    }

    private static void ends() {
        fault("lamp", 1, 4);
        fault("lamp  ", 1, 6);
        fault("lamp 4", 1, 6);
        fault("lamp 4 \n", 1, 8);
        fault("near g", 1, 6);
    }

    private static void tooLong() {
        String lines = Check.times(" ", 890);
        LanternState x = new LanternState();
        Check.due("900 bytes", Check.session(x, lines + "lamp  50 ;"), 1);
        Check.due("901 bytes", Check.session(x, lines + "lamp  50 ; "), -901);
        Check.due("901 bytes: kind", x.fault(), 1);
        Check.due("; is byte 900", Check.session(x, lines + "lamp   50 ;"), -901);
        Check.due("a number over the edge is read whole", Check.session(x, lines + "    lamp 999;"), -901 + 1);
        Check.due("its kind", x.fault(), 2);
        Check.due("a number over the edge that fits", Check.session(x, lines + "    lamp 99;"), -901);
        Check.due("a number just behind the edge", Check.session(x, lines + "lamp      999;"), -901);
        Check.due("its kind is not the number's", x.fault(), 1);
        Check.due("a word over the edge", Check.session(x, lines + "   lampions;"), -894);
        Check.due("a line's end over the edge", Check.session(x, lines + "lamp      "), -901);
        Check.due("a line's end just behind the edge", Check.session(x, lines + "lamp       "), -901);
        Check.due("a fault ahead", Check.session(x, "?" + lines + "            "), -1);
        Check.due("940 bytes of blanks", Check.session(x, Check.times("\n", 940)), -901);
        Check.due("900 bytes of blanks", Check.session(x, Check.times("\n", 900)), 0);
    }

    private static void startsAnew() {
        LanternState x = Check.hall();
        Check.due("a sentence", Check.sentence(x, "not so"), 2);
        x.show(0, 0);
        x.show(2, 0);
        x.show(1, 0);
        x.hours(3);
        x.sit(0, 1);
        Check.due("said(-1)", x.said(-1), 2);
        Check.session(x, Check.HALL);
        for (int what = 0; what <= 6; what++) {
            Check.due("anew: now(" + what + ")", x.now(what), what == 5 ? 2 : 0);
        }
        Check.due("anew: said(-1)", x.said(-1), -1);
        Check.due("anew: undo()", x.undo(), -1);
        Check.due("anew: shown", x.slide(0, 8), 0);
        Check.due("anew: sighed", x.hearer(0, 4), 0);
    }
}
