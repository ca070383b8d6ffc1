/** The edges of TOKENS, SESSION, BOOK, SENTENCE and FAULTS, each a test of its own; ^ marks a FAULT's place. */
public final class TextEdgesTest {
    private static final String CAST = "slide a 1 2 4 8 5;slide b 0 0 0 0 1;hearer g front 0;hearer h behind 16;";

    public static void main(String[] args) throws IllegalAccessException {
        Check.runAll(TextEdgesTest.class);
    }

    private static void refused(String marked, int kind) {
        Check.sessionRefused(CAST + marked, kind);
    }

    private static LanternState fits(String text, int lines) {
        return Check.fits(CAST + text, 4 + lines);
    }

    private static void bookRefused(String marked, int kind) {
        Check.bookRefused(CAST, marked, kind);
    }

    private static LanternState bookFits(String text, int lines) {
        LanternState x = Check.of(CAST);
        Check.due("book '" + text + "'", Check.book(x, text, 0), -1);
        Check.due("fault()", x.fault(), 0);
        Check.due("lines", x.told(1), lines);
        return x;
    }

    private static void sentenceRefused(String marked, int kind) {
        Check.sentenceRefused(CAST, marked, kind);
    }

    private static LanternState sentenceFits(String text, int ones) {
        LanternState x = Check.of(CAST);
        Check.due("sentence '" + text + "'", Check.sentence(x, text), ones);
        Check.due("fault()", x.fault(), 0);
        return x;
    }

    private static String slides(int n) {
        StringBuilder text = new StringBuilder();
        for (int i = 0; i < n; i++) {
            text.append("slide s").append((char) ('a' + i)).append(" 1 1 1 1 1;");
        }
        return text.toString();
    }

    private static String hearers(int n) {
        StringBuilder text = new StringBuilder();
        for (int i = 0; i < n; i++) {
            text.append("hearer h").append((char) ('a' + i)).append(" front 1;");
        }
        return text.toString();
    }

    private static String nears(int n) {
        StringBuilder text = new StringBuilder();
        int told = 0;
        for (int i = 0; i < 8; i++) {
            for (int j = 0; j < i && told < n; j++) {
                text.append("near h").append((char) ('a' + i)).append(" h").append((char) ('a' + j)).append(';');
                told++;
            }
        }
        return text.toString();
    }

    private static String blanks(int n) {
        return " ".repeat(n);
    }

    // ---- TOKENS

    static void tokensBytes32And10AreBlanks() {
        Check.fits(" \n slide\n a 1  2\n\n3 4 5 ;\n", 1);
    }

    static void tokensNoOtherByteIsABlank() {
        for (int c = 0; c < 256; c++) {
            boolean goesOn = c >= 'a' && c <= 'z' || c >= '0' && c <= '9';
            LanternState x = new LanternState();
            int due = c == 32 || c == 10 ? 1 : goesOn ? -1 : -1 - 4;
            Check.due("byte " + c + " between", Check.session(x, "lamp" + (char) c + "5;"), due);
        }
    }

    static void tokensNoByteButSixIsASign() {
        for (int c = 0; c < 256; c++) {
            LanternState x = Check.of(CAST);
            int due = c == '<' || c == '=' || c == '>' ? 1 : c == 32 || c == 10 ? -1 - 6 : c >= '0' && c <= '9' || c >= 'a' && c <= 'z' ? -1 : -1 - 5;
            Check.due("byte " + c + " as a sign", Check.sentence(x, "light" + (char) c + "5"), due);
        }
    }

    static void tokensBlanksBetweenSignsMayBeLeftOut() {
        sentenceFits("not(light<3)and(heat=5)or(so)", 7);
        Check.fits("lamp 5;pass 2;spread 1;", 3);
    }

    static void tokensWordOfOneLetterIsOne() {
        Check.fits("slide z 1 1 1 1 1;", 1);
    }

    static void tokensWordOfSevenLettersIsOne() {
        LanternState x = Check.fits("slide zyxwvut 1 1 1 1 1;", 1);
        Check.dueText("bill(0)", Check.bill(x, 0), "zyxwvut is not so");
    }

    static void tokensWordOfEightLettersIsNone() {
        refused("slide ^zyxwvuts 1 1 1 1 1;", 1);
    }

    static void tokensKeywordWithAnotherLetterIsANameOrNone() {
        Check.fits("slide lamps 1 1 1 1 1;slide lam 1 1 1 1 1;", 2);
        refused("slide ^scratche 1 1 1 1 1;", 1);
    }

    static void tokensNumberOfThreeDigitsIsOne() {
        LanternState x = Check.fits("lamp 007;", 1);
        Check.due("lamp", x.count(5), 7);
    }

    static void tokensNumberOfFourDigitsIsNone() {
        refused("lamp ^0007;", 1);
    }

    static void tokensLongNumberThatWrapsIsNone() {
        // 4294967303 is 7 as an int
        refused("lamp ^4294967303;", 1);
    }

    static void tokensLongWordThatWrapsIsNone() {
        // thirteen letters and more would push the first ones out of 64 bits
        refused("^aaaaaaaaaaaaalamp 7;", 1);
        refused("slide ^zaaaaaaaaaaaaaaaaaaaa 1 1 1 1 1;", 1);
    }

    static void tokensWordWithDigitsIsNone() {
        refused("^lamp5;", 1);
        refused("slide ^a1 1 1 1 1 1;", 1);
    }

    static void tokensNumberWithLettersIsNone() {
        refused("lamp ^5a;", 1);
        refused("slide ^1a 1 1 1 1 1;", 1);
    }

    static void tokensCapitalLettersAreNone() {
        refused("^Lamp 5;", 1);
        refused("slide z^Z 1 1 1 1 1;", 1);
    }

    static void tokensNeighboursOfLettersAreNone() {
        refused("slide z^` 1 1 1 1 1;", 1);
        refused("slide z^{ 1 1 1 1 1;", 1);
    }

    static void tokensNeighboursOfDigitsAreNone() {
        refused("lamp 5^/;", 1);
        refused("lamp 5^:;", 1);
        refused("lamp ^:;", 1);
    }

    static void tokensBytesFrom128AreNone() {
        for (int c = 128; c < 256; c++) {
            LanternState x = new LanternState();
            Check.due("byte " + c, Check.session(x, "lamp 5;" + (char) c), -1 - 7);
            Check.due("fault()", x.fault(), 1);
        }
    }

    static void tokensPointIsRefused() {
        refused("lamp 5^.", 1);
        sentenceRefused("so^.", 1);
    }

    // ---- SESSION

    static void sessionOfNothingHasNoLines() {
        LanternState x = Check.fits("", 0);
        Check.due("slides", x.count(0), 0);
    }

    static void sessionOfBlanksHasNoLines() {
        Check.fits(blanks(900), 0);
    }

    static void sessionOf900BytesFits() {
        Check.fits(blanks(892) + "lamp  7;", 1);
    }

    static void sessionOf901BytesIsRefused() {
        Check.sessionRefused(blanks(892) + "lamp 07;^ ", 1);
    }

    static void sessionLineWithoutItsEndIsRefused() {
        refused("lamp 5 ^lamp 6;", 1);
        refused("lamp 5^", 1);
    }

    static void sessionEndWithoutALineIsRefused() {
        refused("^;", 1);
        refused("lamp 5;^;", 1);
    }

    static void sessionLineBeginsWithItsOwnWords() {
        String[] others = {"front", "behind", "shown", "over", "scratch", "sits", "hour", "or", "and", "not", "so", "cracked", "even",
            "like", "light", "heat", "sighs", "number", "a", "g", "zz", "5", "(", ")", "<", "=", ">"};
        for (String word : others) {
            refused("^" + word + " 5;", 1);
        }
    }

    static void sessionRowsFrom0To15() {
        LanternState x = Check.fits("slide z 0 15 0 15 1;", 1);
        int[] due = {0, 15, 0, 15};
        for (int y = 0; y < 4; y++) {
            Check.due("row " + y, x.slide(0, y), due[y]);
        }
    }

    static void sessionRowOf16IsRefused() {
        refused("slide z ^16 1 1 1 1;", 2);
        refused("slide z 1 ^16 1 1 1;", 2);
        refused("slide z 1 1 ^16 1 1;", 2);
        refused("slide z 1 1 1 ^16 1;", 2);
        refused("slide z ^16;", 2);
        refused("slide z 1 1 1 ^16;", 2);
    }

    static void sessionHeatFrom1To20() {
        LanternState x = Check.fits("slide y 0 0 0 0 1;slide z 0 0 0 0 20;", 2);
        Check.due("least", x.slide(0, 4), 1);
        Check.due("most", x.slide(1, 4), 20);
    }

    static void sessionHeatOf0Or21IsRefused() {
        refused("slide z 1 1 1 1 ^0;", 2);
        refused("slide z 1 1 1 1 ^21;", 2);
    }

    static void sessionSlideWithFewerOrMoreNumbersIsRefused() {
        refused("slide z 1 1 1 1^;", 1);
        refused("slide z 1 1 1 1 1 ^1;", 1);
    }

    static void sessionNeedFrom0To16() {
        LanternState x = Check.fits("hearer y front 0;hearer z behind 16;", 2);
        Check.due("least", x.hearer(0, 1), 0);
        Check.due("most", x.hearer(1, 1), 16);
    }

    static void sessionNeedOf17IsRefused() {
        refused("hearer z front ^17;", 2);
    }

    static void sessionSeatIsFrontOrBehind() {
        LanternState x = Check.fits("hearer y front 0;hearer z behind 0;", 2);
        Check.due("front", x.hearer(0, 0), 0);
        Check.due("behind", x.hearer(1, 0), 1);
        refused("hearer z ^over 0;", 1);
        refused("hearer z ^a 0;", 1);
        refused("hearer z ^0 0;", 1);
        refused("hearer z ^16;", 1);
    }

    static void sessionCellsFrom0To3() {
        LanternState x = fits("likes g 0 0;likes g 3 3;hates h 0 3;hates h 3 0;", 4);
        Check.due("0 0", x.thinks(0, 0, 0), 1);
        Check.due("3 3", x.thinks(0, 3, 3), 1);
        Check.due("0 3", x.thinks(1, 0, 3), 2);
        Check.due("3 0", x.thinks(1, 3, 0), 2);
    }

    static void sessionCellsOf4AreRefused() {
        refused("likes g ^4 0;", 2);
        refused("likes g 0 ^4;", 2);
        refused("likes g ^4;", 2);
        refused("hates g ^4 0;", 2);
        refused("hates g 0 ^4;", 2);
    }

    static void sessionAllSixteenCellsMayBeThoughtOf() {
        StringBuilder text = new StringBuilder();
        for (int cell = 0; cell < 16; cell++) {
            text.append(cell % 2 == 0 ? "likes g " : "hates g ").append(cell % 4).append(' ').append(cell / 4).append(';');
        }
        LanternState x = fits(text.toString(), 16);
        Check.due("likes", x.hearer(0, 2), 8);
        Check.due("hates", x.hearer(0, 3), 8);
    }

    static void sessionCellOnceForEachOfBothSorts() {
        refused("likes g 1 2;likes g 1 ^2;", 3);
        refused("hates g 1 2;hates g 1 ^2;", 3);
        refused("likes g 1 2;hates g 1 ^2;", 3);
        refused("hates g 1 2;likes g 1 ^2;", 3);
    }

    static void sessionCellOfAnotherHearerMayBeTold() {
        fits("likes g 1 2;likes h 1 2;hates g 2 1;hates h 2 1;", 4);
    }

    static void sessionNearOfOneselfIsRefused() {
        refused("near g ^g;", 3);
    }

    static void sessionNearTwiceIsRefusedInWhateverOrder() {
        refused("near g h;near g ^h;", 3);
        refused("near g h;near h ^g;", 3);
    }

    static void sessionAfterItselfIsRefused() {
        refused("after a ^a;", 3);
    }

    static void sessionAfterTwiceIsRefusedAtTheFirst() {
        refused("slide c 0 0 0 0 1;after a b;after ^a c;", 3);
        refused("after a b;after ^a b;", 3);
    }

    static void sessionAfterMayTellASecondAgain() {
        LanternState x = fits("slide c 0 0 0 0 1;after a b;after c b;", 3);
        Check.due("a", x.slide(0, 5), 1);
        Check.due("c", x.slide(2, 5), 1);
        Check.due("b", x.slide(1, 5), -1);
    }

    static void sessionAfterMayGoRound() {
        LanternState x = fits("after a b;after b a;", 2);
        Check.due("a", x.slide(0, 5), 1);
        Check.due("b", x.slide(1, 5), 0);
    }

    static void sessionPassFrom0To8() {
        Check.due("least", Check.fits("pass 0;", 1).count(3), 0);
        Check.due("most", Check.fits("pass 8;", 1).count(3), 8);
        refused("pass ^9;", 2);
    }

    static void sessionPassIs1Without() {
        Check.due("pass", Check.fits(CAST, 4).count(3), 1);
    }

    static void sessionPassOnce() {
        refused("pass 0;^pass 0;", 3);
    }

    static void sessionSpreadFrom0To8() {
        Check.due("least", Check.fits("spread 0;", 1).count(4), 0);
        Check.due("most", Check.fits("spread 8;", 1).count(4), 8);
        refused("spread ^9;", 2);
    }

    static void sessionSpreadIs0Without() {
        Check.due("spread", Check.fits(CAST, 4).count(4), 0);
    }

    static void sessionSpreadOnce() {
        refused("spread 0;^spread 0;", 3);
    }

    static void sessionLampFrom1To99() {
        Check.due("least", Check.fits("lamp 1;", 1).count(5), 1);
        Check.due("most", Check.fits("lamp 99;", 1).count(5), 99);
        refused("lamp ^0;", 2);
        refused("lamp ^100;", 2);
    }

    static void sessionLampIs40Without() {
        Check.due("lamp", Check.fits(CAST, 4).count(5), 40);
    }

    static void sessionLampOnce() {
        refused("lamp 40;^lamp 40;", 3);
    }

    static void sessionSettingsOfTheLastSessionAreForgotten() {
        LanternState x = Check.fits("pass 8;spread 8;lamp 99;", 3);
        Check.due("the same again", Check.session(x, "pass 7;spread 7;lamp 98;"), 3);
        Check.due("none", Check.session(x, ""), 0);
        Check.due("pass", x.count(3), 1);
        Check.due("spread", x.count(4), 0);
        Check.due("lamp", x.count(5), 40);
    }

    static void sessionNamesOfTheLastSessionAreForgotten() {
        LanternState x = Check.fits(CAST + "likes g 0 0;near g h;after a b;", 7);
        Check.due("the same names again", Check.session(x, CAST), 4);
        Check.due("likes", x.hearer(0, 2), 0);
        Check.due("near", x.hearer(0, 5), 0);
        Check.due("near, all", x.count(2), 0);
        Check.due("after", x.slide(0, 5), -1);
        Check.due("a name that is no more", Check.session(x, "likes g 0 0;"), -1 - 6);
    }

    static void sessionNameOfARefusedSessionIsNotTold() {
        LanternState x = Check.fits("", 0);
        Check.due("refused", Check.session(x, "slide a 1 1 1 1 1;hearer g front 1;?"), -1 - 35);
        Check.due("told now", Check.session(x, "slide a 1 1 1 1 1;hearer g front 1;"), 2);
    }

    static void sessionNameIsNoKeyword() {
        String words = "slide hearer front behind likes hates near after pass spread lamp shown over scratch sits hour"
            + " or and not so cracked even like light heat sighs number";
        for (String word : words.split(" ")) {
            refused("slide ^" + word + " 1 1 1 1 1;", 1);
            refused("hearer ^" + word + " front 1;", 1);
        }
    }

    static void sessionNameToldTwiceIsRefused() {
        refused("slide ^a 1 1 1 1 1;", 3);
        refused("slide ^b 1 1 1 1 1;", 3);
        refused("slide ^g 1 1 1 1 1;", 3);
        refused("hearer ^h front 1;", 3);
        refused("hearer ^g front 1;", 3);
        refused("hearer ^a front 1;", 3);
    }

    static void sessionNameNotToldIsRefused() {
        refused("likes ^z 0 0;", 3);
        refused("hates ^z 0 0;", 3);
        refused("near ^z g;", 3);
        refused("near g ^z;", 3);
        refused("after ^z a;", 3);
        refused("after a ^z;", 3);
    }

    static void sessionNameToldLaterIsNotTold() {
        Check.sessionRefused("likes ^z 0 0;hearer z front 0;", 3);
        Check.sessionRefused("slide y 0 0 0 0 1;after y ^z;slide z 0 0 0 0 1;", 3);
    }

    static void sessionNameOfAnotherSortIsRefused() {
        refused("likes ^a 0 0;", 3);
        refused("hates ^a 0 0;", 3);
        refused("near ^a g;", 3);
        refused("near g ^a;", 3);
        refused("after ^g a;", 3);
        refused("after a ^g;", 3);
    }

    static void sessionKeywordOrNumberForANameCantCome() {
        String[] heads = {"likes ", "hates ", "near ", "near g ", "after ", "after a "};
        for (String head : heads) {
            refused(head + "^lamp 0 0;", 1);
            refused(head + "^7 0 0;", 1);
            refused(head + "^;", 1);
        }
    }

    static void sessionSixSlides() {
        LanternState x = Check.fits(slides(6), 6);
        Check.due("slides", x.count(0), 6);
        Check.due("the last one", x.slide(5, 4), 1);
    }

    static void sessionSeventhSlideIsRefusedAtItsFirstWord() {
        Check.sessionRefused(slides(6) + "lamp 7; ^slide z 1 1 1 1 1;", 4);
        Check.sessionRefused(slides(6) + "^slide", 4);
        Check.sessionRefused(slides(6) + "^slide sa 16", 4);
    }

    static void sessionEightHearers() {
        LanternState x = Check.fits(hearers(8), 8);
        Check.due("hearers", x.count(1), 8);
        Check.due("the last one", x.hearer(7, 1), 1);
    }

    static void sessionNinthHearerIsRefusedAtItsFirstWord() {
        Check.sessionRefused(hearers(8) + " ^hearer z front 1;", 4);
        Check.sessionRefused(hearers(8) + "^hearer ha left", 4);
    }

    static void sessionTwelveNear() {
        LanternState x = Check.fits(hearers(8) + nears(12), 20);
        Check.due("near", x.count(2), 12);
    }

    static void sessionThirteenthNearIsRefusedAtItsFirstWord() {
        Check.sessionRefused(hearers(8) + nears(12) + "\n^near hh hg;", 4);
        Check.sessionRefused(hearers(8) + nears(12) + "^near hb ha;", 4);
        Check.sessionRefused(hearers(8) + nears(12) + "^near", 4);
    }

    static void sessionSlidesAndHearersAreNumberedFrom0Each() {
        LanternState x = Check.fits("hearer q behind 3;slide r 1 0 0 0 4;hearer s front 5;slide t 2 0 0 0 6;", 4);
        Check.due("slide 0", x.slide(0, 4), 4);
        Check.due("slide 1", x.slide(1, 4), 6);
        Check.due("hearer 0", x.hearer(0, 1), 3);
        Check.due("hearer 1", x.hearer(1, 1), 5);
    }

    // ---- BOOK

    static void bookOfNothingIsNotWrong() {
        bookFits("", 0);
        bookFits(" \n ", 0);
    }

    static void bookOf400BytesFits() {
        bookFits(blanks(393) + "hour 9;", 1);
    }

    static void bookOf401BytesIsRefused() {
        bookRefused(blanks(393) + "hour 9;^ ", 1);
    }

    static void bookOf40LinesFits() {
        bookFits("hour 1;".repeat(40), 40);
    }

    static void bookOf41LinesIsRefusedAtTheFirstWord() {
        bookRefused("hour 1;".repeat(40) + "^hour 1;", 4);
        bookRefused("hour 1;".repeat(40) + "\n^a shown 0;", 4);
        bookRefused("hour 1;".repeat(40) + "^g sits behind;", 4);
        bookRefused("hour 1;".repeat(40) + "^hour", 4);
    }

    static void bookWaysFrom0To3() {
        bookFits("a shown 0;a shown 3;", 2);
        bookRefused("a shown ^4;", 2);
    }

    static void bookCellsFrom0To3() {
        bookFits("a scratch 0 0;a scratch 3 3;", 2);
        bookRefused("a scratch ^4 0;", 2);
        bookRefused("a scratch 0 ^4;", 2);
        bookRefused("a scratch ^4;", 2);
    }

    static void bookHoursFrom1To24() {
        Check.due("hour", bookFits("hour 1;hour 24;", 2).told(2), 25);
        bookRefused("hour ^0;", 2);
        bookRefused("hour ^25;", 2);
    }

    static void bookSeatIsFrontOrBehind() {
        bookFits("g sits behind;h sits front;", 2);
        bookRefused("g sits ^over;", 1);
        bookRefused("g sits ^1;", 1);
        bookRefused("g sits ^z;", 1);
    }

    static void bookNameNotToldIsRefused() {
        bookRefused("^z shown 0;", 3);
        bookRefused("^z sits front;", 3);
        bookRefused("a over ^z;", 3);
    }

    static void bookNameOfAnotherSortIsRefused() {
        bookRefused("a over ^g;", 3);
    }

    static void bookKeywordOrNumberForANameCantCome() {
        bookRefused("^shown 0;", 1);
        bookRefused("^lamp 5;", 1);
        bookRefused("^7 shown 0;", 1);
        bookRefused("a over ^shown;", 1);
        bookRefused("a over ^7;", 1);
    }

    static void bookActOfTheOtherSortCantCome() {
        bookRefused("a ^sits front;", 1);
        bookRefused("g ^shown 0;", 1);
        bookRefused("g ^over a;", 1);
        bookRefused("g ^scratch 0 0;", 1);
    }

    static void bookLineWithoutItsEndIsRefused() {
        bookRefused("hour 1^", 1);
        bookRefused("hour 1 ^hour 1;", 1);
        bookRefused("a shown 0^", 1);
        bookRefused("a over b^", 1);
        bookRefused("a scratch 0 0^", 1);
        bookRefused("g sits front^", 1);
    }

    static void bookEndWithoutALineIsRefused() {
        bookRefused("^;", 1);
        bookRefused("hour 1;^;", 1);
    }

    static void bookOverItselfIsNoFault() {
        LanternState x = Check.of(CAST);
        Check.due("over itself", Check.book(x, "a over a;", 0), 0);
        Check.due("fault()", x.fault(), 0);
        Check.due("why", x.told(0), 11);
    }

    // ---- SENTENCE

    static void sentenceOfNothingIsRefusedAtItsEnd() {
        sentenceRefused("^", 1);
        sentenceRefused("  ^", 1);
    }

    static void sentenceOf200BytesFits() {
        sentenceFits(blanks(198) + "so", 1);
    }

    static void sentenceOf201BytesIsRefused() {
        sentenceRefused(blanks(198) + "so^ ", 1);
    }

    static void sentenceOf20OnesFits() {
        sentenceFits("so or ".repeat(19) + "so", 20);
        sentenceFits("so and ".repeat(19) + "so", 20);
        sentenceFits("not so or ".repeat(9) + "(so)", 20);
    }

    static void sentenceOf21OnesIsRefusedAtItsFirstToken() {
        sentenceRefused("so or ".repeat(20) + "^so", 4);
        sentenceRefused("so and ".repeat(20) + "^so", 4);
        sentenceRefused("so or ".repeat(20) + "^not so", 4);
        sentenceRefused("so or ".repeat(20) + "^(so)", 4);
        sentenceRefused("so or ".repeat(20) + "^like z", 4);
        sentenceRefused("not so or ".repeat(10) + "^so", 4);
        sentenceRefused("so or ".repeat(19) + "not ^so", 4);
        sentenceRefused("so or ".repeat(19) + "(^so)", 4);
    }

    static void sentenceWith8WithinFits() {
        sentenceFits("not ".repeat(7) + "so", 8);
        sentenceFits("(".repeat(7) + "so" + ")".repeat(7), 8);
        sentenceFits("(not ".repeat(3) + "(so" + ")".repeat(4), 8);
    }

    static void sentenceWith9WithinIsRefusedAtItsFirstToken() {
        sentenceRefused("not ".repeat(8) + "^so", 4);
        sentenceRefused("not ".repeat(8) + "^not so", 4);
        sentenceRefused("(".repeat(8) + "^so", 4);
        sentenceRefused("(not ".repeat(4) + "^(so", 4);
    }

    static void sentenceWithinIsLeftBehindBrackets() {
        sentenceFits("(".repeat(7) + "so" + ")".repeat(7) + " or " + "not ".repeat(7) + "so", 16);
        sentenceFits("(((((((so or so)or so)or so)or so)or so)or so)or so)", 15);
    }

    static void sentenceOneBehindEightWithinIsAsDeep() {
        sentenceFits("(".repeat(7) + "so or so and so" + ")".repeat(7), 10);
        sentenceRefused("(".repeat(7) + "so or not ^so" + ")".repeat(7), 4);
    }

    static void sentenceBracketsMustClose() {
        sentenceRefused("(so^", 1);
        sentenceRefused("((so)^", 1);
        sentenceRefused("(so ^so)", 1);
        sentenceRefused("(^", 1);
        sentenceRefused("((^", 1);
        sentenceRefused("(so or^", 1);
        sentenceRefused("(not^", 1);
        sentenceRefused("(light <^", 1);
        sentenceRefused("so and (^", 1);
    }

    static void sentenceBracketsMustOpen() {
        sentenceRefused("so^)", 1);
        sentenceRefused("^)so(", 1);
    }

    static void sentenceEmptyBracketsAreRefused() {
        sentenceRefused("(^)", 1);
    }

    static void sentenceJointNeedsAOneBehindIt() {
        sentenceRefused("so or^", 1);
        sentenceRefused("so and^", 1);
        sentenceRefused("so or ^or so", 1);
        sentenceRefused("so and ^or so", 1);
        sentenceRefused("not^", 1);
        sentenceRefused("^or so", 1);
        sentenceRefused("^and so", 1);
    }

    static void sentenceTwoOnesNeedAJoint() {
        sentenceRefused("so ^so", 1);
        sentenceRefused("so ^not so", 1);
        sentenceRefused("so ^(so)", 1);
    }

    static void sentenceEndOfALineCantCome() {
        sentenceRefused("so^;", 1);
    }

    static void sentenceMeasureNeedsASignAndANumber() {
        String[] measures = {"light", "heat", "sighs", "number"};
        for (String word : measures) {
            sentenceRefused(word + "^", 1);
            sentenceRefused(word + " ^5", 1);
            sentenceRefused(word + " =^", 1);
            sentenceRefused(word + " = ^a", 1);
            sentenceRefused(word + " = ^so", 1);
            sentenceRefused(word + " < ^= 5", 1);
            sentenceRefused(word + " ^( 5", 1);
            sentenceRefused(word + " = ^1000", 1);
            sentenceFits(word + " = 999", 1);
            sentenceFits(word + " > 0", 1);
        }
    }

    static void sentenceLikeNeedsASlide() {
        sentenceRefused("like^", 1);
        sentenceRefused("like ^so", 1);
        sentenceRefused("like ^0", 1);
        sentenceRefused("like ^z", 3);
        sentenceRefused("like ^g", 3);
    }

    static void sentenceNameAloneCantCome() {
        sentenceRefused("^a", 1);
        sentenceRefused("^z", 1);
        sentenceRefused("^5", 1);
        sentenceRefused("not ^a", 1);
    }

    static void sentenceKeywordsOfOthersCantCome() {
        String words = "slide hearer front behind likes hates near after pass spread lamp shown over scratch sits hour";
        for (String word : words.split(" ")) {
            sentenceRefused("^" + word, 1);
            sentenceRefused("not ^" + word, 1);
        }
    }

    // ---- FAULTS

    static void faultFirstAlongTheTextIsTold() {
        refused("lamp ^0;?", 2);
        refused("likes ^z 9 9;?", 3);
        Check.sessionRefused(slides(6) + "^slide ? 99 99", 4);
        bookRefused("a shown ^9;z shown 0;?", 2);
        sentenceRefused("like ^z or ?", 3);
    }

    static void faultOfOneTokenIsTheLeast() {
        // a 41st LINE that can't come, or whose NAME is not told; a 21st ONE that can't come
        bookRefused("hour 1;".repeat(40) + "^lamp 1;", 1);
        bookRefused("hour 1;".repeat(40) + "^?", 1);
        bookRefused("hour 1;".repeat(40) + "^z shown 0;", 3);
        sentenceRefused("so or ".repeat(20) + "^or", 1);
        sentenceRefused("not ".repeat(8) + "^)", 1);
    }

    static void faultAtTheEndIsAtHowManyBytesThereAre() {
        refused("lamp^", 1);
        refused("lamp \n ^", 1);
        refused("lamp 5  ^", 1);
        bookRefused("a shown  ^", 1);
        sentenceRefused("not  ^", 1);
    }

    static void faultAtTheEndOfAFullText() {
        Check.sessionRefused(blanks(894) + "lamp 5^", 1);
        Check.sessionRefused(blanks(893) + "lamp 5 ^", 1);
        bookRefused(blanks(394) + "hour 5^", 1);
        sentenceRefused(blanks(197) + "not^", 1);
    }

    static void faultOfALongTextIsAtTheMostBytes() {
        Check.sessionRefused(blanks(900) + "^ ", 1);
        Check.sessionRefused(blanks(900) + "^" + blanks(40), 1);
        Check.sessionRefused(blanks(900) + "^lamp 5;", 1);
        Check.sessionRefused(blanks(895) + "lamp ^    5;", 1);
        Check.sessionRefused(blanks(892) + "lamp 55;^lamp 5;", 1);
        bookRefused(blanks(400) + "^hour 5;", 1);
        sentenceRefused(blanks(200) + "^so", 1);
    }

    static void faultOfALongTextComesBehindOnesAhead() {
        Check.sessionRefused("^?" + blanks(939), 1);
        Check.sessionRefused(blanks(899) + "^?" + blanks(10), 1);
        Check.sessionRefused(blanks(895) + "lamp^; 5;", 1);
        bookRefused(blanks(395) + "^zz shown 0;", 3);
        sentenceRefused(blanks(196) + "not^?so", 1);
    }

    static void faultOfALongTextReadsTokensThatBeginAheadWhole() {
        Check.sessionRefused(blanks(894) + "lamp ^999;", 2);
        Check.sessionRefused(blanks(894) + "lamp ^9999;", 1);
        bookRefused(blanks(394) + "hour ^999;", 2);
        bookRefused(blanks(399) + "^zz shown 0;", 3);
        sentenceRefused(blanks(198) + "^sos", 1);
        sentenceRefused(blanks(194) + "like ^zzz", 3);
    }

    static void faultOfALongTextBehindATokenReadWholeThatFits() {
        Check.sessionRefused(blanks(894) + "lamp 9^9;", 1);
        Check.sessionRefused(blanks(898) + "la^mp 5;", 1);
        bookRefused(blanks(394) + "hour 2^4;", 1);
        bookRefused(blanks(399) + "h^our 5;", 1);
        sentenceRefused(blanks(199) + "s^o", 1);
        sentenceRefused(blanks(198) + "ev^en and so", 1);
    }

    static void faultOfALongTextMayBeALineTooMany() {
        String text = slides(6);
        Check.sessionRefused(text + blanks(899 - text.length()) + "^slide z 1 1 1 1 1;", 4);
        Check.sessionRefused(text + blanks(900 - text.length()) + "^slide z 1 1 1 1 1;", 1);
    }

    static void faultIsForgottenByATextThatFits() {
        LanternState x = Check.of(CAST);
        Check.due("a fault", Check.session(x, "?"), -1);
        Check.due("fault()", x.fault(), 1);
        Check.due("a book", Check.book(x, "", 0), -1);
        Check.due("fault() of a book that fits", x.fault(), 0);
        Check.due("a fault", Check.book(x, "z shown 0;", 0), -2);
        Check.due("fault()", x.fault(), 3);
        Check.due("a sentence", Check.sentence(x, "so"), 1);
        Check.due("fault() of a sentence that fits", x.fault(), 0);
        Check.due("a fault", Check.sentence(x, "like z"), -1 - 5);
        Check.due("fault()", x.fault(), 3);
        Check.due("a session", Check.session(x, ""), 0);
        Check.due("fault() of a session that fits", x.fault(), 0);
    }
}
