/** The edges of "==== 2": pictures, WAYS, SIGH, SPREAD, SHOW, OVER, SCRATCH, SIT and HOUR, each a test of its own. */
public final class LanternEdgesTest {
    private static final int CRACKED = -2;
    private static final int BEHIND_ONE_NOT_SO = -3;
    private static final int BLACK = -4;
    private static final int IT_CRACKED = -5;

    public static void main(String[] args) throws IllegalAccessException {
        Check.runAll(LanternEdgesTest.class);
    }

    /** A SLIDE whose one light cell is X, Y. */
    private static String oneCell(int x, int y) {
        StringBuilder text = new StringBuilder("slide a");
        for (int row = 0; row < 4; row++) {
            text.append(' ').append(row == y ? 8 >> x : 0);
        }
        return text.append(" 1;").toString();
    }

    private static void onlyCell(LanternState lantern, int way, int seat, int x, int y) {
        for (int row = 0; row < 4; row++) {
            Check.due("row " + row + " by way " + way + ", seat " + seat, lantern.row(0, way, seat, row), row == y ? 8 >> x : 0);
        }
    }

    // ---- pictures

    static void pictureCellsAre8To1FromTheLeft() {
        LanternState x = Check.of("slide a 8 4 2 1 1;hearer g front 1;likes g 0 0;hearer h front 1;likes h 1 1;"
            + "hearer k front 1;likes k 2 2;hearer l front 1;likes l 3 3;hearer m front 1;likes m 1 0;likes m 0 1;likes m 3 2;likes m 2 3;");
        Check.due("who sees a light cell", x.sighs(0, 0), 15);
    }

    static void pictureRow0IsTheUppermost() {
        LanternState x = Check.of("slide a 15 0 0 0 1;hearer g front 1;likes g 2 0;hearer h front 1;likes h 2 3;");
        Check.due("who sees a light cell", x.sighs(0, 0), 1);
    }

    static void wayOfEachCell() {
        for (int cell = 0; cell < 16; cell++) {
            int cx = cell % 4;
            int cy = cell / 4;
            LanternState x = Check.of(oneCell(cx, cy));
            onlyCell(x, 0, 0, cx, cy);
            onlyCell(x, 1, 0, 3 - cx, 3 - cy);
            onlyCell(x, 2, 0, 3 - cx, cy);
            onlyCell(x, 3, 0, cx, 3 - cy);
        }
    }

    static void behindSeesEachCellMirrored() {
        for (int cell = 0; cell < 16; cell++) {
            int cx = cell % 4;
            int cy = cell / 4;
            LanternState x = Check.of(oneCell(cx, cy));
            onlyCell(x, 0, 1, 3 - cx, cy);
            onlyCell(x, 1, 1, cx, 3 - cy);
            onlyCell(x, 2, 1, cx, cy);
            onlyCell(x, 3, 1, 3 - cx, 3 - cy);
        }
    }

    static void pictureAllDarkAndAllLight() {
        LanternState x = Check.of("slide a 0 0 0 0 1;slide b 15 15 15 15 1;");
        for (int way = 0; way < 4; way++) {
            for (int y = 0; y < 4; y++) {
                Check.due("dark", x.row(0, way, 1, y), 0);
                Check.due("light", x.row(1, way, 1, y), 15);
            }
        }
        Check.due("no light cells", x.slide(0, 9), 0);
        Check.due("sixteen light cells", x.slide(1, 9), 16);
    }

    // ---- SIGH

    static void sighAtJustWhatHeNeeds() {
        LanternState x = Check.of("slide a 14 0 0 0 1;hearer g front 2;likes g 0 0;likes g 1 0;likes g 3 0;"
            + "hearer h front 3;likes h 0 0;likes h 1 0;likes h 3 0;hearer k front 1;likes k 0 0;likes k 1 0;likes k 3 0;");
        Check.due("two are light", x.sighs(0, 0), 5);
    }

    static void sighCountsHatedCellsAgainstLikedOnes() {
        LanternState x = Check.of("slide a 15 0 0 0 1;hearer g front 1;likes g 0 0;likes g 1 0;hates g 2 0;"
            + "hearer h front 2;likes h 0 0;likes h 1 0;hates h 2 0;hearer k front 2;likes k 0 0;likes k 1 0;hates k 2 3;");
        Check.due("by one and two", x.sighs(0, 0), 5);
    }

    static void sighOfNeed0WithNothingLight() {
        LanternState x = Check.of("slide a 0 0 0 0 1;hearer g front 0;hearer h front 0;likes h 0 0;hates h 1 0;");
        Check.due("none more", x.sighs(0, 0), 3);
    }

    static void sighOfNeed0WithMoreHated() {
        LanternState x = Check.of("slide a 15 0 0 0 1;hearer g front 0;likes g 0 0;hates g 1 0;hearer h front 0;likes h 0 0;hates h 1 0;hates h 2 0;");
        Check.due("as many, one fewer", x.sighs(0, 0), 1);
    }

    static void sighOfNeed16() {
        StringBuilder likes = new StringBuilder();
        for (int cell = 0; cell < 16; cell++) {
            likes.append("likes g ").append(cell % 4).append(' ').append(cell / 4).append(';');
        }
        LanternState x = Check.of("slide a 15 15 15 15 1;slide b 15 15 15 14 1;hearer g front 16;" + likes);
        Check.due("all light", x.sighs(0, 0), 1);
        Check.due("one dark", x.sighs(1, 0), 0);
    }

    static void sighOfWhoSitsBehind() {
        LanternState x = Check.of("slide a 8 0 0 0 1;hearer g behind 1;likes g 3 0;hearer h behind 1;likes h 0 0;hearer k behind 0;hates k 3 0;");
        Check.due("as they see it", x.sighs(0, 0), 1);
        Check.due("mirrored", x.sighs(0, 2), 2 | 4);
    }

    // ---- SPREAD

    private static final String STAR = "slide a 8 0 0 0 1;hearer m front 16;hearer n front 1;likes n 0 0;hearer o front 1;likes o 0 0;"
        + "hearer p front 1;likes p 1 0;near m n;near o m;near m p;";

    static void spreadOf0IsNone() {
        LanternState x = Check.of(STAR + "spread 0;");
        Check.due("by themselves alone", x.sighs(0, 0), 6);
        Check.due("spreads", x.spreads(14), 14);
    }

    static void spreadIsNoneWithout() {
        Check.due("by themselves alone", Check.of(STAR).sighs(0, 0), 6);
    }

    static void spreadOfJustAsManyNear() {
        Check.due("two of two", Check.of(STAR + "spread 2;").sighs(0, 0), 7);
    }

    static void spreadOfOneMoreThanSighNear() {
        Check.due("two of three", Check.of(STAR + "spread 3;").sighs(0, 0), 6);
    }

    static void spreadGoesOnTillNobodyMoreDoes() {
        Check.due("by the one to the other", Check.of(STAR + "spread 1;").sighs(0, 0), 15);
    }

    static void spreadGoesAgainstTheNumbersToo() {
        LanternState x = Check.of("hearer m front 0;hearer n front 0;hearer o front 0;hearer p front 0;near m n;near n o;near o p;spread 1;");
        Check.due("from the last", x.spreads(8), 15);
        Check.due("from the first", x.spreads(1), 15);
    }

    static void spreadIsNotOverThoseNotNear() {
        LanternState x = Check.of("hearer m front 0;hearer n front 0;hearer o front 0;near m n;spread 1;");
        Check.due("from m", x.spreads(1), 3);
        Check.due("from o", x.spreads(4), 4);
    }

    static void spreadOfSevenNear() {
        String text = "hearer m front 0;hearer n front 0;hearer o front 0;hearer p front 0;hearer q front 0;hearer r front 0;hearer s front 0;"
            + "hearer t front 0;near m n;near m o;near m p;near m q;near m r;near m s;near m t;";
        Check.due("all seven", Check.of(text + "spread 7;").spreads(254), 255);
        Check.due("six of them", Check.of(text + "spread 7;").spreads(252), 252);
        Check.due("eight there can't be", Check.of(text + "spread 8;").spreads(254), 254);
    }

    static void spreadKeepsWhoSighsAlready() {
        LanternState x = Check.of("hearer m front 16;hearer n front 16;spread 8;near m n;");
        Check.due("who sighs goes on", x.spreads(1), 1);
    }

    // ---- SHOW

    static void showAtJustTheLampsHeat() {
        LanternState x = Check.of("slide a 0 0 0 0 20;lamp 20;hearer g front 0;");
        Check.due("20 of 20", x.show(0, 0), 1);
        Check.due("hot", x.now(1), 20);
        Check.due("not black", x.now(2), 0);
        Check.due("so", x.now(3), 1);
    }

    static void showAtOneMoreThanTheLamp() {
        LanternState x = Check.of("slide a 0 0 0 0 20;lamp 19;hearer g front 0;");
        Check.due("20 of 19", x.show(0, 0), IT_CRACKED);
        Check.due("its heat stays in the lamp", x.now(1), 20);
        Check.due("black", x.now(2), 1);
        Check.due("not so", x.now(3), 0);
        Check.due("cracked", x.now(4), 1);
        Check.due("nobody sighed", x.now(6), 0);
        Check.due("nobody, one by one", x.hearer(0, 4), 0);
        Check.due("shown all the same", x.slide(0, 8), 1);
    }

    static void showCrackedComesAheadOfAllElse() {
        LanternState x = Check.of("slide a 0 0 0 0 1;slide b 0 0 0 0 20;after b a;pass 0;lamp 20;");
        x.show(0, 0);
        Check.due("it cracks", x.show(1, 0), IT_CRACKED);
        Check.due("cracked and black", x.show(1, 0), CRACKED);
    }

    static void showBehindOneNotSoComesAheadOfBlack() {
        LanternState x = Check.of("slide a 0 0 0 0 20;slide b 0 0 0 0 1;after b a;lamp 1;");
        x.show(0, 0);
        Check.due("waiting and black", x.show(1, 0), BEHIND_ONE_NOT_SO);
        x.hours(4);
        Check.due("waiting for a cracked one", x.show(1, 0), BEHIND_ONE_NOT_SO);
    }

    static void showWhenBlackIsRefused() {
        LanternState x = Check.of("slide a 0 0 0 0 20;slide b 0 0 0 0 1;lamp 1;pass 0;");
        x.show(0, 0);
        Check.due("black", x.show(1, 0), BLACK);
        Check.due("hot as it was", x.now(1), 20);
        Check.due("not shown", x.slide(1, 8), 0);
        Check.due("not so", x.now(3), 0);
    }

    static void showBehindOneShownButNotSoIsRefused() {
        LanternState x = Check.of("slide a 0 0 0 0 1;slide b 0 0 0 0 1;after b a;hearer g front 1;likes g 0 0;");
        Check.due("a does not pass", x.show(0, 0), 0);
        Check.due("b waits", x.show(1, 0), BEHIND_ONE_NOT_SO);
        x.scratch(0, 0, 0);
        Check.due("a passes", x.show(0, 0), 1);
        Check.due("b is shown", x.show(1, 0), 0);
    }

    static void showInARingIsRefusedForEver() {
        LanternState x = Check.of("slide a 0 0 0 0 1;slide b 0 0 0 0 1;after b a;after a b;pass 0;");
        Check.due("a", x.show(0, 0), BEHIND_ONE_NOT_SO);
        Check.due("b", x.show(1, 0), BEHIND_ONE_NOT_SO);
        Check.due("both", x.over(0, 1), BEHIND_ONE_NOT_SO);
    }

    static void showPassesByJustAsMany() {
        String cast = "slide a 8 0 0 0 1;hearer g front 1;likes g 0 0;hearer h front 1;likes h 0 0;hearer k front 1;likes k 1 1;";
        LanternState two = Check.of(cast + "pass 2;");
        Check.due("two of two", two.show(0, 0), 2);
        Check.due("so", two.now(3), 1);
        LanternState three = Check.of(cast + "pass 3;");
        Check.due("two of three", three.show(0, 0), 2);
        Check.due("not so", three.now(3), 0);
    }

    static void showPassesByThoseToWhomItSpreads() {
        LanternState x = Check.of(STAR + "spread 1;pass 4;");
        Check.due("four", x.show(0, 0), 4);
        Check.due("so", x.now(3), 1);
        Check.due("each sighed once", x.hearer(0, 4) + x.hearer(1, 4) + x.hearer(2, 4) + x.hearer(3, 4), 4);
    }

    static void showWithPass0NeedsNobody() {
        LanternState x = Check.of("slide a 0 0 0 0 1;pass 0;");
        Check.due("nobody", x.show(0, 0), 0);
        Check.due("so", x.slide(0, 6), 1);
    }

    static void showWithPassAboveAllHearersNeverPasses() {
        LanternState x = Check.of("slide a 0 0 0 0 1;pass 2;hearer g front 0;");
        Check.due("all of one", x.show(0, 0), 1);
        Check.due("not so", x.slide(0, 6), 0);
    }

    static void showWithoutHearersDoesNotPass() {
        LanternState x = Check.of("slide a 15 15 15 15 1;");
        Check.due("nobody", x.show(0, 0), 0);
        Check.due("not so", x.slide(0, 6), 0);
    }

    static void showOfASoOneThatFailsLeavesItSo() {
        LanternState x = Check.of("slide a 8 0 0 0 1;hearer g front 1;likes g 0 0;");
        Check.due("passes", x.show(0, 0), 1);
        Check.due("upside down", x.show(0, 1), 0);
        Check.due("so from then on", x.slide(0, 6), 1);
    }

    static void showOfASoOneMayCrackIt() {
        LanternState x = Check.of("slide a 8 0 0 0 20;hearer g front 0;lamp 39;slide b 0 0 0 0 1;after b a;");
        Check.due("passes", x.show(0, 0), 1);
        Check.due("cracks", x.show(0, 0), IT_CRACKED);
        Check.due("so", x.slide(0, 6), 1);
        Check.due("cracked", x.slide(0, 7), 1);
        x.hours(8);
        Check.due("one behind it may be shown", x.show(1, 0), 1);
    }

    static void showByEachWay() {
        String cast = "slide a 8 0 0 0 1;hearer g front 1;likes g 0 0;hearer h front 1;likes h 3 0;hearer k front 1;likes k 0 3;hearer l front 1;likes l 3 3;";
        int[] due = {0, 3, 1, 2};
        for (int way = 0; way < 4; way++) {
            LanternState x = Check.of(cast);
            Check.due("one", x.show(0, way), 1);
            for (int h = 0; h < 4; h++) {
                Check.due("way " + way + ", hearer " + h, x.hearer(h, 4), h == due[way] ? 1 : 0);
            }
        }
    }

    // ---- OVER

    private static final String PAIR = "slide a 8 0 0 0 20;slide b 1 0 0 0 19;hearer g front 2;likes g 0 0;likes g 3 0;";

    static void overItselfIsRefused() {
        Check.due("itself", Check.of(PAIR).over(1, 1), CRACKED);
    }

    static void overItselfComesAheadOfAllElse() {
        LanternState x = Check.of("slide a 0 0 0 0 20;slide b 0 0 0 0 1;after b a;lamp 1;");
        Check.due("itself, behind one not so", x.over(1, 1), CRACKED);
        x.show(0, 0);
        Check.due("itself, black", x.over(1, 1), CRACKED);
    }

    static void overOfLikePicturesIsShown() {
        LanternState x = Check.of("slide a 8 0 0 0 1;slide b 8 0 0 0 1;hearer g front 1;likes g 0 0;");
        Check.due("like pictures", x.over(0, 1), 1);
        Check.due("both so", x.now(3), 3);
    }

    static void overACrackedOneIsRefusedEitherWay() {
        LanternState x = Check.of("slide a 0 0 0 0 20;slide b 0 0 0 0 1;slide c 0 0 0 0 1;after b c;lamp 1;");
        x.show(0, 0);
        Check.due("cracked, waiting, black", x.over(0, 1), CRACKED);
        Check.due("waiting, cracked, black", x.over(1, 0), CRACKED);
    }

    static void overOneThatWaitsIsRefusedEitherWay() {
        LanternState x = Check.of("slide a 0 0 0 0 20;slide b 0 0 0 0 1;slide c 0 0 0 0 1;slide d 0 0 0 0 1;after b c;lamp 1;");
        Check.due("the first waits", x.over(1, 3), BEHIND_ONE_NOT_SO);
        Check.due("the second waits", x.over(3, 1), BEHIND_ONE_NOT_SO);
        Check.due("one waits for the other", x.over(2, 1), BEHIND_ONE_NOT_SO);
        x.show(0, 0);
        Check.due("waits and black", x.over(3, 1), BEHIND_ONE_NOT_SO);
    }

    static void overWhenBlackIsRefused() {
        LanternState x = Check.of("slide a 0 0 0 0 20;slide b 0 0 0 0 1;slide c 0 0 0 0 1;lamp 1;");
        x.show(0, 0);
        Check.due("black", x.over(1, 2), BLACK);
        Check.due("b is not shown", x.slide(1, 8), 0);
        Check.due("c is not shown", x.slide(2, 8), 0);
        Check.due("no hotter", x.now(1), 20);
    }

    static void overAtJustTheLampsHeat() {
        LanternState x = Check.of(PAIR + "lamp 39;");
        Check.due("39 of 39", x.over(1, 0), 1);
        Check.due("both so", x.now(3), 3);
        Check.due("hot", x.now(1), 39);
        Check.due("a shown", x.slide(0, 8), 1);
        Check.due("b shown", x.slide(1, 8), 1);
        Check.due("one sigh, not two", x.now(6), 1);
    }

    static void overAtOneMoreThanTheLamp() {
        LanternState x = Check.of(PAIR + "lamp 38;");
        Check.due("39 of 38", x.over(0, 1), IT_CRACKED);
        Check.due("both cracked", x.now(4), 3);
        Check.due("none so", x.now(3), 0);
        Check.due("black", x.now(2), 1);
        Check.due("hot", x.now(1), 39);
        Check.due("a shown", x.slide(0, 8), 1);
        Check.due("b shown", x.slide(1, 8), 1);
        Check.due("nobody sighed", x.now(6), 0);
    }

    static void overThatFailsPassesNeither() {
        LanternState x = Check.of(PAIR + "pass 2;");
        Check.due("one of two", x.over(0, 1), 1);
        Check.due("none so", x.now(3), 0);
    }

    static void overACellLightInBothIsLight() {
        LanternState x = Check.of("slide a 8 0 0 0 1;slide b 12 0 0 0 1;hearer g front 2;likes g 0 0;likes g 1 0;");
        Check.due("light in both, in one", x.over(0, 1), 1);
    }

    static void overLeavesThePicturesAlone() {
        LanternState x = Check.of(PAIR);
        x.over(0, 1);
        Check.due("a", x.slide(0, 0), 8);
        Check.due("b", x.slide(1, 0), 1);
    }

    // ---- SCRATCH

    static void scratchTurnsDarkLightAndLightDark() {
        for (int cell = 0; cell < 16; cell++) {
            LanternState x = Check.of("slide a 0 0 0 0 1;slide b 15 15 15 15 1;");
            Check.due("dark", x.scratch(0, cell % 4, cell / 4), 0);
            Check.due("light", x.scratch(1, cell % 4, cell / 4), 0);
            Check.due("light now", x.slide(0, cell / 4), 8 >> cell % 4);
            Check.due("dark now", x.slide(1, cell / 4), 15 - (8 >> cell % 4));
            Check.due("one light cell", x.slide(0, 9), 1);
            Check.due("one dark cell", x.slide(1, 9), 15);
        }
    }

    static void scratchTwiceIsAsBefore() {
        LanternState x = Check.of("slide a 5 0 0 0 1;");
        x.scratch(0, 2, 0);
        x.scratch(0, 2, 0);
        Check.due("as it was", x.slide(0, 0), 5);
    }

    static void scratchOfACrackedOneIsRefused() {
        LanternState x = Check.of("slide a 5 0 0 0 20;lamp 1;");
        x.show(0, 0);
        Check.due("cracked", x.scratch(0, 0, 0), 1);
        Check.due("as it was", x.slide(0, 0), 5);
    }

    static void scratchNeitherWaitsNorMindsTheDark() {
        LanternState x = Check.of("slide a 0 0 0 0 20;slide b 0 0 0 0 1;after b a;lamp 1;");
        x.show(0, 0);
        Check.due("waiting, black", x.scratch(1, 0, 0), 0);
        Check.due("its row", x.slide(1, 0), 8);
    }

    static void scratchLeavesWhatIsSo() {
        LanternState x = Check.of("slide a 8 0 0 0 1;hearer g front 1;likes g 0 0;");
        x.show(0, 0);
        x.scratch(0, 0, 0);
        Check.due("so", x.slide(0, 6), 1);
        Check.due("but nobody would sigh", x.sighs(0, 0), 0);
    }

    // ---- SIT

    static void sitAsHeSitsIsRefused() {
        LanternState x = Check.of("hearer g front 0;hearer h behind 0;");
        Check.due("in front", x.sit(0, 0), 1);
        Check.due("behind", x.sit(1, 1), 1);
        Check.due("all as it was", x.now(5), 2);
    }

    static void sitTheOtherWay() {
        LanternState x = Check.of("hearer g front 0;hearer h behind 0;");
        Check.due("g", x.sit(0, 1), 0);
        Check.due("h", x.sit(1, 0), 0);
        Check.due("changed", x.now(5), 1);
        Check.due("again", x.sit(0, 1), 1);
    }

    // ---- HOUR

    static void hourMakesTheLampFiveLessHot() {
        LanternState x = Check.of("slide a 0 0 0 0 12;");
        x.show(0, 0);
        int[] due = {7, 2, 0, 0};
        for (int i = 0; i < due.length; i++) {
            x.hours(1);
            Check.due("behind " + (i + 1), x.now(1), due[i]);
        }
    }

    static void hourOfALampOfJustFive() {
        LanternState x = Check.of("slide a 0 0 0 0 5;lamp 4;");
        x.show(0, 0);
        Check.due("black", x.now(2), 1);
        x.hours(1);
        Check.due("cold", x.now(1), 0);
        Check.due("black no more", x.now(2), 0);
    }

    static void hourOfALampOfSixLeavesItBlack() {
        LanternState x = Check.of("slide a 0 0 0 0 6;lamp 5;");
        x.show(0, 0);
        x.hours(1);
        Check.due("one", x.now(1), 1);
        Check.due("black still", x.now(2), 1);
        x.hours(1);
        Check.due("black no more", x.now(2), 0);
    }

    static void hourBelowTheLampsHeatIsStillBlack() {
        LanternState x = Check.of("slide a 0 0 0 0 20;slide b 0 0 0 0 1;lamp 19;");
        x.show(0, 0);
        x.hours(3);
        Check.due("5 of 19", x.now(1), 5);
        Check.due("black still", x.show(1, 0), BLACK);
    }

    private static LanternState atHour(int hour, String text) {
        LanternState x = Check.of(text);
        while (x.now(0) < hour) {
            x.hours(Math.min(24, hour - x.now(0)));
        }
        return x;
    }

    static void hour399IsTheLastOne() {
        LanternState x = atHour(399, "");
        Check.due("one is left", x.hours(1), 1);
        Check.due("all are over", x.now(0), 400);
    }

    static void hour400DoesNotGo() {
        LanternState x = atHour(400, "slide a 0 0 0 0 5;lamp 4;");
        Check.due("none is left", x.hours(1), 0);
        Check.due("it stays", x.now(0), 400);
        Check.due("it may crack", x.show(0, 0), IT_CRACKED);
        Check.due("none goes", x.hours(24), 0);
        Check.due("hot for ever", x.now(1), 5);
        Check.due("black for ever", x.now(2), 1);
    }

    static void hoursStopAt400() {
        LanternState x = atHour(380, "");
        Check.due("twenty are left", x.hours(24), 20);
        Check.due("all are over", x.now(0), 400);
    }

    static void hour400AllowsActs() {
        LanternState x = atHour(400, "slide a 8 0 0 0 1;slide b 0 0 0 0 1;hearer g front 1;likes g 0 0;");
        Check.due("show", x.show(0, 0), 1);
        Check.due("over", x.over(0, 1), 1);
        Check.due("scratch", x.scratch(0, 0, 0), 0);
        Check.due("sit", x.sit(0, 1), 0);
    }

    // ---- A new SESSION

    static void newSessionBeginsAnew() {
        LanternState x = Check.of("slide a 8 0 0 0 20;slide b 0 0 0 0 20;hearer g front 0;lamp 39;");
        x.show(0, 0);
        x.show(1, 0);
        x.hours(2);
        x.sit(0, 1);
        Check.sentence(x, "so");
        Check.due("nothing told", Check.session(x, ""), 0);
        for (int what = 0; what < 7; what++) {
            Check.due("now(" + what + ")", x.now(what), 0);
        }
        Check.due("no SENTENCE", x.said(-1), -1);
        Check.due("no acts", x.undo(), -1);
    }

    static void newSessionForgetsWhoSatBehind() {
        LanternState x = Check.of("hearer g behind 0;hearer h behind 0;");
        Check.due("in front", Check.session(x, "hearer g front 0;hearer h front 0;"), 2);
        Check.due("nobody behind", x.now(5), 0);
        Check.due("one", Check.session(x, "hearer h behind 0;"), 1);
        Check.due("one behind", x.now(5), 1);
        Check.due("refused behind him", Check.session(x, "hearer g front 0;hearer h behind 17;"), -1 - 33);
        Check.due("one again", Check.session(x, "hearer g front 0;hearer h front 0;"), 2);
        Check.due("nobody again", x.now(5), 0);
    }

    static void newSessionForgetsLikesHatesAndNear() {
        LanternState x = Check.of("hearer g front 0;hearer h front 0;likes g 0 0;hates g 1 1;near g h;spread 1;");
        Check.session(x, "hearer g front 0;hearer h front 0;spread 1;");
        Check.due("likes", x.hearer(0, 2), 0);
        Check.due("hates", x.hearer(0, 3), 0);
        Check.due("near", x.hearer(0, 5) | x.hearer(1, 5), 0);
        Check.due("spreads", x.spreads(1), 1);
    }

    static void newSessionOfTheSameTextBeginsAnew() {
        String text = "slide a 8 0 0 0 20;hearer g front 0;lamp 20;";
        LanternState x = Check.of(text);
        x.show(0, 0);
        x.scratch(0, 3, 3);
        x.show(0, 0);
        Check.due("the same again", Check.session(x, text), 3);
        int[] due = {8, 0, 0, 0, 20, -1, 0, 0, 0, 1};
        for (int what = 0; what < due.length; what++) {
            Check.due("slide(0, " + what + ")", x.slide(0, what), due[what]);
        }
        Check.due("sighed", x.hearer(0, 4), 0);
        Check.due("it may be shown", x.show(0, 0), 1);
    }
}
