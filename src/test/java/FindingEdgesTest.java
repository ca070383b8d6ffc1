/** The edges of "==== 3": ORDER, MOVED, SCRATCHED, SEEN, PARTS, BILL and DRAWN, each a test of its own. */
public final class FindingEdgesTest {
    /** Sighs for whatever has its first cell light. */
    private static final String CORNER = "hearer g front 1;likes g 0 0;";
    private static final int IT_CRACKED = -5;

    public static void main(String[] args) throws IllegalAccessException {
        Check.runAll(FindingEdgesTest.class);
    }

    private static void order(LanternState x, int passed, int... slides) {
        Check.due("order()", x.order(), passed);
        for (int k = 0; k < slides.length; k++) {
            Check.due("orderAt(" + k + ")", x.orderAt(k), slides[k]);
        }
        Check.due("orderAt(" + slides.length + ")", x.orderAt(slides.length), -1);
    }

    private static void moved(LanternState x, int s, int way, int many, int who) {
        Check.due("moved(" + s + ", " + way + ")", x.moved(s, way), many);
        Check.due("movedWho()", x.movedWho(), who);
    }

    private static void scratched(LanternState x, int s, int many, int which) {
        Check.due("scratches(" + s + ")", x.scratches(s), many);
        Check.due("scratched()", x.scratched(), which);
    }

    // ---- ORDER

    static void orderOfNoSlides() {
        order(new LanternState(), 0);
    }

    static void orderOfOneThatPasses() {
        order(Check.of("slide a 8 0 0 0 1;" + CORNER), 1, 0);
    }

    static void orderOfOneThatDoesNotPassHasIt() {
        order(Check.of("slide a 0 0 0 0 1;" + CORNER), 0, 0);
    }

    static void orderOfOneThatCracksHasIt() {
        order(Check.of("slide a 8 0 0 0 20;lamp 19;" + CORNER), 0, 0);
    }

    static void orderOfSix() {
        order(Check.of("slide a 8 0 0 0 1;slide b 0 0 0 0 1;slide c 8 0 0 0 1;slide d 0 0 0 0 1;slide e 8 0 0 0 1;slide f 8 0 0 0 1;" + CORNER),
            4, 0, 1, 2, 3, 4, 5);
    }

    static void orderOfSixBehindEachOther() {
        order(Check.of("slide a 8 0 0 0 1;slide b 8 0 0 0 1;slide c 8 0 0 0 1;slide d 8 0 0 0 1;slide e 8 0 0 0 1;slide f 8 0 0 0 1;"
            + "after a b;after b c;after c d;after d e;after e f;" + CORNER), 6, 5, 4, 3, 2, 1, 0);
    }

    static void orderLeavesOutWhatIsSo() {
        LanternState x = Check.of("slide a 8 0 0 0 1;slide b 8 0 0 0 1;" + CORNER);
        x.show(0, 0);
        order(x, 1, 1);
        x.show(1, 0);
        order(x, 0);
    }

    static void orderLeavesOutWhatIsCracked() {
        LanternState x = Check.of("slide a 8 0 0 0 20;slide b 8 0 0 0 1;lamp 19;" + CORNER);
        Check.due("a cracks", x.show(0, 0), IT_CRACKED);
        x.hours(4);
        order(x, 1, 1);
    }

    static void orderWhenBlackIsEmpty() {
        LanternState x = Check.of("slide a 8 0 0 0 20;slide b 8 0 0 0 1;lamp 19;" + CORNER);
        x.show(0, 0);
        order(x, 0);
    }

    static void orderAtJustTheLampsHeat() {
        order(Check.of("slide a 8 0 0 0 20;slide b 8 0 0 0 20;lamp 40;" + CORNER), 2, 0, 1);
    }

    static void orderAtOneMoreThanTheLampEndsWithTheOneThatCracks() {
        order(Check.of("slide a 8 0 0 0 20;slide b 8 0 0 0 20;slide c 8 0 0 0 20;lamp 39;" + CORNER), 1, 0, 1);
    }

    static void orderHasThoseThatDidNotPassAheadOfTheOneThatCracks() {
        order(Check.of("slide a 0 0 0 0 1;slide b 8 0 0 0 10;slide c 8 0 0 0 20;lamp 20;" + CORNER), 1, 0, 1, 2);
    }

    static void orderBeginsAtTheLampsHeat() {
        LanternState x = Check.of("slide a 0 0 0 0 10;slide b 8 0 0 0 10;slide c 8 0 0 0 10;lamp 29;" + CORNER);
        Check.due("a does not pass", x.show(0, 0), 0);
        order(x, 1, 1, 0);
        x.hours(1);
        // 5 and three tens are more than 29, two are not
        order(x, 2, 1, 2, 0);
    }

    static void orderOfLikeOnesIsTheOneWithTheLeastAhead() {
        // whichever two pass, the third cracks
        order(Check.of("slide a 8 0 0 0 10;slide b 8 0 0 0 10;slide c 8 0 0 0 10;lamp 20;" + CORNER), 2, 0, 1, 2);
    }

    static void orderPutsOneThatDoesNotPassAheadIfThatCostsNothing() {
        order(Check.of("slide a 0 0 0 0 1;slide b 8 0 0 0 1;" + CORNER), 1, 0, 1);
    }

    static void orderPutsOneThatDoesNotPassLastIfItWouldCost() {
        order(Check.of("slide a 0 0 0 0 10;slide b 8 0 0 0 10;slide c 8 0 0 0 10;lamp 20;" + CORNER), 2, 1, 2, 0);
    }

    static void orderHoldsMorePassingAboveTheLeastAhead() {
        order(Check.of("slide a 8 0 0 0 20;slide b 8 0 0 0 10;slide c 8 0 0 0 10;lamp 20;" + CORNER), 2, 1, 2, 0);
    }

    static void orderEndsWhereAllLeftWaitForOneThatFailed() {
        order(Check.of("slide a 8 0 0 0 1;slide b 0 0 0 0 1;after a b;" + CORNER), 0, 1);
    }

    static void orderShowsOneBehindASoOne() {
        LanternState x = Check.of("slide a 8 0 0 0 1;slide b 8 0 0 0 1;after a b;" + CORNER);
        Check.due("b passes", x.show(1, 0), 1);
        order(x, 1, 0);
    }

    static void orderOfARingIsEmpty() {
        order(Check.of("slide a 8 0 0 0 1;slide b 8 0 0 0 1;after a b;after b a;" + CORNER), 0);
    }

    static void orderWithPass0() {
        order(Check.of("slide a 0 0 0 0 1;slide b 0 0 0 0 1;after a b;pass 0;"), 2, 1, 0);
    }

    static void orderLooksAtWay0Alone() {
        order(Check.of("slide a 1 0 0 0 1;" + CORNER), 0, 0);
    }

    static void orderLooksAtScratchesAndSeats() {
        LanternState x = Check.of("slide a 1 0 0 0 1;" + CORNER);
        x.sit(0, 1);
        order(x, 1, 0);
        x.scratch(0, 3, 0);
        order(x, 0, 0);
    }

    static void orderChangesNothing() {
        LanternState x = Check.of("slide a 8 0 0 0 20;slide b 8 0 0 0 20;slide c 8 0 0 0 20;" + CORNER);
        order(x, 2, 0, 1, 2);
        for (int what = 0; what < 7; what++) {
            Check.due("now(" + what + ")", x.now(what), 0);
        }
        Check.due("nothing to undo", x.undo(), -1);
    }

    // ---- MOVED

    static void movedOfEnoughIsNobody() {
        moved(Check.of("slide a 8 0 0 0 1;" + CORNER), 0, 0, 0, 0);
    }

    static void movedWithPass0IsNobody() {
        moved(Check.of("slide a 0 0 0 0 1;pass 0;"), 0, 0, 0, 0);
        moved(Check.of("slide a 0 0 0 0 1;pass 0;" + CORNER), 0, 0, 0, 0);
    }

    static void movedOfAllEight() {
        StringBuilder text = new StringBuilder("slide a 8 0 0 0 1;pass 8;");
        for (char c = 'k'; c < 's'; c++) {
            text.append("hearer ").append(c).append(" front 1;likes ").append(c).append(" 3 0;");
        }
        moved(Check.of(text.toString()), 0, 0, 8, 255);
    }

    static void movedFromBehindToTheFront() {
        moved(Check.of("slide a 8 0 0 0 1;hearer g behind 1;likes g 0 0;"), 0, 0, 1, 1);
    }

    static void movedOfLikeOnesIsTheLeast() {
        moved(Check.of("slide a 8 0 0 0 1;hearer g front 1;likes g 1 1;hearer h front 1;likes h 3 0;hearer k front 1;likes k 3 0;"), 0, 0, 1, 2);
    }

    static void movedFewerComeAheadOfLesser() {
        // g and h together, or l alone, to whom m is near
        moved(Check.of("slide a 8 0 0 0 1;hearer g front 1;likes g 3 0;hearer h front 1;likes h 3 0;hearer l front 1;likes l 3 0;"
            + "hearer m front 16;near l m;pass 2;spread 1;"), 0, 0, 1, 4);
    }

    static void movedKeepsOneWhoWouldNoMoreSigh() {
        // g sighs where he sits; h must move, not g
        moved(Check.of("slide a 8 0 0 0 1;hearer g front 1;likes g 0 0;hearer h front 1;likes h 3 0;pass 2;"), 0, 0, 1, 2);
    }

    static void movedByNoneIsNone() {
        LanternState x = Check.of("slide a 8 0 0 0 1;hearer g front 1;likes g 1 1;");
        Check.due("moved", x.moved(0, 0), -1);
        Check.due("movedWho", x.movedWho(), -1);
    }

    static void movedOfMoreThanThereAreIsNone() {
        Check.due("two of one", Check.of("slide a 8 0 0 0 1;pass 2;" + CORNER).moved(0, 0), -1);
        Check.due("one of none", Check.of("slide a 8 0 0 0 1;").moved(0, 0), -1);
    }

    static void movedByEachWay() {
        LanternState x = Check.of("slide a 8 0 0 0 1;" + CORNER);
        moved(x, 0, 0, 0, 0);
        moved(x, 0, 2, 1, 1);
        Check.due("upside down", x.moved(0, 1), -1);
        Check.due("turned over", x.moved(0, 3), -1);
    }

    static void movedOfACrackedOneWhenBlack() {
        LanternState x = Check.of("slide a 8 0 0 0 20;lamp 1;hearer g behind 1;likes g 0 0;");
        x.show(0, 0);
        moved(x, 0, 0, 1, 1);
    }

    // ---- SCRATCHED

    static void scratchedOfEnoughIsNoCell() {
        scratched(Check.of("slide a 8 0 0 0 1;" + CORNER), 0, 0, 0);
    }

    static void scratchedWithPass0IsNoCell() {
        scratched(Check.of("slide a 0 0 0 0 1;pass 0;"), 0, 0, 0);
    }

    static void scratchedByFour() {
        scratched(Check.of("slide a 0 0 0 0 1;hearer g front 4;likes g 0 0;likes g 3 0;likes g 0 3;likes g 3 3;"), 0, 4, 1 | 8 | 1 << 12 | 1 << 15);
    }

    static void scratchedByFiveIsNone() {
        LanternState x = Check.of("slide a 0 0 0 0 1;hearer g front 5;likes g 0 0;likes g 3 0;likes g 0 3;likes g 3 3;likes g 1 1;");
        Check.due("scratches", x.scratches(0), -1);
        Check.due("scratched", x.scratched(), -1);
    }

    static void scratchedWithoutHearersIsNone() {
        Check.due("scratches", Check.of("slide a 0 0 0 0 1;").scratches(0), -1);
    }

    static void scratchedCellIsFourByYAndX() {
        for (int cell = 0; cell < 16; cell++) {
            LanternState x = Check.of("slide a 0 0 0 0 1;hearer g front 1;likes g " + cell % 4 + " " + cell / 4 + ";");
            scratched(x, 0, 1, 1 << cell);
        }
    }

    static void scratchedOfWhoSitsBehind() {
        for (int cell = 0; cell < 16; cell++) {
            LanternState x = Check.of("slide a 0 0 0 0 1;hearer g behind 1;likes g " + cell % 4 + " " + cell / 4 + ";");
            scratched(x, 0, 1, 1 << cell / 4 * 4 + 3 - cell % 4);
        }
    }

    static void scratchedMakesHatedCellsDark() {
        scratched(Check.of("slide a 15 15 15 15 1;hearer g front 0;hates g 2 1;hates g 0 3;"), 0, 2, 1 << 6 | 1 << 12);
    }

    static void scratchedOfLikeOnesIsTheLeast() {
        // two of these three: 3 with 9 is less than 3 with 12 and 9 with 12
        scratched(Check.of("slide a 0 0 0 0 1;hearer g front 2;likes g 3 0;likes g 1 2;likes g 0 3;"), 0, 2, 1 << 3 | 1 << 9);
    }

    static void scratchedFewerComeAheadOfLesser() {
        // cells 0 and 1 together for g, or 15 alone for h
        scratched(Check.of("slide a 0 0 0 0 1;hearer g front 2;likes g 0 0;likes g 1 0;hearer h front 1;likes h 3 3;"), 0, 1, 1 << 15);
    }

    static void scratchedHelpsManyAtOnce() {
        scratched(Check.of("slide a 0 0 0 0 1;hearer g front 1;likes g 0 0;likes g 3 3;hearer h front 1;likes h 1 0;likes h 3 3;pass 2;"),
            0, 1, 1 << 15);
    }

    static void scratchedSpreads() {
        scratched(Check.of("slide a 0 0 0 0 1;hearer g front 1;likes g 2 2;hearer h front 16;near h g;spread 1;pass 2;"), 0, 1, 1 << 10);
    }

    static void scratchedOfACrackedOneWhenBlack() {
        LanternState x = Check.of("slide a 0 0 0 0 20;lamp 1;" + CORNER);
        x.show(0, 0);
        scratched(x, 0, 1, 1);
        Check.due("as it was", x.slide(0, 9), 0);
    }

    // ---- SEEN

    private static final String TWO = "slide a 8 0 0 0 20;slide b 0 6 6 0 1;lamp 19;";

    static void seenOfNothingKnownIsAll() {
        Check.due("all", Check.seen(Check.of(TWO), 0, 0, 0, 0, 0, 0, 0, 0), 3);
    }

    static void seenOfNoSlidesIsNone() {
        Check.due("no bits", Check.seen(new LanternState(), 15, 15, 15, 15, 0, 0, 0, 0), 0);
    }

    static void seenByEachWay() {
        LanternState x = Check.of(TWO);
        Check.due("as it is", Check.seen(x, 15, 15, 15, 15, 8, 0, 0, 0), 1);
        Check.due("upside down", Check.seen(x, 15, 15, 15, 15, 0, 0, 0, 1), 1);
        Check.due("mirrored", Check.seen(x, 15, 15, 15, 15, 1, 0, 0, 0), 1);
        Check.due("turned over", Check.seen(x, 15, 15, 15, 15, 0, 0, 0, 8), 1);
        Check.due("by none", Check.seen(x, 15, 15, 15, 15, 4, 0, 0, 0), 0);
    }

    static void seenByOneWayNotByTwoTogether() {
        // one corner light by one WAY, another by another WAY
        Check.due("both corners", Check.seen(Check.of(TWO), 9, 0, 0, 0, 9, 0, 0, 0), 0);
    }

    static void seenKnownDarkCells() {
        LanternState x = Check.of(TWO);
        Check.due("dark in the middle", Check.seen(x, 0, 4, 0, 0, 0, 0, 0, 0), 1);
        Check.due("dark at all corners", Check.seen(x, 9, 0, 0, 9, 0, 0, 0, 0), 2);
    }

    static void seenACrackedOneToo() {
        LanternState x = Check.of(TWO);
        Check.due("a cracks", x.show(0, 0), IT_CRACKED);
        Check.due("a", Check.seen(x, 15, 15, 15, 15, 8, 0, 0, 0), 1);
    }

    static void seenScratchesToo() {
        LanternState x = Check.of(TWO);
        x.scratch(0, 0, 0);
        x.scratch(0, 1, 0);
        Check.due("a", Check.seen(x, 15, 15, 15, 15, 0, 0, 0, 2), 1);
    }

    static void seenOf15Each() {
        Check.due("all light", Check.seen(Check.of("slide a 15 15 15 15 1;"), 15, 15, 15, 15, 15, 15, 15, 15), 1);
    }

    static void seenOf16IsNotAsTold() {
        for (int i = 0; i < 8; i++) {
            int[] rows = {15, 15, 15, 15, 0, 0, 0, 0};
            rows[i] = 16;
            LanternState x = Check.of(TWO);
            Check.due("16 at byte " + i, Check.seen(x, rows), -1);
            Check.due("the tape is empty", x.count(6), 0);
            rows[i] = 128 + 8;
            Check.due("136 at byte " + i, Check.seen(x, rows), -1);
        }
    }

    static void seenLightButNotKnownIsNotAsTold() {
        for (int cell = 0; cell < 16; cell++) {
            int[] rows = {15, 15, 15, 15, 0, 0, 0, 0};
            rows[cell / 4] -= 1 << cell % 4;
            rows[4 + cell / 4] = 1 << cell % 4;
            Check.due("cell " + cell, Check.seen(Check.of(TWO), rows), -1);
        }
    }

    static void seenOf7Or9BytesIsNotAsTold() {
        LanternState x = Check.of(TWO);
        Check.due("no byte", x.seen(), -1);
        Check.due("7", Check.seen(x, 0, 0, 0, 0, 0, 0, 0), -1);
        Check.due("9", Check.seen(x, 0, 0, 0, 0, 0, 0, 0, 0, 0), -1);
        Check.due("the tape is empty", x.count(6), 0);
    }

    // ---- PARTS

    static void partsOfNoSlidesIsNone() {
        Check.due("parts", Check.of(CORNER).parts(), -1);
    }

    static void partsOfAllCrackedIsNone() {
        LanternState x = Check.of("slide a 0 0 0 0 20;lamp 1;");
        Check.due("one", x.parts(), 0);
        x.show(0, 0);
        Check.due("none", x.parts(), -1);
    }

    static void partsWithoutHearersIsTheFirst() {
        Check.due("parts", Check.of("slide a 0 0 0 0 1;slide b 8 0 0 0 1;").parts(), 0);
    }

    private static final String FOUR = "hearer k front 1;likes k 0 0;hearer l front 1;likes l 1 0;hearer m front 1;likes m 2 0;hearer n front 1;likes n 3 0;";

    static void partsByHalf() {
        Check.due("two of four", Check.of("slide a 8 0 0 0 1;slide b 14 0 0 0 1;slide c 6 0 0 0 1;slide d 12 0 0 0 1;" + FOUR).parts(), 2);
    }

    static void partsOfLikeOnesTheFirst() {
        // one of four and three of four part them as nearly
        Check.due("fewer first", Check.of("slide a 0 0 0 0 1;slide b 8 0 0 0 1;slide c 14 0 0 0 1;" + FOUR).parts(), 1);
        Check.due("more first", Check.of("slide a 15 0 0 0 1;slide b 14 0 0 0 1;slide c 8 0 0 0 1;" + FOUR).parts(), 1);
    }

    static void partsOfAllOrNobody() {
        Check.due("nobody first", Check.of("slide a 0 0 0 0 1;slide b 15 0 0 0 1;" + FOUR).parts(), 0);
        Check.due("all first", Check.of("slide a 15 0 0 0 1;slide b 0 0 0 0 1;" + FOUR).parts(), 0);
    }

    static void partsLeavesOutCrackedOnesAlone() {
        LanternState x = Check.of("slide a 12 0 0 0 20;slide b 0 0 0 0 1;slide c 8 0 0 0 1;lamp 19;" + FOUR);
        Check.due("a", x.parts(), 0);
        Check.due("it cracks", x.show(0, 0), IT_CRACKED);
        Check.due("c", x.parts(), 2);
    }

    static void partsSoOnesToo() {
        LanternState x = Check.of("slide a 12 0 0 0 1;slide b 0 0 0 0 1;" + FOUR);
        Check.due("it passes", x.show(0, 0), 2);
        Check.due("a", x.parts(), 0);
    }

    static void partsByWay0() {
        // by WAY 2 a would part them by half
        Check.due("b", Check.of("slide a 3 0 0 0 1;slide b 8 0 0 0 1;hearer k front 1;likes k 0 0;hearer l front 1;likes l 1 1;").parts(), 1);
    }

    // ---- BILL

    static void billOfASoOne() {
        LanternState x = Check.of("slide a 0 0 0 0 1;pass 0;");
        x.show(0, 0);
        Check.dueText("bill", Check.bill(x, 0), "a is so");
    }

    static void billOfACrackedOne() {
        LanternState x = Check.of("slide a 0 0 0 0 20;lamp 1;");
        x.show(0, 0);
        Check.dueText("bill", Check.bill(x, 0), "a is cracked");
    }

    static void billOfASoOneThatCracked() {
        LanternState x = Check.of("slide a 0 0 0 0 20;lamp 20;pass 0;");
        x.show(0, 0);
        x.show(0, 0);
        Check.dueText("bill", Check.bill(x, 0), "a is so");
    }

    static void billOfACrackedOneThatWaits() {
        LanternState x = Check.of("slide a 0 0 0 0 1;slide b 0 0 0 0 20;after b a;hearer g front 0;lamp 20;");
        Check.due("a passes", x.show(0, 0), 1);
        Check.due("b cracks", x.show(1, 0), IT_CRACKED);
        Check.dueText("bill", Check.bill(x, 1), "b is cracked");
    }

    static void billOfOneNotSo() {
        Check.dueText("bill", Check.bill(Check.of("slide a 0 0 0 0 1;"), 0), "a is not so");
    }

    static void billOfOneBehindOneNotSo() {
        Check.dueText("bill", Check.bill(Check.of("slide a 0 0 0 0 1;slide b 0 0 0 0 1;after a b;"), 0), "a is not so for b");
    }

    static void billOfOneBehindASoOne() {
        LanternState x = Check.of("slide a 0 0 0 0 1;slide b 0 0 0 0 1;after b a;hearer g front 1;likes g 0 0;");
        x.scratch(0, 0, 0);
        x.show(0, 0);
        Check.dueText("bill", Check.bill(x, 1), "b is not so");
    }

    static void billOfOneBehindACrackedOne() {
        LanternState x = Check.of("slide a 0 0 0 0 20;slide b 0 0 0 0 1;after b a;lamp 1;");
        x.show(0, 0);
        Check.dueText("bill", Check.bill(x, 1), "b is not so for a");
    }

    static void billOfTheLongestNames() {
        LanternState x = Check.of("slide zzzzzzz 0 0 0 0 1;slide aaaaaaa 0 0 0 0 1;after zzzzzzz aaaaaaa;");
        Check.due("bytes", x.bill(0), 29);
        Check.dueText("bill", Check.bill(x, 0), "zzzzzzz is not so for aaaaaaa");
    }

    static void billOfARing() {
        LanternState x = Check.of("slide a 0 0 0 0 1;slide b 0 0 0 0 1;after a b;after b a;");
        Check.dueText("bill", Check.bill(x, 0), "a is not so for b");
        Check.dueText("bill", Check.bill(x, 1), "b is not so for a");
    }

    // ---- DRAWN

    private static int seed;

    private static int draw(int n) {
        seed = seed * 1103515245 + 12345;
        return (seed >>> 8) % n;
    }

    /** As the document tells it, act by act. */
    private static void liveDrawn(LanternState x, int hours, int first) {
        seed = first;
        for (int i = 0; i < hours; i++) {
            int s = draw(x.count(0));
            int way = draw(4);
            x.show(s, way);
            for (int h = 0; h < x.count(1); h++) {
                if (draw(12) == 0) {
                    x.sit(h, 1 - x.hearer(h, 0));
                }
            }
            x.hours(1);
        }
    }

    private static void likeDrawn(String text, int hours, int first) {
        LanternState x = Check.of(text);
        LanternState y = Check.of(text);
        Check.due("drawn(" + hours + ", " + first + ")", x.drawn(hours, first), hours);
        liveDrawn(y, hours, first);
        for (int what = 0; what < 7; what++) {
            Check.due("seed " + first + ": now(" + what + ")", x.now(what), y.now(what));
        }
        for (int s = 0; s < x.count(0); s++) {
            Check.due("seed " + first + ": shown " + s, x.slide(s, 8), y.slide(s, 8));
        }
        for (int h = 0; h < x.count(1); h++) {
            Check.due("seed " + first + ": sighed " + h, x.hearer(h, 4), y.hearer(h, 4));
        }
    }

    static void drawnBySeedsThatWrap() {
        int[] seeds = {0, 1, -1, Integer.MAX_VALUE, Integer.MIN_VALUE, 0x7FFFFF00, 0x80000100, 2};
        for (int first : seeds) {
            likeDrawn(Check.HALL, 24, first);
        }
    }

    static void drawnByHand() {
        // 0 becomes 12345: 48, of six 0; then -740551042: 13884438, of four 2
        LanternState x = Check.of("slide a 8 0 0 0 1;slide b 0 0 0 0 1;slide c 0 0 0 0 1;slide d 0 0 0 0 1;slide e 0 0 0 0 1;slide f 0 0 0 0 1;"
            + "hearer g front 1;likes g 3 0;");
        Check.due("an hour", x.drawn(1, 0), 1);
        Check.due("a was shown", x.slide(0, 8), 1);
        Check.due("mirrored", x.now(6), 1);
        Check.due("cooled down", x.now(1), 0);
        Check.due("the HOUR", x.now(0), 1);
    }

    static void drawnWithOneSlideStillDrawsOfIt() {
        likeDrawn("slide a 8 4 2 1 3;hearer g front 1;likes g 0 0;hearer h behind 1;likes h 1 1;", 24, 77);
    }

    static void drawnWithoutHearers() {
        likeDrawn("slide a 8 4 2 1 3;slide b 0 0 0 0 5;pass 0;", 24, 78);
    }

    static void drawnGoesOnWhereNothingCanBeShown() {
        likeDrawn("slide a 8 0 0 0 20;lamp 1;hearer g front 0;hearer h front 0;hearer k behind 0;", 24, 79);
        likeDrawn("slide a 8 0 0 0 1;slide b 8 0 0 0 1;after a b;after b a;hearer g front 0;hearer h front 0;", 24, 80);
    }

    static void drawnWithSixSlidesAndEightHearers() {
        StringBuilder text = new StringBuilder("lamp 30;pass 3;spread 2;");
        for (char c = 'a'; c < 'g'; c++) {
            text.append("slide ").append(c).append(" 8 6 9 ").append(c - 'a').append(" 7;");
        }
        for (char c = 'k'; c < 's'; c++) {
            text.append("hearer ").append(c).append(" front 1;likes ").append(c).append(' ').append((c - 'k') % 4).append(" 1;");
        }
        likeDrawn(text + "near k l;near k m;near l m;after f a;", 24, 81);
    }
}
