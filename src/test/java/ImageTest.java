/** Promises 38 and 39, and what a call that throws leaves. */
public final class ImageTest {
    public static void main(String[] args) {
        places();
        keepsAll();
        leavesTheRest();
        throwsLeaveAll();
        Check.finish("ImageTest");
    }

    private static void places() {
        LanternState x = Check.hall();
        Check.due("image(-1)", x.image(-1), false);
        Check.due("image(2)", x.image(2), false);
        Check.due("restore(0) of nothing", x.restore(0), false);
        Check.due("restore(1) of nothing", x.restore(1), false);
        Check.due("restore(-1)", x.restore(-1), false);
        Check.due("restore(2)", x.restore(2), false);
        x.hours(1);
        Check.due("acts stay when nothing is restored", x.undo(), 0);
        x.hours(1);
        Check.due("image(0)", x.image(0), true);
        x.hours(1);
        Check.due("image(1)", x.image(1), true);
        x.hours(1);
        Check.due("restore(0)", x.restore(0), true);
        Check.due("hour 1", x.now(0), 1);
        Check.due("nothing to undo", x.undo(), -1);
        Check.due("restore(1)", x.restore(1), true);
        Check.due("hour 2", x.now(0), 2);
        x.hours(5);
        Check.due("restore(1) again", x.restore(1), true);
        Check.due("hour 2 again", x.now(0), 2);
        x.hours(5);
        x.image(1);
        x.restore(0);
        x.restore(1);
        Check.due("kept anew", x.now(0), 7);
    }

    private static void keepsAll() {
        LanternState x = Check.hall();
        x.image(1);
        Check.sentence(x, "even");
        x.show(0, 0);
        x.scratch(1, 3, 0);
        x.sit(0, 1);
        x.image(0);
        Check.session(x, "slide z 1 1 1 1 1;hearer y behind 3;likes y 0 0;lamp 7;");
        Check.due("restore(0)", x.restore(0), true);
        int[] counts = {3, 3, 1, 2, 1, 30};
        for (int what = 0; what < counts.length; what++) {
            Check.due("count(" + what + ")", x.count(what), counts[what]);
        }
        Check.due("hot", x.now(1), 10);
        Check.due("behind", x.now(5), 3);
        Check.due("the scratch", x.slide(1, 0), 9);
        Check.due("shown", x.slide(0, 8), 1);
        Check.due("thinks", x.thinks(1, 0, 3), 1);
        Check.due("the sentence", x.said(-1), 2);
        Check.dueText("names", Check.bill(x, 1), "tower is not so");
        Check.due("names told", Check.book(x, "bob sits front;eagle scratch 0 0;", 0), -1);
        Check.due("restore(1)", x.restore(1), true);
        Check.due("no sentence there", x.said(-1), -1);
        Check.due("nothing shown there", x.slide(0, 8), 0);
    }

    private static void leavesTheRest() {
        LanternState x = Check.hall();
        x.image(0);
        int passed = x.order();
        x.moved(0, 0);
        x.scratches(0);
        x.bill(0);
        Check.book(x, "hour 9;", 0);
        Check.sentence(x, "?");
        x.feed(1, 2, 3, 4, 5);
        int[] before = {x.orderAt(0), x.movedWho(), x.scratched(), x.byteAt(0), x.told(2), x.fault(), x.count(6)};
        Check.due("restore(0)", x.restore(0), true);
        int[] behind = {x.orderAt(0), x.movedWho(), x.scratched(), x.byteAt(0), x.told(2), x.fault(), x.count(6)};
        for (int i = 0; i < before.length; i++) {
            Check.due("told last, " + i, behind[i], before[i]);
        }
        Check.due("it was told", passed > 0 && before[4] == 9 && before[5] == 1 && before[6] == 20, true);
    }

    private static void throwsLeaveAll() {
        LanternState x = Check.hall();
        x.show(0, 0);
        x.feed(1, 2, 3, 4, 5);
        Check.due("throws", Check.slideThrows(x, 9, 9), true);
        Check.due("throws", Check.hearerThrows(x, 9, 9), true);
        Check.due("the tape stays", x.count(6), 20);
        Check.due("hot stays", x.now(1), 10);
        Check.due("acts stay", x.undo(), 0);
    }
}
