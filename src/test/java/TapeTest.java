/** Promises 1, 2, 3 and the tape of 40. */
public final class TapeTest {
    public static void main(String[] args) {
        newObject();
        feeding();
        ending();
        highestByteFirst();
        Check.finish("TapeTest");
    }

    private static void newObject() {
        LanternState x = new LanternState();
        int[] due = {0, 0, 0, 1, 0, 40, 0, -1};
        for (int what = 0; what < due.length; what++) {
            Check.due("new: count(" + what + ")", x.count(what), due[what]);
        }
        Check.due("new: count(-1)", x.count(-1), -1);
        for (int what = 0; what <= 6; what++) {
            Check.due("new: now(" + what + ")", x.now(what), 0);
        }
        Check.due("new: fault()", x.fault(), 0);
        Check.due("new: said(-1)", x.said(-1), -1);
        Check.due("new: undo()", x.undo(), -1);
        Check.due("new: order()", x.order(), 0);
        Check.due("new: parts()", x.parts(), -1);
        Check.due("new: session() of an empty tape", x.session(), 0);
    }

    private static void feeding() {
        LanternState x = new LanternState();
        for (int i = 1; i <= 47; i++) {
            Check.due("feed " + i, x.feed(i, 0, -1, 7, 8), 20 * i);
        }
        Check.due("feed over 940", x.feed(1, 2, 3, 4, 5), -1);
        Check.due("count(6) then", x.count(6), 940);
        Check.due("end(921)", x.end(921), true);
        Check.due("feed over 940 by one", x.feed(1, 2, 3, 4, 5), -1);
        Check.due("count(6) stays", x.count(6), 921);
        Check.due("end(920)", x.end(920), true);
        Check.due("feed up to 940", x.feed(1, 2, 3, 4, 5), 940);
    }

    private static void ending() {
        LanternState x = new LanternState();
        x.feed(0, 0, 0, 0, 0);
        Check.due("end(21)", x.end(21), false);
        Check.due("end(-1)", x.end(-1), false);
        Check.due("count(6) stays", x.count(6), 20);
        Check.due("end(20)", x.end(20), true);
        Check.due("end(3)", x.end(3), true);
        Check.due("end(4)", x.end(4), false);
        Check.due("count(6)", x.count(6), 3);
        Check.due("end(0)", x.end(0), true);
        Check.due("count(6) of none", x.count(6), 0);
    }

    private static void highestByteFirst() {
        LanternState x = new LanternState();
        // "lamp 7;" and then thirteen blanks
        x.feed(0x6c616d70, 0x20373b20, 0x20202020, 0x20202020, 0x20202020);
        Check.due("session()", x.session(), 1);
        Check.due("count(5)", x.count(5), 7);
        Check.due("count(6) behind session()", x.count(6), 0);
    }
}
