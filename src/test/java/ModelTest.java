import java.util.NoSuchElementException;
import java.util.Random;

/** Runs of calls with fixed seeds, each answered by the class and by the plain model of Naive.java alike. */
public final class ModelTest {
    private static final int RUNS = 400;
    private static final int CALLS = 512;
    private static final int THREW = Integer.MIN_VALUE + 5;
    private static final String[] SPARE = {"slide", "hearer", "likes", "hates", "near", "after", "pass", "spread", "lamp", "front",
        "behind", "shown", "over", "scratch", "sits", "hour", "or", "and", "not", "so", "cracked", "even", "like", "light", "heat",
        "sighs", "number", "zz", "0", "1", "3", "4", "16", "25", "100", "999", "1000", ";", "<", "=", ">", "(", ")", ".", "?", "\n", "  ",
        "abcdefgh", "a1", "A", ";;"};

    private final Random random;
    private final LanternState real = new LanternState();
    private final Naive plain = new Naive();
    private int calls;

    private ModelTest(long seed) {
        random = new Random(seed);
    }

    public static void main(String[] args) {
        int runs = args.length > 0 ? Integer.parseInt(args[0]) : RUNS;
        long first = args.length > 1 ? Long.parseLong(args[1]) : 1;
        for (long seed = first; seed < first + runs; seed++) {
            ModelTest test = new ModelTest(seed);
            String last = "";
            while (test.calls < CALLS && last != null) {
                last = test.step();
                if (last != null && last.length() > 0) {
                    System.out.println("seed " + seed + ", call " + test.calls + ": " + last);
                    Check.due("seed " + seed, 1, 0);
                    last = null;
                }
            }
            Check.due("seed " + seed, 0, 0);
        }
        Check.finish("ModelTest");
    }

    private int below(int n) {
        return random.nextInt(n);
    }

    /** Mostly 0 to most, now and then just beside it or far off. */
    private int about(int most) {
        int dice = below(40);
        if (dice == 0) {
            return random.nextInt();
        }
        return dice == 1 ? -1 : dice == 2 ? most + 1 : below(most + 1);
    }

    /** Mostly one that the SESSION tells. */
    private String slideName() {
        return "" + (char) ('a' + below(below(50) == 0 ? 9 : Math.max(1, real.count(0))));
    }

    private String hearerName() {
        return "" + (char) ('p' + below(below(50) == 0 ? 9 : Math.max(1, real.count(1))));
    }

    private String sessionText() {
        StringBuilder text = new StringBuilder();
        int slides = below(15) == 0 ? below(8) : 2 + below(5);
        int hearers = below(15) == 0 ? below(10) : 2 + below(7);
        int hottest = below(2) == 0 ? 20 : 6;
        for (int s = 0; s < slides; s++) {
            text.append("slide ").append((char) ('a' + s));
            boolean even = below(3) == 0;
            for (int y = 0; y < 4; y++) {
                text.append(' ').append(even ? new int[] {0, 6, 9, 15}[below(4)] : below(3) == 0 ? 0 : below(16));
            }
            text.append(' ').append(1 + below(hottest)).append(";");
        }
        for (int h = 0; h < hearers; h++) {
            hearerText(text, (char) ('p' + h));
        }
        nearText(text, hearers);
        for (int s = 0; s < slides; s++) {
            int t = below(slides);
            if (t != s && below(3) == 0) {
                text.append("after ").append((char) ('a' + s)).append(' ').append((char) ('a' + t)).append(';');
            }
        }
        text.append(below(4) == 0 ? "" : "pass " + below(5) + ";");
        text.append(below(3) == 0 ? "" : "spread " + below(4) + ";");
        text.append(below(4) == 0 ? "" : "lamp " + (10 + below(60)) + ";");
        return text.toString();
    }

    private void hearerText(StringBuilder text, char name) {
        int highest = below(2) == 0 ? 3 : 5;
        text.append("hearer ").append(name).append(below(2) == 0 ? " front " : " behind ").append(below(highest)).append(";\n");
        int told = 0;
        for (int i = below(8); i > 0; i--) {
            int cell = below(16);
            if ((told >> cell & 1) == 0 || below(200) == 0) {
                text.append(below(3) == 0 ? "hates " : "likes ").append(name);
                text.append(' ').append(cell / 4).append(' ').append(cell % 4).append(';');
                told |= 1 << cell;
            }
        }
    }

    private void nearText(StringBuilder text, int hearers) {
        boolean[] told = new boolean[100];
        for (int i = below(below(10) == 0 ? 16 : 11); i > 0 && hearers > 1; i--) {
            int h = below(hearers);
            int g = below(hearers);
            if (h != g && !told[10 * Math.min(h, g) + Math.max(h, g)] || below(200) == 0) {
                text.append("near ").append((char) ('p' + h)).append(' ').append((char) ('p' + g)).append(';');
                told[10 * Math.min(h, g) + Math.max(h, g)] = true;
            }
        }
    }

    private String bookText() {
        StringBuilder text = new StringBuilder();
        for (int i = below(below(12) == 0 ? 44 : 8); i > 0; i--) {
            int dice = below(6);
            if (dice < 2) {
                text.append(slideName()).append(" shown ").append(below(4));
            } else if (dice == 2) {
                text.append(slideName()).append(" over ").append(slideName());
            } else if (dice == 3) {
                text.append(slideName()).append(" scratch ").append(below(4)).append(' ').append(below(4));
            } else if (dice == 4) {
                text.append(hearerName()).append(" sits ").append(below(2) == 0 ? "front" : "behind");
            } else {
                text.append("hour ").append(1 + below(24));
            }
            text.append(below(20) == 0 ? " ;\n" : ";");
        }
        return text.toString();
    }

    private String oneText(int depth) {
        int dice = below(depth > 7 ? 7 : 12);
        switch (dice) {
            case 0: return "so";
            case 1: return "cracked";
            case 2: return "even";
            case 3: return "like " + slideName();
            case 7:
            case 8: return "not " + oneText(depth + 1);
            case 9: return "(" + condText(depth + 1) + ")";
            default:
                String[] what = {"light", "heat", "sighs", "number"};
                String[] sign = {"<", " = ", ">"};
                return what[below(4)] + sign[below(3)] + below(12);
        }
    }

    private String condText(int depth) {
        StringBuilder text = new StringBuilder(oneText(depth));
        for (int i = below(below(10) == 0 ? 9 : 4); i > 0; i--) {
            text.append(below(2) == 0 ? " and " : " or ").append(oneText(depth));
        }
        return text.toString();
    }

    /** Now and then puts in, leaves out or repeats a piece of a text. */
    private String spoilt(String text, int most) {
        String now = text;
        int dice = below(5);
        if (dice == 0 && now.length() > 0) {
            int at = below(now.length());
            now = now.substring(0, at) + " " + SPARE[below(SPARE.length)] + " " + now.substring(Math.min(now.length(), at + below(6)));
        } else if (dice == 1 && now.length() > 0) {
            String[] words = now.split(" ");
            int k = below(words.length);
            words[k] = below(3) == 0 ? "" : below(2) == 0 ? words[k] + " " + words[k] : SPARE[below(SPARE.length)];
            now = String.join(" ", words);
        }
        if (below(12) == 0) {
            int blanks = most - now.length() - 3 + below(8);
            int at = below(now.length() + 1);
            now = now.substring(0, at) + (blanks > 0 ? " ".repeat(blanks) : "") + now.substring(at);
        }
        return now.length() > 940 ? now.substring(0, 940) : now;
    }

    private void feed(byte[] bytes) {
        real.end(0);
        plain.end(0);
        for (int from = 0; from < bytes.length; from += 20) {
            int[] five = new int[5];
            for (int i = 0; i < 20 && from + i < bytes.length; i++) {
                five[i / 4] |= (bytes[from + i] & 255) << 24 - 8 * (i % 4);
            }
            real.feed(five[0], five[1], five[2], five[3], five[4]);
            plain.feed(five);
            calls++;
        }
        real.end(bytes.length);
        plain.end(bytes.length);
        calls += 3;
    }

    private String same(String call, int got, int want) {
        return got == want ? "" : call + " answered " + got + ", the model " + want;
    }

    private String same(String call, boolean got, boolean want) {
        return same(call, got ? 1 : 0, want ? 1 : 0);
    }

    private String step() {
        calls++;
        int dice = below(100);
        if (calls < 3 || dice < 2) {
            String text = calls < 3 ? sessionText() : spoilt(sessionText(), 900);
            feed(Check.bytes(text));
            String bad = same("session '" + text + "'", real.session(), plain.session());
            return bad.length() > 0 ? bad : same("fault of '" + text + "'", real.fault(), plain.fault());
        }
        if (dice < 10) {
            String text = spoilt(bookText(), 400);
            int lives = below(20) == 0 ? about(1) : below(2);
            feed(Check.bytes(text));
            String bad = same("book(" + lives + ") '" + text + "'", real.book(lives), plain.book(lives));
            for (int what = -1; what < 5 && bad.length() == 0; what++) {
                bad = same("told(" + what + ") of '" + text + "'", real.told(what), plain.told(what));
            }
            return bad.length() > 0 ? bad : same("fault of '" + text + "'", real.fault(), plain.fault());
        }
        if (dice < 16) {
            String text = spoilt(condText(1), 200);
            feed(Check.bytes(text));
            String bad = same("sentence '" + text + "'", real.sentence(), plain.sentence());
            return bad.length() > 0 ? bad : same("fault of '" + text + "'", real.fault(), plain.fault());
        }
        if (dice < 19) {
            byte[] bytes = new byte[below(12) == 0 ? below(12) : 8];
            for (int i = 0; i < bytes.length; i++) {
                int known = i < 4 ? 0 : bytes[i - 4];
                bytes[i] = (byte) (below(60) == 0 ? below(256) : i < 4 ? below(16) & below(16) : below(16) & known);
            }
            feed(bytes);
            return same("seen", real.seen(), plain.seen());
        }
        return dice < 45 ? act() : dice < 75 ? ask() : look();
    }

    private String act() {
        int a = about(5);
        int b = about(3);
        int c = about(3);
        int n = about(24);
        switch (below(11)) {
            case 0:
            case 1:
            case 2: return same("show " + a + " " + b, real.show(a, b), plain.show(a, b));
            case 3: return same("over " + a + " " + b, real.over(a, b), plain.over(a, b));
            case 4: return same("scratch " + a + " " + b + " " + c, real.scratch(a, b, c), plain.scratch(a, b, c));
            case 5: return same("sit " + (a + b) + " " + c / 2, real.sit(a + b, c / 2), plain.sit(a + b, c / 2));
            case 6: return same("hours " + n, real.hours(n), plain.hours(n));
            case 7: return same("drawn " + n + " " + a, real.drawn(n, a), plain.drawn(n, a));
            case 8: return same("undo", real.undo(), plain.undo());
            case 9: return same("image " + b / 2, real.image(b / 2), plain.image(b / 2));
            default: return same("restore " + b, real.restore(b), plain.restore(b));
        }
    }

    private String ask() {
        int a = about(5);
        int b = about(3);
        int n = about(30);
        int seed = random.nextInt();
        String bad;
        switch (below(13)) {
            case 0: return same("sighs " + a + " " + b, real.sighs(a, b), plain.sighs(a, b));
            case 1: return same("best " + a, real.best(a), plain.best(a));
            case 2:
                int set = about(255);
                return same("spreads " + set, real.spreads(set), plain.spreads(set));
            case 3:
                bad = same("order", real.order(), plain.order());
                for (int k = -1; k < 7 && bad.length() == 0; k++) {
                    bad = same("orderAt " + k, real.orderAt(k), plain.orderAt(k));
                }
                return bad;
            case 4:
                bad = same("moved " + a + " " + b, real.moved(a, b), plain.moved(a, b));
                return bad.length() > 0 ? bad : same("movedWho", real.movedWho(), plain.movedWho());
            case 5:
                // the model tries 65536 sets five times: seldom
                if (below(6) != 0) {
                    return same("scratched", real.scratched(), plain.scratched());
                }
                bad = same("scratches " + a, real.scratches(a), plain.scratches(a));
                return bad.length() > 0 ? bad : same("scratched", real.scratched(), plain.scratched());
            case 6: return same("alike " + a, real.alike(a), plain.alike(a));
            case 7: return same("differ " + a + " " + b, real.differ(a, b), plain.differ(a, b));
            case 8: return same("parts", real.parts(), plain.parts());
            case 9:
                bad = same("bill " + a, real.bill(a), plain.bill(a));
                for (int i = -1; i < 31 && bad.length() == 0; i++) {
                    bad = same("byteAt " + i, real.byteAt(i), plain.byteAt(i));
                }
                return bad;
            case 10: return same("odds " + a + " " + n + " " + seed, real.odds(a, n, seed), plain.odds(a, n, seed));
            default:
                int k = about(5);
                bad = same("said " + k, real.said(k), plain.said(k));
                return bad.length() > 0 ? bad : same("said -1", real.said(-1), plain.said(-1));
        }
    }

    private String look() {
        int a = about(5);
        int b = about(3);
        int c = about(3);
        int what = about(9);
        switch (below(6)) {
            case 0: return same("slide " + a + " " + what, realSlide(a, what), plainSlide(a, what));
            case 1: return same("hearer " + what + " " + a, realHearer(what, a), plainHearer(what, a));
            case 2: return same("row", real.row(a, b, c / 2, what / 2), plain.row(a, b, c / 2, what / 2));
            case 3: return same("thinks", real.thinks(a, b, c), plain.thinks(a, b, c));
            case 4: return same("now " + what, real.now(what), plain.now(what));
            default: return same("count " + what, real.count(what), plain.count(what));
        }
    }

    private int realSlide(int s, int what) {
        try {
            return real.slide(s, what);
        } catch (NoSuchElementException e) {
            return THREW;
        }
    }

    private int plainSlide(int s, int what) {
        try {
            return plain.slide(s, what);
        } catch (NoSuchElementException e) {
            return THREW;
        }
    }

    private int realHearer(int h, int what) {
        try {
            return real.hearer(h, what);
        } catch (NoSuchElementException e) {
            return THREW;
        }
    }

    private int plainHearer(int h, int what) {
        try {
            return plain.hearer(h, what);
        } catch (NoSuchElementException e) {
            return THREW;
        }
    }
}
