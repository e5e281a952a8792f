import java.util.NoSuchElementException;

/** What the tests share: counting wrong answers, and feeding texts. */
final class Check {
    private static int wrong = 0;
    private static int asked = 0;
    private static String about = "";

    private Check() {
    }

    /** What the answers from here on are looked at for. */
    static void about(String what) {
        about = what.isEmpty() ? "" : what + ": ";
    }

    static void same(String what, long got, long want) {
        asked++;
        if (got != want) {
            wrong++;
            if (wrong <= 40) {
                System.out.println(about + what + " answered " + got + ", due is " + want);
            }
        }
    }

    static void same(String what, boolean got, boolean want) {
        same(what, got ? 1 : 0, want ? 1 : 0);
    }

    /** An answer of a call that may be refused, and the TROUBLE it leaves. */
    static void answered(FanParts x, String what, long got, long want) {
        same(what, got, want);
        same(what + ": trouble()", x.trouble(), 0);
    }

    static void refused(FanParts x, String what, long got, int why) {
        same(what, got, FanParts.NONE);
        same(what + ": trouble()", x.trouble(), why);
    }

    static void allowed(FanParts x, String what, boolean got) {
        same(what, got, true);
        same(what + ": trouble()", x.trouble(), 0);
    }

    static void denied(FanParts x, String what, boolean got, int why) {
        same(what, got, false);
        same(what + ": trouble()", x.trouble(), why);
    }

    static void noneLed(FanParts x, int i) {
        boolean thrown = false;
        try {
            x.led(i);
        } catch (NoSuchElementException e) {
            thrown = true;
        }
        same("led(" + i + ") throws", thrown, true);
    }

    /** Feeds a text, filled up with blanks to whole feeds. */
    static void feedText(FanParts x, String text) {
        for (int from = 0; from < text.length(); from += 20) {
            int[] numbers = new int[5];
            for (int i = 0; i < 20; i++) {
                int sign = from + i < text.length() ? text.charAt(from + i) : ' ';
                numbers[i / 4] = numbers[i / 4] << 8 | sign & 255;
            }
            x.feed(numbers[0], numbers[1], numbers[2], numbers[3], numbers[4]);
        }
    }

    static int fanOf(FanParts x, String text) {
        feedText(x, text);
        return x.fan(text.length());
    }

    static FanParts made(String text) {
        FanParts x = new FanParts();
        if (fanOf(x, text) < 0) {
            wrong++;
            System.out.println("a FAN refused, fault " + x.fault() + " at " + x.where() + ": " + text);
        }
        return x;
    }

    static void faulty(String text, int fault, int place) {
        FanParts x = new FanParts();
        refused(x, "fan of " + text, fanOf(x, text), 4);
        same("fault() of " + text, x.fault(), fault);
        same("where() of " + text, x.where(), place);
    }

    static void end() {
        System.out.println(asked + " answers looked at, " + wrong + " wrong");
        if (wrong != 0) {
            System.exit(1);
        }
    }
}
