import java.util.function.IntPredicate;
import java.util.function.IntUnaryOperator;

/** Looks at a call's argument just inside its bounds, just outside of them and far outside; a refused call changes nothing. */
final class Edges {
    private Edges() {
    }

    /** All that can be asked for without changing anything but TROUBLE. */
    static String state(FanParts x) {
        StringBuilder text = new StringBuilder();
        for (int what = 0; what <= 10; what++) {
            text.append(x.size(what)).append(' ');
        }
        for (int rib = 0; rib < x.size(0); rib++) {
            text.append(x.broken(rib));
            for (int cell = 0; cell < x.size(1); cell++) {
                text.append(' ').append(x.cell(0, rib, cell)).append(' ').append(x.cell(1, rib, cell));
            }
            text.append(';');
        }
        return text.append(x.fault()).toString();
    }

    private static int[] outside(int first, int last) {
        return new int[] {first - 1, last + 1, last + 2, last + 32, last + 50, Integer.MIN_VALUE, Integer.MAX_VALUE};
    }

    /** The call answers from first to last, and is refused outside. */
    static void bounds(FanParts x, String what, int why, int first, int last, IntUnaryOperator call) {
        for (int value = first; value <= last; value++) {
            int got = call.applyAsInt(value);
            Check.same(what + " of " + value + " isn't refused", x.trouble(), 0);
            Check.same(what + " of " + value + " isn't NONE", got != FanParts.NONE, true);
        }
        refusedAt(x, what, why, outside(first, last), call);
    }

    static void refusedAt(FanParts x, String what, int why, int[] values, IntUnaryOperator call) {
        String before = state(x);
        for (int value : values) {
            int got = call.applyAsInt(value);
            Check.refused(x, what + " of " + value, got, why);
        }
        Check.same(what + " refused changes nothing", before.equals(state(x)), true);
    }

    static void sides(FanParts x, String what, IntUnaryOperator call) {
        bounds(x, what + ", SIDE", 1, 0, 1, call);
    }

    static void openings(FanParts x, String what, IntUnaryOperator call) {
        int last = (x.size(2) == 1 ? x.size(0) - 1 : 1) * x.size(1);
        bounds(x, what + ", OPENING", 2, 0, last, call);
    }

    static void ribs(FanParts x, String what, IntUnaryOperator call) {
        bounds(x, what + ", rib", 1, 0, x.size(0) - 1, call);
    }

    static void cells(FanParts x, String what, IntUnaryOperator call) {
        bounds(x, what + ", CELL", 1, 0, x.size(1) - 1, call);
    }

    static void words(FanParts x, String what, IntUnaryOperator call) {
        bounds(x, what + ", word", 1, 0, x.size(3) - 1, call);
    }

    static void wishes(FanParts x, String what, IntUnaryOperator call) {
        bounds(x, what + ", wish", 1, 0, x.size(4) - 1, call);
    }

    /** An act is refused outside of its bounds, and changes nothing then. */
    static void denied(FanParts x, String what, int why, int first, int last, IntPredicate act) {
        String before = state(x);
        for (int value : outside(first, last)) {
            boolean got = act.test(value);
            Check.denied(x, what + " of " + value, got, why);
        }
        Check.same(what + " refused changes nothing", before.equals(state(x)), true);
    }
}
