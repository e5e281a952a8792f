import java.lang.management.ManagementFactory;

/** The dearest fans there can be, through all the calls an object is used for: no room is used up, and time is bounded. */
public final class LoadTest {
    private static final String[] WISHES = {
        "wish abababab front 27;wish babababa front 27;wish aaaaaaaa front 27;wish bbbbbbbb front 27",
        "wish abcdefgh front 27;wish hgfedcba front 26;wish aceghbdf front 25;wish hfdbgeca front 24",
        "wish a front 27;wish b front 27;wish c front 27;wish d front 27",
        "wish ce front 27;wish df front 27;wish dg front 27;wish hd front 27",
        "wish dcc front 27;wish dce front 26;wish fec front 25;wish cde front 24",
        "wish a front 27;wish c front 27;wish cc front 27;wish cccc front 27",
        "wish abcdefg front 9;wish gfedcba front 9;wish aaaa front 8;wish b front 0"
    };

    private LoadTest() {
    }

    public static void main(String[] args) {
        for (String wishes : WISHES) {
            long ahead = allocated();
            FanParts x = Check.made(text(wishes));
            long made = allocated();
            int last = x.mendAll();
            for (int i = 0; i < 100; i++) {
                Check.same("mendAll() again, " + wishes, x.mendAll(), last);
                ask(x, i);
            }
            long used = allocated() - made;
            Check.same("a new object takes few bytes", made - ahead < 200_000, true);
            Check.same("calls use up no room (" + used + " bytes)", used < 400_000, true);
        }
        Check.end();
    }

    private static String text(String wishes) {
        StringBuilder text = new StringBuilder("fan ribs 10 wide 3 price 99 opens left;");
        for (int rib = 0; rib < 10; rib++) {
            text.append("rib aba bab;");
        }
        text.append("word ababab;word bababa;word aabbaabb;word bbaabbaa;word abcabc;word aaaaaaaa;");
        return text.append(wishes).append(";beat 0,27,5,13,9,21").toString();
    }

    private static void ask(FanParts x, int i) {
        x.treaty(i % 6, true);
        x.sever(i % 6, i % 2, i % 28, true);
        x.calmAt(i % 6);
        x.pack(i % 3);
        x.mistakes();
    }

    // The machine's own count of what this thread has made.
    private static long allocated() {
        return ((com.sun.management.ThreadMXBean) ManagementFactory.getThreadMXBean())
            .getThreadAllocatedBytes(Thread.currentThread().getId());
    }
}
