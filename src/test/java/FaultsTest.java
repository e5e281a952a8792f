/** The text of a FAN (Terms I): what is no fault, the FAULTS, and where they are met. */
public final class FaultsTest {
    private static final String FAN = "fan ribs 2 wide 1 price 1 opens even";
    private static final int AT = FAN.length() + 1;

    private FaultsTest() {
    }

    public static void main(String[] args) {
        form();
        tokens();
        again();
        bounds();
        many();
        lacks();
        beyond();
        order();
        wordsMayBeAny();
        blanks();
        Check.end();
    }

    /** A FAULT in what follows a FAN of two ribs, at a place of that. */
    private static void line(String line, int fault, int place) {
        Check.faulty(FAN + ";" + line, fault, AT + place);
    }

    private static void fine(String line) {
        FanParts x = new FanParts();
        Check.answered(x, "fan of " + line, Check.fanOf(x, FAN + ";" + line), 2);
        Check.same("fault() of " + line, x.fault(), 0);
        Check.same("where() of " + line, x.where(), -1);
    }

    private static void form() {
        Check.faulty("", 1, 0);
        Check.faulty("   ", 1, 3);
        Check.faulty(";", 1, 0);
        Check.faulty("12", 1, 0);
        Check.faulty("fans", 1, 0);
        Check.faulty("fan", 1, 3);
        Check.faulty("fan  ", 1, 5);
        Check.faulty("fan rib 2", 1, 4);
        Check.faulty("fan ribs x", 1, 9);
        Check.faulty("fan ribs 2 wide 1 price 1 opens", 1, 31);
        Check.faulty("fan ribs 2 wide 1 price 1 opens up", 1, 32);
        Check.faulty(FAN + ";", 1, AT);
        Check.faulty(FAN + ",", 1, AT - 1);
        Check.faulty(FAN + " rib a b", 1, AT);
        line(";", 1, 0);
        line("rib a", 1, 5);
        line("rib a b brok", 1, 8);
        line("rib a b broken broken", 1, 15);
        line("rib a b;c", 1, 8);
        line("word", 1, 4);
        line("word 1", 1, 5);
        line("word a b", 1, 7);
        line("wish a up 0", 1, 7);
        line("wish a front", 1, 12);
        line("wish a front x", 1, 13);
        line("seen 0 front from 0 a", 1, 5);
        line("seen front 0 at 0 a", 1, 13);
        line("seen front 0 from a", 1, 18);
        line("seen front 0 from 0", 1, 19);
        line("seen front 0 from 0 0", 1, 20);
        line("beat", 1, 4);
        line("beat ,0", 1, 5);
        line("beat 0,", 1, 7);
        line("beat 0 0", 1, 7);
        line("beat 0,,0", 1, 7);
        line("broken", 1, 0);
    }

    private static void tokens() {
        Check.faulty("Fan", 1, 0);
        Check.faulty("fan" + (char) 9 + "ribs 2", 1, 3);
        Check.faulty("fan" + (char) 230 + "ribs 2", 1, 3);
        Check.faulty("fan" + (char) 0, 1, 3);
        fine("word abcdefgh");
        line("word abcdefghi", 1, 5);
        line("word abcdefgh i", 1, 14);
        fine("beat 001");
        line("beat 0001", 1, 5);
        line("word a-", 1, 6);
        fine("wish a front0");
        fine("beat0,1");
        FanParts x = new FanParts();
        Check.answered(x, "no blanks but between words",
            Check.fanOf(x, "fan ribs2wide1price1opens left;rib a b;wish a back1"), 2);
    }

    private static void again() {
        line("fan", 3, 0);
        line("fan ribs 2 wide 1 price 1 opens even", 3, 0);
        line("word ab;word ab", 3, 13);
        line("word z;word zz;word z", 3, 20);
        fine("word ab;word ba;word a");
        fine("wish ab front 0;wish ab front 0;word ab");
        line("beat 0;beat 1", 3, 7);
    }

    private static void bounds() {
        Check.faulty("fan ribs 1 wide 1", 4, 9);
        Check.faulty("fan ribs 11 wide 1", 4, 9);
        Check.faulty("fan ribs 2 wide 0", 4, 16);
        Check.faulty("fan ribs 2 wide 4", 4, 16);
        Check.faulty("fan ribs 2 wide 1 price 100", 4, 24);
        FanParts x = new FanParts();
        Check.answered(x, "the highest bounds", Check.fanOf(x, "fan ribs 10 wide 3 price 99 opens left"), 28);
        Check.answered(x, "the lowest bounds", Check.fanOf(x, "fan ribs 2 wide 1 price 0 opens left"), 2);
        line("rib ab a", 4, 4);
        line("rib a ab", 4, 6);
        line("rib a broken", 4, 6);
        line("wish a front 2", 4, 13);
        line("seen back 2", 4, 10);
        line("seen front 0 from 1 a", 4, 18);
        line("seen front 1 from 2 a", 4, 18);
        line("beat 2", 4, 5);
        line("beat 0,1,2", 4, 9);
        Check.faulty("fan ribs 3 wide 2 price 1 opens left;beat 4,5", 4, 44);
        Check.faulty("fan ribs 3 wide 2 price 1 opens even;beat 2,3", 4, 44);
    }

    private static void many() {
        line("rib a b;rib a b;rib a b", 5, 16);
        fine("word a;word b;word c;word d;word e;word f");
        line("word a;word b;word c;word d;word e;word f;word a", 5, 42);
        fine("wish a back 0;wish a back 0;wish a back 0;wish a back 0");
        line("wish a back 0;wish a back 0;wish a back 0;wish a back 0;wish", 5, 56);
        String seen = "seen back 0 from 0 a;";
        fine(seen + seen + seen + seen + seen + "seen back 0 from 0 a");
        line(seen + seen + seen + seen + seen + seen + "seen", 5, 126);
        fine("beat 0,1,0,1,0,1");
        line("beat 0,1,0,1,0,1,0", 5, 17);
        line("beat 0,1,0,1,0,1,2", 4, 17);
        line("beat 0,1,0,1,0,1,x", 1, 17);
        line("beat 0,1,0,1,0,1,", 1, 17);
    }

    private static void lacks() {
        Check.faulty("rib a b", 6, 0);
        Check.faulty("  word a", 6, 2);
        Check.faulty("wish", 6, 0);
        Check.faulty("seen", 6, 0);
        Check.faulty("beat 0;fan", 6, 0);
        Check.faulty("ribs", 1, 0);
    }

    private static void beyond() {
        line("seen front 0 from 0 ab", 7, 20);
        line("seen front 1 from 1 ab", 7, 20);
        fine("seen front 1 from 0 ab");
        fine("rib a b broken;seen front 1 from 0 ab;seen back 1 from 1 z");
        line("seen front 0 from 0 1", 1, 20);
        Check.faulty("fan ribs 3 wide 2 price 1 opens left;seen back 4 from 2 abc", 7, 56);
        Check.faulty("fan ribs 3 wide 2 price 1 opens left;seen back 3 from 3 a", 4, 54);
    }

    private static void order() {
        line("rib ab a;word a;word a", 4, 4);
        line("word a;word a;rib ab", 3, 12);
        line("wish a front 2 ?", 4, 13);
        line("? word a", 1, 0);
    }

    private static void wordsMayBeAny() {
        FanParts x = new FanParts();
        String text = "fan ribs 2 wide 3 price 0 opens even;rib rib fan broken;word word;word broken;wish wish front 1;"
            + "seen back 3 from 0 fan";
        Check.answered(x, "words of LINES", Check.fanOf(x, text), 4);
        Check.same("cell", x.cell(1, 0, 2), 13);
        Check.same("broken", x.broken(0), 1);
        Check.same("words", x.size(3), 2);
        Check.same("wishes", x.size(4), 1);
    }

    private static void blanks() {
        FanParts x = new FanParts();
        Check.answered(x, "blanks", Check.fanOf(x, "  fan ribs  2 wide 1 price 1 opens even ;  rib a b ; beat 0 , 1  "), 2);
        Check.same("beats", x.size(6), 2);
        Check.faulty("f an ribs 2", 1, 0);
    }
}
