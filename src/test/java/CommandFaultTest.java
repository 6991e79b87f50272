/** Promises 18 and 19: FAULTS of HEAD, COMMANDS and SYMBOLS. One method for each sentence that names an edge. */
public final class CommandFaultTest {
    private static final long MOST = Integer.MAX_VALUE;
    private static final long ALL_ONES = 0xFFFFFFFFL;

    public static void main(String[] args) {
        fewerThan32Bytes();
        firstNumber();
        moreThan16Commands();
        commandsBeyondTheImage();
        fewerThan8BytesLeft();
        commandSize();
        commandSizeBeyond();
        passedBy();
        fifthSegment();
        segmentSizeBelow72();
        segmentSizeAndSections();
        segmentNumbers();
        spansTogether();
        spansTogetherOfTwo();
        addressAndSpan();
        bytesBeyondTheImage();
        moreBytesThanSpan();
        overASegmentAhead();
        emptySpansLieOverNone();
        seventeenthSection();
        seventeenthSectionOfTwoSegments();
        sectionNumbers();
        sectionWithin();
        secondSymtab();
        symtabSize();
        moreThan64Symbols();
        symbolsBeyondTheImage();
        stringsBeyondTheImage();
        secondChains();
        chainsSize();
        chainsBeyondTheImage();
        notUsedUp();
        symbolWithoutZero();
        symbolNameBeyondStrings();
        symbolSection();
        symbolAddress();
        Probe.finish();
    }

    private static Faults.Change u1(int at, int v) {
        return Faults.u1(at, v);
    }

    private static Faults.Change u4(int at, long v) {
        return Faults.u4(at, v);
    }

    private static Faults.Change u8(int at, long v) {
        return Faults.u8(at, v);
    }

    private static void fewerThan32Bytes() {
        Faults f = new Faults("FAULT 1: fewer than 32 bytes (at how many there are)", Images::empty, u8(16, 0));
        for (int n : new int[] {0, 1, 3, 4, 20, 24, 30, 31}) {
            f.fault(1, n, Faults.cut(n));
        }
        f.loads(Faults.cut(32));
        f.loads(Faults.cut(33));
        Probe t = new Probe(Faults.PROMISES + "FAULT 1: no IMAGE at all");
        t.dueLoad(0, 1, 0);
    }

    private static void firstNumber() {
        Faults f = new Faults("FAULT 2: the first u4 (at 0)", Images::small);
        f.loads();
        for (int k = 0; k < 4; k++) {
            int due = (int) (0xFEEDFACFL >>> 8 * k) & 255;
            f.fault(2, 0, u1(k, due + 1 & 255));
            f.fault(2, 0, u1(k, due - 1));
            f.fault(2, 0, u1(k, due ^ 128));
        }
        f.fault(2, 0, u4(0, 0));
        f.fault(2, 0, u4(0, 0xCFFAEDFEL));
        f.fault(2, 0, u1(0, 0), Faults.cut(32));
        for (int k = 4; k < 32; k++) {
            // The loader looks at no other number of HEAD but two.
            if (k < 16 || k >= 24) {
                f.loads(u1(k, 255));
            }
        }
    }

    /** The COMMANDS become so many that are passed by, of eight bytes each. */
    private static Probe passedBy(String title, int many) {
        Probe t = new Probe(Faults.PROMISES + title);
        t.segment("a", 200, 0);
        t.x.write();
        t.patch(16, 8, many | 8L * many << 32);
        for (int k = 0; k < many; k++) {
            t.patch(32 + 8 * k, 8, 1 | 8L << 32);
        }
        return t;
    }

    private static void moreThan16Commands() {
        String title = "FAULT 3: more than 16 COMMANDS (at 16)";
        for (int many : new int[] {0, 1, 15, 16}) {
            passedBy(title, many).dueLoad(0, 0, -1);
        }
        passedBy(title, 17).dueLoad(0, 3, 16);
        Faults f = new Faults(title, Images::small);
        f.fault(3, 16, u4(16, 17));
        f.fault(3, 16, u4(16, 256));
        f.fault(3, 16, u4(16, MOST));
        f.fault(3, 16, u4(16, MOST + 1));
        f.fault(3, 16, u4(16, ALL_ONES));
        f.fault(3, 16, u4(16, 0x01000003L));
    }

    private static void commandsBeyondTheImage() {
        String title = "FAULT 1: their bytes go beyond the IMAGE (at 20)";
        Faults tight = new Faults(title, Images::empty, u8(16, 1 | 24L << 32), u8(40, 0), u8(48, 0));
        tight.fault(1, 20, Faults.cut(55));
        tight.loads(Faults.cut(56));
        tight.loads(Faults.cut(57));
        tight.fault(1, 20, Faults.cut(32));
        Faults f = new Faults(title, Images::small);
        f.fault(1, 20, u4(20, 194));
        f.fault(3, 144, u4(20, 193));
        f.fault(1, 20, u4(20, MOST));
        f.fault(1, 20, u4(20, MOST - 31));
        f.fault(1, 20, u4(20, MOST + 1));
        f.fault(1, 20, u4(20, ALL_ONES));
        f.fault(1, 20, u4(20, ALL_ONES - 31));
        f.fault(1, 20, u8(16, 194L << 32));
    }

    private static void fewerThan8BytesLeft() {
        Faults f = new Faults("FAULT 3: fewer than 8 bytes of COMMANDS are left (at p)", Images::small,
            u8(32, 1 | 8L << 32));
        f.fault(3, 32, u8(16, 1));
        f.fault(3, 32, u8(16, 1 | 1L << 32));
        f.fault(3, 32, u8(16, 1 | 7L << 32));
        f.loads(u8(16, 1 | 8L << 32));
        f.fault(3, 40, u8(16, 2 | 8L << 32));
        f.fault(3, 40, u8(16, 2 | 15L << 32), u8(40, 1 | 8L << 32));
        f.loads(u8(16, 2 | 16L << 32), u8(40, 1 | 8L << 32));
    }

    private static void commandSize() {
        Faults f = new Faults("FAULT 3: its size is below 8, no multiple of 8 (at p + 4)", Images::small,
            u8(16, 1 | 24L << 32), u4(32, 1));
        for (long size : new long[] {0, 1, 4, 7, 9, 12, 15, 17, 20, 23}) {
            f.fault(3, 36, u4(36, size));
        }
        f.fault(3, 40, u4(36, 8));
        f.fault(3, 48, u4(36, 16));
        f.loads(u4(36, 24));
        f.loads(u4(36, 8), u8(40, 1 | 16L << 32), u4(16, 2));
        f.fault(3, 44, u4(36, 8), u8(40, 1 | 12L << 32), u4(16, 2));
    }

    private static void commandSizeBeyond() {
        Faults f = new Faults("FAULT 3: its size is beyond them (at p + 4)", Images::small,
            u8(16, 1 | 24L << 32), u4(32, 1));
        f.fault(3, 36, u4(36, 32));
        f.fault(3, 36, u4(36, MOST - 7));
        f.fault(3, 36, u4(36, MOST + 1));
        f.fault(3, 36, u4(36, MOST + 1 + 24));
        f.fault(3, 36, u4(36, ALL_ONES - 7));
        f.fault(3, 36, u4(36, 24 + (1L << 24)));
        f.fault(3, 44, u4(36, 8), u8(40, 1 | 24L << 32), u4(16, 2));
        // The command's bytes may go as far as the COMMANDS do, not as far as the IMAGE does.
        f.fault(3, 36, u4(20, 16), u4(36, 24));
        f.fault(3, 36, u4(20, 23), u4(36, 24));
        f.fault(3, 56, u4(20, 25), u4(36, 24));
    }

    private static void passedBy() {
        Faults f = new Faults("FAULT 4: a first u4 that is none of the three is passed by, but with bit 31 (at p)",
            Images::empty);
        for (long kind : new long[] {0, 1, 3, 0x18, 0x1A, 0x33, 0x34, 0x35, 0x100, 0x40000000L, MOST}) {
            f.loads(u4(56, kind));
        }
        long[] bad = {MOST + 1, 0x80000002L, 0x80000019L, 0x80000033L, 0x80000035L, 0x80000134L, 0xC0000034L,
            ALL_ONES};
        for (long kind : bad) {
            f.fault(4, 56, u4(56, kind));
            f.fault(4, 32, u4(32, kind));
        }
        // Its size is looked at ahead of that.
        f.fault(3, 60, u4(56, ALL_ONES), u4(60, 12));
        f.fault(3, 60, u4(56, 1), u4(60, 12));
        // What it would tell is not looked at.
        f.loads(u4(56, 1), u8(64, -1));
    }

    private static void fifthSegment() {
        Faults f = new Faults("FAULT 3: a fifth one (at p)", Images::four);
        Probe t = f.loads();
        t.dueCount(7, 4);
        // The tables and the bytes behind them become a command of 72 bytes.
        Faults five = new Faults("FAULT 3: a fifth one (at p)", Images::four, u8(16, 5 | 360L << 32),
            u8(320, 72L << 32));
        five.loads(u4(320, 1)).dueCount(7, 4);
        five.fault(3, 320, u4(320, 0x19));
        five.fault(3, 320, u4(320, 0x19), u4(324, 64), u4(20, 352));
        five.fault(3, 320, u4(320, 0x19), u4(384, 1));
        five.fault(3, 324, u4(320, 0x19), u4(324, 71));
        five.loads(u4(32, 1), u4(320, 0x19), u8(344, 0), u8(352, 0)).dueCount(7, 4);
    }

    private static void segmentSizeBelow72() {
        Faults f = new Faults("FAULT 3: a size below 72 (at p + 4)", Images::small, u4(16, 1));
        f.fault(3, 36, u8(20, 8), u4(36, 8));
        f.fault(3, 36, u4(20, 64), u4(36, 64));
        f.loads(u4(20, 72), u4(36, 72));
        // 72 and 80 for each of 2^32 - 1 SECTIONS, told in 32 bits, would be below 72.
        f.fault(3, 36, u4(20, 64), u4(36, 64), u4(96, ALL_ONES));
    }

    private static void segmentSizeAndSections() {
        Faults f = new Faults("FAULT 3: a size that does not go with its SECTIONS (at p + 4)", Images::wide,
            u4(16, 1), u4(104, 0), u8(136, 0), u8(144, 0));
        f.loads(u4(20, 72), u4(36, 72), u4(96, 0));
        f.fault(3, 36, u4(20, 72), u4(36, 72), u4(96, 1));
        f.fault(3, 36, u4(20, 152), u4(36, 152), u4(96, 0));
        f.loads(u4(20, 152), u4(36, 152), u4(96, 1));
        f.fault(3, 36, u4(20, 152), u4(36, 152), u4(96, 2));
        f.fault(3, 36, u4(20, 144), u4(36, 144), u4(96, 1));
        f.fault(3, 36, u4(20, 160), u4(36, 160), u4(96, 1));
        f.fault(3, 36, u4(20, 80), u4(36, 80), u4(96, 0));
        // So many have a size that is the same modulo 2^32.
        f.fault(3, 36, u4(20, 72), u4(36, 72), u4(96, 1L << 28));
        f.fault(3, 36, u4(20, 152), u4(36, 152), u4(96, (1L << 28) + 1));
        f.fault(3, 36, u4(20, 72), u4(36, 72), u4(96, MOST + 1));
    }

    /** A number of eight bytes that is not 0 to 2^31 - 1 is 5, at it. */
    private static void number(Faults f, int at) {
        for (long v : new long[] {MOST + 1, MOST + 2, 1L << 32, 1L << 40, Long.MAX_VALUE, Long.MIN_VALUE, -1, -256}) {
            f.fault(5, at, u8(at, v));
        }
        f.fault(5, at, u1(at + 3, 128));
        f.fault(5, at, u1(at + 4, 1));
        f.fault(5, at, u1(at + 7, 128));
    }

    private static void segmentNumbers() {
        Faults f = new Faults("FAULT 5: ADDRESS, SPAN, place, bytes are read", Images::small);
        for (int at = 56; at <= 80; at += 8) {
            number(f, at);
        }
        // As large as may be, each is another fault.
        f.fault(5, 56, u8(56, MOST));
        f.fault(5, 64, u8(64, MOST));
        f.fault(1, 72, u8(72, MOST));
        f.fault(1, 72, u8(80, MOST));
        Faults second = new Faults("FAULT 5: ADDRESS, SPAN, place, bytes of the second SEGMENT", Images::rich);
        for (int at = 208; at <= 232; at += 8) {
            number(second, at);
        }
        f.fault(5, 56, u8(56, -1), u8(64, -1), u8(72, -1), u8(80, -1));
        f.fault(5, 64, u8(64, -1), u8(72, -1), u8(80, -1));
        f.fault(5, 72, u8(72, -1), u8(80, -1));
        f.fault(5, 80, u8(80, -1), u8(64, 16385));
        f.loads(u8(56, 0));
    }

    private static void spansTogether() {
        Faults f = new Faults("FAULT 5: all SPANS together above 16384 (at p + 32)", Images::small);
        f.loads(u8(64, 16383));
        f.loads(u8(64, 16384)).dueMemory(65536 + 16383, 0);
        f.fault(5, 64, u8(64, 16385));
        f.fault(5, 64, u8(64, 65536));
    }

    private static void spansTogetherOfTwo() {
        Faults f = new Faults("FAULT 5: all SPANS together above 16384 (at p + 32)", Images::wide, u4(128, 1 << 20));
        f.loads(u8(136, 16384 - 1024));
        f.fault(5, 136, u8(136, 16384 - 1023));
        f.fault(5, 64, u8(64, 16385));
        f.loads(u8(64, 16384 - 1024));
        f.fault(5, 136, u8(64, 16384 - 1023));
        f.fault(5, 136, u8(64, 16384));
        f.loads(u8(64, 16384), u8(136, 0), u8(152, 0)).dueCount(7, 2);
        f.fault(5, 136, u8(64, 16384), u8(136, 1), u8(152, 0));
        f.fault(5, 136, u8(136, MOST));
        Faults four = new Faults("FAULT 5: all four SPANS together above 16384 (at p + 32)", Images::four,
            u8(272, 1 << 20));
        four.loads(u8(280, 16384 - 768));
        four.fault(5, 280, u8(280, 16384 - 767));
    }

    private static void addressAndSpan() {
        Faults f = new Faults("FAULT 5: ADDRESS and SPAN above 2^31 - 1 (at p + 24)", Images::small);
        f.loads(u8(56, MOST - 257));
        f.loads(u8(56, MOST - 256)).dueMemory((int) MOST - 1, 0);
        f.fault(5, 56, u8(56, MOST - 255));
        f.fault(5, 56, u8(56, MOST - 254));
        f.fault(5, 56, u8(56, MOST));
        f.loads(u8(56, MOST - 16), u8(64, 16));
        f.fault(5, 56, u8(56, MOST - 15), u8(64, 16));
        f.loads(u8(56, MOST), u8(64, 0), u8(80, 0), u4(192, 0));
    }

    private static void bytesBeyondTheImage() {
        Faults f = new Faults("FAULT 1: place and bytes go beyond the IMAGE (at p + 40)", Images::small, u4(192, 0));
        f.loads(u8(72, 208));
        f.loads(u8(72, 209)).dueMemory(65536 + 15, 0);
        f.fault(1, 72, u8(72, 210));
        f.loads(u8(80, 80));
        f.loads(u8(80, 81));
        f.fault(1, 72, u8(80, 82));
        f.loads(u8(72, 0));
        f.loads(u8(72, 0), u8(80, 225));
        f.fault(1, 72, u8(72, 0), u8(80, 226));
        f.fault(1, 72, u8(72, MOST));
        f.fault(1, 72, u8(80, MOST));
        f.fault(1, 72, u8(72, MOST), u8(80, MOST));
        f.loads(u8(72, 225), u8(80, 0));
        f.loads(u8(72, 224), u8(80, 1));
        f.fault(1, 72, u8(72, 225), u8(80, 1));
    }

    private static void moreBytesThanSpan() {
        Faults f = new Faults("FAULT 6: more bytes than SPAN (at p + 48)", Images::small);
        f.loads(u8(64, 17));
        f.loads(u8(64, 16));
        f.fault(6, 80, u8(64, 15));
        f.fault(6, 80, u8(64, 0));
        f.fault(6, 80, u8(64, 80), u8(80, 81));
        f.loads(u8(64, 81), u8(80, 81));
        Faults none = new Faults("FAULT 6: more bytes than SPAN, of none", Images::small, u8(64, 0), u4(192, 0));
        none.loads(u8(80, 0));
        none.fault(6, 80, u8(80, 1));
    }

    private static void overASegmentAhead() {
        // The first lies from 65536 on, the second behind it, 256 bytes each.
        Faults f = new Faults("FAULT 6: it lies over a SEGMENT ahead (at p + 24)", Images::four, u8(200, 0),
            u8(272, 512));
        f.loads(u8(128, 65536 + 256));
        f.loads(u8(128, 65536 + 257));
        f.fault(6, 128, u8(128, 65536 + 255));
        f.fault(6, 128, u8(128, 65536 + 1));
        f.fault(6, 128, u8(128, 65536));
        f.fault(6, 128, u8(128, 65536 - 1));
        f.fault(6, 128, u8(128, 65536 - 255));
        f.loads(u8(128, 65536 - 256));
        f.loads(u8(128, 65536 - 257));
        f.fault(6, 128, u8(128, 65535), u8(136, 258));
        f.fault(6, 128, u8(128, 65537), u8(136, 8));
        f.fault(6, 128, u8(128, 65536 + 255), u8(136, 8));
        f.loads(u8(128, 65536 - 8), u8(136, 8));
        f.fault(6, 128, u8(128, 65536 - 7), u8(136, 8));
        Faults last = new Faults("FAULT 6: it lies over the first, second or third ahead", Images::four);
        int fourth = 248 + 24;
        for (int s = 0; s < 3; s++) {
            last.fault(6, fourth, u8(fourth, 65536 + 256 * s));
            last.fault(6, fourth, u8(fourth, 65536 + 256 * s + 255));
        }
        last.loads(u8(fourth, 65536 + 256 * 3));
        last.loads(u8(fourth, 65536 - 256));
        last.fault(6, 176 + 24, u8(176 + 24, 65536 + 511));
        // The one behind is told of, not the one ahead.
        last.fault(6, 176 + 24, u8(104 + 24, 65536 + 512));
    }

    private static void emptySpansLieOverNone() {
        Faults f = new Faults("FAULT 6: a SPAN of 0 lies over none", Images::four, u8(136, 0), u8(152, 0));
        f.loads(u8(128, 65536));
        f.loads(u8(128, 65536 + 100));
        f.loads(u8(128, 65536 + 256));
        Faults ahead = new Faults("FAULT 6: none lies over a SPAN of 0", Images::four, u8(64, 0), u8(80, 0));
        ahead.loads(u8(128, 65536));
        ahead.loads(u8(128, 65536 - 100));
    }

    /** The COMMANDS become one SEGMENT's, whose SECTIONS lie in bytes that are 0. */
    private static Probe manySections(String title, int many) {
        Probe t = Images.wide(Faults.PROMISES + title);
        for (int k = 104; k < 216; k++) {
            t.x.damage(k, 0);
        }
        t.patch(16, 8, 1 | 72L + 80L * many << 32);
        t.patch(36, 4, 72 + 80 * many);
        t.patch(96, 4, many);
        return t;
    }

    private static void seventeenthSection() {
        String title = "FAULT 3: a 17th one (at it)";
        for (int many : new int[] {0, 1, 15, 16}) {
            manySections(title, many).dueLoad(0, 0, -1);
        }
        manySections(title, 17).dueLoad(0, 3, 104 + 80 * 16);
        manySections(title, 18).dueLoad(0, 3, 104 + 80 * 16);
        // The 16th is looked at ahead of the 17th, of the 17th nothing.
        manySections(title, 17).patch(104 + 80 * 15 + 40, 8, -1).dueLoad(0, 5, 104 + 80 * 15 + 40);
        manySections(title, 17).patch(104 + 80 * 16 + 40, 8, -1).dueLoad(0, 3, 104 + 80 * 16);
    }

    private static void seventeenthSectionOfTwoSegments() {
        String title = "FAULT 3: a 17th one of two SEGMENTS (at it)";
        for (int second = 3; second <= 5; second++) {
            Probe t = manySections(title, 12);
            int p = 104 + 80 * 12;
            t.patch(16, 8, 2 | 72L + 960 + 72 + 80L * second << 32);
            t.patch(p, 8, 0x19 | 72L + 80L * second << 32);
            t.patch(p + 24, 8, 2000);
            t.patch(p + 32, 8, 8);
            t.patch(p + 64, 4, second);
            for (int k = 0; k < second; k++) {
                t.patch(p + 72 + 80 * k + 32, 8, 2000);
            }
            t.dueLoad(0, second == 5 ? 3 : 0, second == 5 ? p + 72 + 80 * 4 : -1);
        }
    }

    private static void sectionNumbers() {
        Faults f = new Faults("FAULT 5: a SECTION's address and size are read", Images::rich);
        for (int q : new int[] {104, 256, 336}) {
            number(f, q + 32);
            number(f, q + 40);
            f.fault(7, q, u8(q + 32, MOST));
            f.fault(7, q, u8(q + 40, MOST));
            f.fault(5, q + 32, u8(q + 32, -1), u8(q + 40, -1));
        }
        f.fault(5, 144, u8(144, -1), u8(136, 0));
    }

    private static void sectionWithin() {
        // The first SEGMENT has 512 bytes from 65536 on.
        Faults f = new Faults("FAULT 7: it is not within ADDRESS and SPAN (at it)", Images::rich);
        int[][] good = {{0, 0}, {0, 1}, {0, 511}, {0, 512}, {1, 511}, {511, 0}, {511, 1}, {512, 0}};
        int[][] bad = {{-1, 0}, {-1, 1}, {-1, 513}, {0, 513}, {1, 512}, {511, 2}, {512, 1}, {513, 0}, {600, 0},
            {-300, 200}};
        for (int[] r : good) {
            f.loads(u8(136, 65536 + r[0]), u8(144, r[1]));
        }
        for (int[] r : bad) {
            f.fault(7, 104, u8(136, 65536 + r[0]), u8(144, r[1]));
        }
        f.fault(7, 104, u8(136, 0), u8(144, 0));
        f.fault(7, 104, u8(136, MOST), u8(144, MOST));
        // Another SEGMENT's bytes are not its own.
        f.fault(7, 256, u8(288, 65536), u8(296, 8));
        f.fault(7, 256, u8(288, 65536 + 511), u8(296, 1));
        f.loads(u8(288, 65536 + 512), u8(296, 512));
        f.fault(7, 336, u8(368, 65536 + 1024), u8(376, 1));
        f.loads(u8(368, 65536 + 1024), u8(376, 0));
    }

    /** The fourth SEGMENT's COMMAND becomes three of 24 bytes: at 248, 272 and 296. */
    private static Faults threeMore(String title) {
        return new Faults(title, Images::four, u4(16, 8), u8(248, 1 | 24L << 32), u8(272, 1 | 24L << 32),
            u8(296, 1 | 24L << 32), t -> t.patch((int) t.read(352, 4) + 28, 4, 3));
    }

    private static void secondSymtab() {
        Faults f = threeMore("FAULT 3: a second SYMTAB (at p)");
        f.loads();
        Faults.Change first = t -> t.patch(248, 4, 2).patch(256, 8, 0).patch(264, 8, 0);
        f.fault(3, 320, first);
        f.loads(first, u4(320, 1));
        f.fault(3, 272, first, u4(272, 2));
        f.fault(3, 320, first, u4(324, 16));
        f.fault(3, 320, first, u4(332, 65));
    }

    private static void symtabSize() {
        Faults f = new Faults("FAULT 3: another size of SYMTAB (at p + 4)", Images::empty, u4(56, 1));
        f.loads();
        f.fault(3, 36, u4(36, 8));
        f.fault(3, 36, u4(36, 16));
        f.fault(3, 36, u4(36, 32));
        f.fault(3, 36, u4(36, 40), u4(16, 1));
        f.fault(3, 36, u4(36, 16), u4(44, 65));
    }

    private static void moreThan64Symbols() {
        Faults f = new Faults("FAULT 3: more than 64 SYMBOLS (at p + 12)", Images::wide, u4(184, 216));
        for (int many : new int[] {0, 1, 63, 64}) {
            f.loads(u4(188, many)).dueCount(9, many);
        }
        f.fault(3, 188, u4(188, 65));
        f.fault(3, 188, u4(188, MOST));
        f.fault(3, 188, u4(188, MOST + 1));
        f.fault(3, 188, u4(188, ALL_ONES));
        f.fault(3, 188, u4(188, 1L << 28));
        f.fault(3, 188, u8(184, ALL_ONES | 65L << 32));
    }

    private static void symbolsBeyondTheImage() {
        Faults f = new Faults("FAULT 1: SYMBOLS go beyond the IMAGE (at p + 8)", Images::rich);
        f.fault(1, 424, u4(424, 1228 - 31));
        f.fault(1, 424, u4(424, 1228));
        f.fault(1, 424, u4(424, MOST));
        f.fault(1, 424, u4(424, MOST + 1));
        f.fault(1, 424, u4(424, ALL_ONES));
        f.fault(1, 424, u4(424, ALL_ONES - 31));
        f.fault(1, 424, u4(428, 3));
        f.loads(u4(428, 1));
        f.fault(1, 424, u4(424, 1228 - 31), u4(432, ALL_ONES));
        // Two SYMBOLS in bytes that are 0, at the end of the IMAGE and one byte behind it.
        Faults wide = new Faults("FAULT 1: SYMBOLS go beyond the IMAGE (at p + 8)", Images::wide, u4(200, 1),
            u4(188, 2), u4(192, 216), Faults.cut(216 + 2048));
        wide.loads(u4(184, 216 + 2048 - 33));
        wide.loads(u4(184, 216 + 2048 - 32)).dueCount(9, 2);
        wide.fault(1, 184, u4(184, 216 + 2048 - 31));
        Faults none = new Faults("FAULT 1: no SYMBOLS at the end of the IMAGE, or behind it", Images::empty);
        none.loads(u4(40, 105));
        none.fault(1, 40, u4(40, 106));
    }

    private static void stringsBeyondTheImage() {
        Faults f = new Faults("FAULT 1: STRINGS go beyond the IMAGE (at p + 16)", Images::rich);
        f.loads();
        f.loads(u4(432, 1215), u4(436, 13), u4(1184, 2), u4(1200, 8));
        f.fault(1, 432, u4(432, 1217));
        f.fault(1, 432, u4(436, 13));
        f.fault(1, 432, u4(432, MOST));
        f.fault(1, 432, u4(432, ALL_ONES));
        f.fault(1, 432, u4(432, ALL_ONES - 11));
        f.fault(1, 432, u4(436, MOST));
        f.fault(1, 432, u4(436, ALL_ONES));
        f.fault(1, 432, u4(432, ALL_ONES), u4(436, ALL_ONES));
        Faults none = new Faults("FAULT 1: no STRINGS at the end of the IMAGE, or behind it", Images::empty, u4(52, 0));
        none.loads(u4(48, 105));
        none.fault(1, 48, u4(48, 106));
        // Its last byte cut, STRINGS go beyond the IMAGE.
        new Faults("FAULT 1: STRINGS go beyond an IMAGE that is cut", Images::rich).fault(1, 432, Faults.cut(1227));
    }

    private static void secondChains() {
        Faults f = threeMore("FAULT 3: a second CHAINS (at p)");
        // At 272 16 bytes of CHAINS and 8 that are passed by; FIXUPS are looked at once.
        Faults.Change first = t -> t.patch(16, 4, 9).patch(272, 8, 0x80000034L | 16L << 32)
            .patch(280, 8, t.read(352, 8)).patch(288, 8, 1 | 8L << 32);
        f.loads(first, u4(344, 1));
        f.fault(3, 344, first);
        f.fault(3, 344, first, u4(348, 8), u4(16, 10));
        f.fault(3, 344, first, u4(352, ALL_ONES));
    }

    private static void chainsSize() {
        Faults f = new Faults("FAULT 3: another size of CHAINS (at p + 4)", Images::small);
        f.loads();
        f.fault(3, 132, u4(132, 8));
        f.fault(3, 132, u4(132, 24), u4(20, 120));
        f.fault(3, 132, u4(132, 32), u4(20, 128));
        f.fault(3, 132, u4(132, 8), u4(136, ALL_ONES));
    }

    private static void chainsBeyondTheImage() {
        Faults f = new Faults("FAULT 1: FIXUPS go beyond the IMAGE (at p + 8)", Images::small);
        f.loads(u4(140, 64));
        f.loads(u4(140, 65));
        f.fault(1, 136, u4(140, 66));
        f.fault(1, 136, u4(136, 166));
        f.fault(9, 165, u4(136, 165));
        f.fault(1, 136, u4(136, MOST));
        f.fault(1, 136, u4(136, MOST + 1));
        f.fault(1, 136, u4(136, ALL_ONES));
        f.fault(1, 136, u4(136, ALL_ONES - 59));
        f.fault(1, 136, u4(140, MOST));
        f.fault(1, 136, u4(140, ALL_ONES));
        f.fault(1, 136, u4(136, ALL_ONES), u4(140, ALL_ONES));
    }

    private static void notUsedUp() {
        Faults f = new Faults("FAULT 3: behind the last COMMAND their bytes are not used up (there)", Images::small);
        f.fault(3, 32, u4(16, 0));
        f.fault(3, 104, u4(16, 1));
        f.fault(3, 128, u4(16, 2));
        f.loads(u4(16, 3));
        f.fault(3, 144, u4(20, 113));
        f.fault(3, 144, u4(20, 120));
        f.loads(u8(16, 0));
        f.fault(3, 32, u8(16, 1L << 32));
        // It comes ahead of SYMBOLS and FIXUPS.
        f.fault(3, 144, u4(20, 113), u4(160, 1));
    }

    private static void symbolWithoutZero() {
        // STRINGS at 1216: a 0, alpha, a 0, beta, a 0.
        Faults f = new Faults("FAULT 8: no 0 lies where its NAME is, or behind, within STRINGS (at it)", Images::rich);
        f.fault(8, 1200, u1(1227, 'x'));
        f.fault(8, 1200, u4(436, 11));
        f.fault(8, 1184, u1(1227, 'x'), u1(1222, 'x'));
        f.fault(8, 1184, u4(436, 6));
        f.fault(8, 1200, u4(436, 7));
        f.fault(8, 1184, u4(436, 0));
        f.fault(8, 1184, u4(436, 1));
        f.loads(u1(1222, 'x'));
        f.loads(u1(1216, 'x'));
        f.loads(u4(436, 7), u4(1200, 6));
        f.loads(u4(436, 1), u4(1184, 0), u4(1200, 0));
        // A 0 behind STRINGS is none within them.
        f.fault(8, 1184, u4(432, 1217), u4(436, 5), u4(1184, 0));
        f.fault(8, 1200, u4(432, 1217), u4(436, 6), u4(1184, 0));
        // From the IMAGE's beginning on there are five bytes ahead of the first 0.
        Faults head = new Faults("FAULT 8: STRINGS that begin with the IMAGE", Images::rich, u4(432, 0), u4(1184, 0),
            u4(1200, 0));
        head.fault(8, 1184, u4(436, 0));
        head.fault(8, 1184, u4(436, 5));
        head.loads(u4(436, 6));
    }

    private static void symbolNameBeyondStrings() {
        Faults f = new Faults("FAULT 8: its NAME lies at the last byte of STRINGS, or behind (at it)", Images::rich);
        f.loads(u4(1184, 0));
        f.loads(u4(1184, 10));
        f.loads(u4(1184, 11));
        f.fault(8, 1184, u4(1184, 12));
        f.fault(8, 1184, u4(1184, 13));
        f.fault(8, 1184, u4(1184, MOST));
        f.fault(8, 1184, u4(1184, MOST + 1));
        f.fault(8, 1184, u4(1184, ALL_ONES));
        f.fault(8, 1184, u4(1184, ALL_ONES - 1215));
        f.fault(8, 1200, u4(1200, 12));
        f.loads(u4(1200, 11));
    }

    private static void symbolSection() {
        Faults f = new Faults("FAULT 8: its SECTION is above how many there are (at its byte)", Images::rich);
        for (int good : new int[] {0, 1, 2, 3}) {
            f.loads(u1(1189, good));
            f.loads(u1(1205, good));
        }
        for (int bad : new int[] {4, 5, 127, 128, 255}) {
            f.fault(8, 1189, u1(1189, bad));
            f.fault(8, 1205, u1(1205, bad));
        }
        f.fault(8, 1184, u1(1189, 4), u4(1184, 12));
        for (int k : new int[] {1188, 1190, 1191}) {
            f.loads(u1(k, 255));
        }
        Faults none = new Faults("FAULT 8: a SECTION without any there are", Images::wide, u8(184, 216 | 1L << 32));
        none.loads();
        none.fault(8, 221, u1(221, 1));
    }

    private static void symbolAddress() {
        Faults f = new Faults("FAULT 5: a SYMBOL's address is read", Images::rich);
        for (int at : new int[] {1192, 1208}) {
            number(f, at);
            f.loads(u8(at, 0));
            f.loads(u8(at, MOST));
        }
        f.fault(8, 1189, u8(1192, -1), u1(1189, 4));
        f.fault(5, 1192, u8(1192, -1), u4(1200, 12));
    }
}
