/** Promises 13 to 16: the image, byte by byte where the document tells it. */
public final class ImageTest {
    public static void main(String[] args) {
        empty();
        whole();
        pagesOnFours();
        sectionsInOrderOfTheirSegments();
        largest();
        againBehindChange();
        bytes();
        cut();
        Probe.finish();
    }

    private static void empty() {
        Probe t = new Probe("an image of nothing");
        t.due("write()", t.x.write(), 105);
        t.due("count(5)", t.x.count(5), 105);
        long[] numbers = {0xFEEDFACFL, 0x0100000C, 0, 6, 2, 40, 0x85, 0, 2, 24, 104, 0, 104, 1,
            0x80000034L, 16, 72, 32, 0, 28, 32, 32, 0, 1, 0, 0};
        for (int k = 0; k < numbers.length; k++) {
            t.dueNumber("u4", 4 * k, 4, numbers[k]);
        }
        t.due("STRINGS", t.x.image(104), 0);
    }

    private static void whole() {
        Probe t = new Probe("an image of some of all");
        t.x.anew(0x10000, 512);
        t.segment("code", 10, 5);
        t.segment("data", 1024, 3);
        t.segment("rest", 3, 1);
        t.tape("\1\2\3").x.fill(2, 0);
        t.section("text", 0, 2, 8);
        t.section("sixteen.bytes..!", 1, 16, 1000);
        t.section("bss", 1, 1024, 0);
        t.symbol("main", 1, 1);
        t.symbol("end", 2, 1000);
        t.imports("puts", 2, false);
        t.imports("opt", 3, true);
        t.x.rebase(1, 504, 0xABCDEF012L, 0x5A);
        t.x.bind(1, 0, 1, 7);
        t.x.rebase(1, 512, 1, 0);
        t.x.bind(1, 1016, 0, 255);
        int size = t.x.write();
        // 32 + 3 * 72 + 3 * 80 + 40 = 528: commands end there.
        t.dueNumber("how many COMMANDS", 16, 4, 5);
        t.dueNumber("their bytes", 20, 4, 496);
        segmentAt(t, 32, 152, "code\0\0\0\0\0\0\0\0\0\0\0\0", new long[] {0x10000, 512, 528, 10}, 5, 1);
        sectionAt(t, 104, "text\0\0\0\0\0\0\0\0\0\0\0\0code\0\0\0\0\0\0\0\0\0\0\0\0", 0x10002, 8, 530);
        segmentAt(t, 184, 232, "data\0\0\0\0\0\0\0\0\0\0\0\0", new long[] {0x10200, 1024, 544, 1024}, 3, 2);
        sectionAt(t, 256, "sixteen.bytes..!data\0\0\0\0\0\0\0\0\0\0\0\0", 0x10210, 1000, 560);
        sectionAt(t, 336, "bss\0\0\0\0\0\0\0\0\0\0\0\0\0data\0\0\0\0\0\0\0\0\0\0\0\0", 0x10600, 0, 1568);
        segmentAt(t, 416, 72, "rest\0\0\0\0\0\0\0\0\0\0\0\0", new long[] {0x10600, 512, 1568, 3}, 1, 0);
        // FIXUPS from 1576 on: 28, STARTS 16, PAGES 26, filled to 72, IMPORTS 8, NAMES 9.
        long[] tables = {2, 24, 1672, 2, 1704, 10, 0x80000034L, 16, 1576, 89};
        for (int k = 0; k < tables.length; k++) {
            t.dueNumber("SYMTAB and CHAINS", 488 + 4 * k, 4, tables[k]);
        }
        t.dueNumber("bytes between", 538, 6, 0);
        t.dueNumber("a BIND", 544, 8, 1L << 63 | 126L << 51 | 7L << 24 | 1);
        t.dueNumber("a REBASE, the page's last", 544 + 504, 8, 0x5AL << 36 | 0xABCDEF012L);
        t.dueNumber("a REBASE, the next page's first", 544 + 512, 8, 126L << 51 | 1);
        t.dueNumber("a BIND, the last", 544 + 1016, 8, 1L << 63 | 255L << 24);
        t.dueText("the last segment", 1568, "\1\2\3\0\0\0\0\0");
        long[] fixups = {0, 28, 72, 80, 2, 1, 0, 3, 0, 16, 0, 26};
        for (int k = 0; k < fixups.length; k++) {
            t.dueNumber("FIXUPS", 1576 + 4 * k, 4, fixups[k]);
        }
        t.dueNumber("PAGE", 1624, 2, 512);
        t.dueNumber("2", 1626, 2, 2);
        t.dueNumber("ADDRESS less BASE", 1628, 8, 512);
        t.dueNumber("0", 1636, 4, 0);
        t.dueNumber("how many pages", 1640, 2, 2);
        t.dueNumber("the first place of a page", 1642, 2, 0);
        t.dueNumber("the first place of a page", 1644, 2, 0);
        t.dueNumber("bytes between", 1646, 2, 0);
        t.dueNumber("an IMPORT", 1648, 4, 2);
        t.dueNumber("a WEAK IMPORT", 1652, 4, 3 | 256 | 5 << 9);
        t.dueText("NAMES", 1656, "puts\0opt\0\0\0\0\0\0\0\0");
        t.dueText("SYMBOLS", 1672, "\1\0\0\0\17\1\0\0\3\0\1\0\0\0\0\0\6\0\0\0\17\2\0\0\u00f8\5\1\0\0\0\0\0");
        t.dueText("STRINGS", 1704, "\0main\0end\0");
        t.due("write()", size, 1714);
    }

    private static void segmentAt(Probe t, int p, int size, String name, long[] where, int allowed, int sections) {
        t.dueNumber("SEGMENT", p, 4, 0x19);
        t.dueNumber("its size", p + 4, 4, size);
        t.dueText("its NAME", p + 8, name);
        for (int k = 0; k < 4; k++) {
            t.dueNumber("ADDRESS, SPAN, place, bytes", p + 24 + 8 * k, 8, where[k]);
        }
        t.dueNumber("7", p + 56, 4, 7);
        t.dueNumber("allowed", p + 60, 4, allowed);
        t.dueNumber("how many SECTIONS", p + 64, 4, sections);
        t.dueNumber("0", p + 68, 4, 0);
    }

    private static void sectionAt(Probe t, int q, String names, long address, long size, long place) {
        t.dueText("NAMES of a SECTION", q, names);
        t.dueNumber("its address", q + 32, 8, address);
        t.dueNumber("its size", q + 40, 8, size);
        t.dueNumber("its place", q + 48, 4, place);
        for (int k = 52; k < 80; k += 4) {
            t.dueNumber("0", q + k, 4, 0);
        }
    }

    private static void pagesOnFours() {
        Probe t = new Probe("PAGES from multiples of 4 on");
        t.segment("a", 600, 0);
        t.segment("b", 8, 0);
        t.segment("c", 8, 0);
        t.imports("i", 1, false);
        t.x.rebase(0, 260, 0, 0);
        t.x.rebase(2, 0, 0, 0);
        t.x.write();
        int f = (int) t.read(32 + 3 * 72 + 24 + 8, 4);
        // STARTS have 16 bytes, PAGES of a segment of three pages 28, of one page 24.
        t.dueNumber("where IMPORTS are", f + 8, 4, 28 + 16 + 28 + 24);
        t.dueNumber("STARTS", f + 32, 4, 16);
        t.dueNumber("STARTS without pointers", f + 36, 4, 0);
        t.dueNumber("STARTS", f + 40, 4, 44);
        t.dueText("first places", f + 28 + 16 + 20, "\3\0\u00ff\u00ff\4\0\u00ff\u00ff");
        t.dueNumber("ADDRESS less BASE", f + 28 + 44 + 8, 8, 1024);
        Probe u = new Probe("PAGES filled up to a multiple of 4");
        u.segment("a", 300, 0);
        u.segment("b", 300, 0);
        u.x.rebase(0, 256, 0, 0);
        u.x.rebase(1, 8, 0, 0);
        u.x.write();
        f = (int) u.read(32 + 2 * 72 + 24 + 8, 4);
        u.dueNumber("STARTS", f + 32, 4, 12);
        u.dueNumber("STARTS", f + 36, 4, 40);
        u.dueNumber("bytes between", f + 28 + 12 + 26, 2, 0);
        u.dueNumber("how many bytes FIXUPS have", 32 + 2 * 72 + 24 + 12, 4, 28 + 40 + 28);
    }

    private static void sectionsInOrderOfTheirSegments() {
        Probe t = new Probe("SECTIONS told out of order");
        t.segment("a", 8, 0);
        t.segment("b", 8, 0);
        t.section("of.b", 1, 0, 8);
        t.section("of.a", 0, 4, 4);
        t.symbol("in.b", 1, 3);
        t.symbol("in.a", 2, 0);
        t.x.write();
        t.dueText("the SECTION of the first SEGMENT", 32 + 72, "of.a");
        t.dueText("the SECTION of the second SEGMENT", 32 + 72 + 80 + 72, "of.b");
        int at = (int) t.read(32 + 2 * 152 + 8, 4);
        t.due("a SYMBOL's SECTION as told", t.x.image(at + 5), 1);
        t.dueNumber("its address", at + 8, 8, 65536 + 256 + 3);
        t.due("a SYMBOL's SECTION as told", t.x.image(at + 16 + 5), 2);
        t.dueNumber("its address", at + 24, 8, 65536 + 4);
        t.dueLoad(0, 0, -1);
    }

    private static void largest() {
        Probe t = new Probe("the largest image");
        String name = "sixteen.bytes..!";
        for (int k = 0; k < 4; k++) {
            t.segment(name, 1024, 7);
        }
        for (int k = 0; k < 8; k++) {
            t.section(name, k % 4, 0, 1024);
        }
        for (int k = 0; k < 20; k++) {
            t.symbol(name, 1 + k % 8, 1024);
            t.imports(name, 3, true);
        }
        for (int k = 0; k < 100; k++) {
            t.x.bind(k % 4, 8 * k, k % 20, 255);
        }
        t.due("write()", t.x.write(), 6357);
        t.due("the last byte of a NAME", t.x.image(6355), '!');
        t.due("the last byte", t.x.image(6356), 0);
        t.due("no byte behind", t.x.image(6357), -1);
        t.dueLoad(0, 0, -1);
        t.due("VISITS", t.x.count(8), 100);
    }

    private static void againBehindChange() {
        Probe t = new Probe("an image is as it was written");
        t.x.write();
        t.segment("a", 8, 0);
        t.due("bytes", t.x.count(5), 105);
        t.dueLoad(0, 0, -1);
        t.due("SEGMENTS loaded", t.x.count(7), 0);
        t.x.write();
        t.dueLoad(0, 0, -1);
        t.due("SEGMENTS loaded", t.x.count(7), 1);
        t.x.anew(0, 256);
        t.due("write()", t.x.write(), 105);
        t.due("no byte behind", t.x.image(105), -1);
    }

    private static void bytes() {
        Probe t = new Probe("promises 14 and 15");
        t.due("no byte yet", t.x.image(0), -1);
        t.due("none to damage", t.x.damage(0, 0), false);
        t.x.write();
        t.due("image(-1)", t.x.image(-1), -1);
        t.due("image(min)", t.x.image(Integer.MIN_VALUE), -1);
        t.due("image(max)", t.x.image(Integer.MAX_VALUE), -1);
        t.due("damage(104, 255)", t.x.damage(104, 255), true);
        t.due("image(104)", t.x.image(104), 255);
        t.due("damage(104, -1)", t.x.damage(104, -1), false);
        t.due("damage(104, 256)", t.x.damage(104, 256), false);
        t.due("damage(105, 0)", t.x.damage(105, 0), false);
        t.due("damage(-1, 0)", t.x.damage(-1, 0), false);
        t.due("image(104)", t.x.image(104), 255);
        t.due("image(103)", t.x.image(103), 0);
        t.x.write();
        t.due("image(104), written again", t.x.image(104), 0);
    }

    private static void cut() {
        Probe t = new Probe("promise 16");
        t.due("cut(1) of nothing", t.x.cut(1), false);
        t.due("cut(0) of nothing", t.x.cut(0), true);
        t.x.write();
        t.due("cut(-1)", t.x.cut(-1), false);
        t.due("cut(106)", t.x.cut(106), false);
        t.due("cut(105)", t.x.cut(105), true);
        t.due("count(5)", t.x.count(5), 105);
        t.due("cut(40)", t.x.cut(40), true);
        t.due("count(5)", t.x.count(5), 40);
        t.due("image(39)", t.x.image(39), 0);
        t.due("image(36)", t.x.image(36), 24);
        t.due("image(40)", t.x.image(40), -1);
        t.due("damage(40, 1)", t.x.damage(40, 1), false);
        t.due("cut(41)", t.x.cut(41), false);
    }
}
