/** The faults of the loader, each with its kind and its place, in the document's order. */
public final class FaultTest {
    private static final long MOST = Integer.MAX_VALUE;

    public static void main(String[] args) {
        head();
        commands();
        sixteenCommands();
        fifthSegment();
        segment();
        segmentsOver();
        sections();
        seventeenthSection();
        symtab();
        secondTables();
        chains();
        symbols();
        fixups();
        imports();
        sixtyFour();
        pages();
        pagesAheadOfChains();
        firstPlaces();
        pointers();
        steps();
        mostPointers();
        slide();
        Probe.finish();
    }

    /** One segment of 16 bytes at 144, one pointer at 8, fixups from 160 on, 225 bytes in all. */
    private static Probe small(String title) {
        Probe t = new Probe(title);
        t.segment("A", 16, 3);
        t.x.rebase(0, 8, 70000, 5);
        t.due("write()", t.x.write(), 225);
        t.dueLoad(0, 0, -1);
        return t;
    }

    private static void head() {
        Probe t = small("head");
        t.dueFault(0, 4, 0xFEEDFACEL, 2, 0);
        t.dueFault(3, 1, 0, 2, 0);
        t.dueFault(4, 4, 0, 0, -1);
        t.dueFault(16, 4, 17, 3, 16);
        t.dueFault(16, 4, 0xFFFFFFFFL, 3, 16);
        t.dueFault(20, 4, 194, 1, 20);
        t.dueFault(20, 4, 0xFFFFFFFFL, 1, 20);
        t.dueFault(20, 4, 193, 3, 144);
        t.patch(16, 4, 17);
        t.patch(20, 4, 0xFFFFFFFFL);
        t.dueLoad(0, 3, 16);
        t.x.damage(0, 0);
        t.dueLoad(0, 2, 0);
        t.x.cut(32);
        t.dueLoad(0, 2, 0);
        t.x.cut(31);
        t.dueLoad(0, 1, 31);
        t.x.cut(0);
        t.dueLoad(0, 1, 0);
    }

    private static void commands() {
        Probe t = small("commands");
        t.dueFault(16, 4, 0, 3, 32);
        t.dueFault(16, 4, 2, 3, 128);
        t.dueFault(16, 4, 4, 3, 144);
        t.dueFault(20, 4, 120, 3, 144);
        t.dueFault(20, 4, 103, 3, 128);
        t.dueFault(20, 4, 104, 3, 132);
        t.dueFault(20, 4, 7, 3, 32);
        t.dueFault(36, 4, 7, 3, 36);
        t.dueFault(36, 4, 0, 3, 36);
        t.dueFault(36, 4, 76, 3, 36);
        t.dueFault(36, 4, 120, 3, 36);
        t.dueFault(36, 4, 0x80000048L, 3, 36);
        t.dueFault(32, 4, 0x80000019L, 4, 32);
        t.dueFault(32, 4, 0xFFFFFFFFL, 4, 32);
        t.dueFault(128, 4, 0x80000035L, 4, 128);
        t.dueFault(104, 4, 0x7FFFFFFFL, 0, -1);
        // Without a segment there is nothing that STARTS could tell of.
        t.dueFault(32, 4, 0, 9, 188);
        t.dueFault(128, 4, 0x34, 0, -1);
        t.patch(32, 4, 0);
        t.patch(188, 4, 0);
        t.dueLoad(0, 0, -1);
        t.due("SEGMENTS loaded", t.x.count(7), 0);
    }

    private static void sixteenCommands() {
        Probe t = new Probe("sixteen commands");
        t.segment("a", 1, 0);
        t.section("s", 0, 0, 1);
        t.x.write();
        // The segment's command becomes fourteen that are passed by.
        t.patch(16, 4, 16);
        for (int p = 32; p < 32 + 152; p += 8) {
            t.patch(p, 8, 1 | 8L << 32);
        }
        t.patch(32, 8, 1 | 48L << 32);
        t.patch((int) t.read(32 + 152 + 24 + 8, 4) + 28, 4, 0);
        t.dueLoad(0, 0, -1);
        t.dueFault(16, 4, 17, 3, 16);
        t.dueFault(16, 4, 15, 3, 32 + 152 + 24);
    }

    private static void fifthSegment() {
        Probe t = new Probe("a fifth segment");
        for (int s = 0; s < 4; s++) {
            t.segment("s" + s, 8, 0);
        }
        t.x.write();
        // The tables make room: behind them come bytes of the image as a fifth command.
        int p = 32 + 4 * 72;
        t.patch(p, 8, 0x19 | 72L << 32);
        t.patch(20, 4, 5 * 72);
        t.patch(16, 4, 5);
        t.dueLoad(0, 3, p);
        t.patch(p, 4, 5);
        t.dueLoad(0, 0, -1);
        t.due("SEGMENTS loaded", t.x.count(7), 4);
    }

    private static void segment() {
        Probe t = small("segment");
        t.dueFault(36, 4, 64, 3, 36);
        t.dueFault(96, 4, 1, 3, 36);
        t.dueFault(96, 4, 0xFFFFFFFFL, 3, 36);
        for (int at = 56; at <= 80; at += 8) {
            t.dueFault(at, 8, MOST + 1, 5, at);
            t.dueFault(at, 8, -1, 5, at);
            t.dueFault(at + 7, 1, 128, 5, at);
        }
        t.dueFault(64, 8, 16385, 5, 64);
        t.dueFault(64, 8, 16384, 0, -1);
        t.dueFault(64, 8, MOST, 5, 64);
        t.dueFault(56, 8, MOST - 255, 5, 56);
        t.dueFault(56, 8, MOST, 5, 56);
        t.dueFault(56, 8, MOST - 256, 0, -1);
        t.dueFault(72, 8, 210, 1, 72);
        t.dueFault(72, 8, 209, 0, -1);
        t.dueFault(72, 8, MOST, 1, 72);
        t.dueFault(80, 8, 82, 1, 72);
        t.dueFault(80, 8, 81, 0, -1);
        t.dueFault(64, 8, 15, 6, 80);
        t.dueFault(64, 8, 16, 0, -1);
        t.patch(64, 8, 15);
        t.dueFault(72, 8, 210, 1, 72);
        t.dueFault(56, 8, MOST, 5, 56);
    }

    private static void segmentsOver() {
        Probe t = new Probe("segments over one another");
        t.segment("a", 16, 0);
        t.segment("b", 16, 0);
        t.segment("c", 16, 0);
        t.x.write();
        int b = 32 + 72 + 24;
        int c = b + 72;
        t.dueFault(b, 8, 65536, 6, b);
        t.dueFault(b, 8, 65536 + 255, 6, b);
        t.dueFault(b, 8, 65536 - 255, 6, b);
        t.dueFault(b, 8, 65536 - 256, 0, -1);
        t.dueFault(b, 8, 65536 + 512 + 255, 6, c);
        t.dueFault(b, 8, 65536 + 512 + 256, 0, -1);
        t.dueFault(c, 8, 65536 + 200, 6, c);
        t.dueFault(c, 8, 65536 + 511, 6, c);
        t.dueFault(c + 8, 8, 16384 - 511, 5, c + 8);
        t.dueFault(c + 8, 8, 16384 - 512, 0, -1);
        t.dueFault(b + 8, 8, 257, 6, c);
        t.dueFault(b + 8, 8, 255, 0, -1);
        t.dueFault(b + 24, 8, 257, 1, b + 16);
    }

    private static void sections() {
        Probe t = new Probe("sections");
        t.segment("a", 16, 0);
        t.section("s", 0, 0, 16);
        t.section("t", 0, 16, 0);
        t.x.write();
        int q = 32 + 72;
        t.dueFault(q + 32, 8, MOST + 1, 5, q + 32);
        t.dueFault(q + 40, 8, MOST + 1, 5, q + 40);
        t.dueFault(q + 40, 8, -1, 5, q + 40);
        t.dueFault(q + 32, 8, 65535, 7, q);
        t.dueFault(q + 40, 8, 257, 7, q);
        t.dueFault(q + 40, 8, 256, 0, -1);
        t.dueFault(q + 40, 8, MOST, 7, q);
        t.dueFault(q + 32, 8, 65536 + 240, 0, -1);
        t.dueFault(q + 32, 8, 65536 + 241, 7, q);
        t.dueFault(q + 80 + 32, 8, 65536 + 256, 0, -1);
        t.dueFault(q + 80 + 32, 8, 65536 + 257, 7, q + 80);
        t.dueFault(q + 80 + 32, 8, MOST, 7, q + 80);
    }

    private static void seventeenthSection() {
        Probe t = new Probe("a 17th section");
        t.x.anew(0, 256);
        t.segment("a", 1024, 0);
        t.segment("b", 1024, 0);
        t.x.write();
        // All commands but the first become a part of it, whose sections lie in bytes that are 0.
        for (int k = 104; k < 32 + 144 + 40; k++) {
            t.x.damage(k, 0);
        }
        t.patch(16, 4, 1);
        t.patch(20, 4, 72 + 80 * 17);
        t.patch(36, 4, 72 + 80 * 17);
        t.patch(96, 4, 17);
        t.dueLoad(0, 3, 104 + 80 * 16);
        t.patch(104 + 80 * 15 + 40, 8, -1);
        t.dueLoad(0, 5, 104 + 80 * 15 + 40);
        t.patch(104 + 80 * 15 + 40, 8, 0);
        t.patch(20, 4, 72 + 80 * 16);
        t.patch(36, 4, 72 + 80 * 16);
        t.patch(96, 4, 16);
        t.dueLoad(0, 0, -1);
        t.due("SEGMENTS loaded", t.x.count(7), 1);
    }

    private static void symtab() {
        Probe t = small("symtab");
        t.dueFault(108, 4, 16, 3, 108);
        t.dueFault(108, 4, 32, 3, 108);
        t.dueFault(116, 4, 65, 3, 116);
        t.dueFault(116, 4, 0xFFFFFFFFL, 3, 116);
        t.dueFault(116, 4, 64, 1, 112);
        t.dueFault(116, 4, 1, 1, 112);
        t.dueFault(112, 4, 225, 0, -1);
        t.dueFault(112, 4, 226, 1, 112);
        t.dueFault(112, 4, 0xFFFFFFFFL, 1, 112);
        t.dueFault(120, 4, 225, 1, 120);
        t.dueFault(120, 4, 0xFFFFFFFFL, 1, 120);
        t.dueFault(124, 4, 2, 1, 120);
        t.dueFault(124, 4, 0, 0, -1);
        t.dueFault(124, 4, 0xFFFFFFFFL, 1, 120);
    }

    private static void secondTables() {
        Probe t = new Probe("a second table");
        t.segment("a", 8, 0);
        t.segment("b", 8, 0);
        t.segment("c", 8, 0);
        t.x.write();
        int p = 32 + 2 * 72;
        // The third segment's command becomes three of 24 bytes.
        t.patch(16, 4, 7);
        for (int k = 0; k < 3; k++) {
            t.patch(p + 24 * k, 8, 5 | 24L << 32);
        }
        int fixups = (int) t.read(p + 72 + 24 + 8, 4);
        t.patch(fixups + 28, 4, 2);
        t.dueLoad(0, 0, -1);
        t.patch(p, 8, 2 | 24L << 32);
        t.patch(p + 8, 8, 0);
        t.patch(p + 16, 8, 0);
        t.dueLoad(0, 3, p + 72);
        t.patch(p + 24, 4, 2);
        t.dueLoad(0, 3, p + 24);
        t.patch(p + 24, 4, 5);
        t.patch(p + 72, 4, 5);
        t.dueLoad(0, 0, -1);
        t.patch(p + 48, 4, 0x80000034L);
        t.dueLoad(0, 3, p + 52);
        t.patch(16, 4, 8);
        t.patch(p + 52, 4, 16);
        t.patch(p + 64, 8, 5 | 8L << 32);
        t.patch(p + 56, 8, 0);
        t.dueLoad(0, 3, p + 96);
    }

    private static void chains() {
        Probe t = small("chains");
        t.dueFault(132, 4, 8, 3, 132);
        t.dueFault(136, 4, 166, 1, 136);
        t.dueFault(136, 4, 0xFFFFFFFFL, 1, 136);
        t.dueFault(140, 4, 66, 1, 136);
        t.dueFault(140, 4, 65, 0, -1);
        t.dueFault(140, 4, 0xFFFFFFFFL, 1, 136);
        t.patch(20, 4, 120);
        t.patch(132, 4, 24);
        t.dueLoad(0, 3, 132);
    }

    private static void symbols() {
        Probe t = new Probe("symbols");
        t.segment("a", 16, 0);
        t.section("s", 0, 0, 16);
        t.section("t", 0, 0, 16);
        t.symbol("one", 1, 0);
        t.symbol("two", 2, 16);
        t.x.write();
        int symtab = 32 + 72 + 160;
        int y = (int) t.read(symtab + 8, 4);
        int strings = (int) t.read(symtab + 16, 4);
        t.dueFault(y, 4, 9, 8, y);
        t.dueFault(y, 4, 8, 0, -1);
        t.dueFault(y, 4, 0xFFFFFFFFL, 8, y);
        t.dueFault(y + 16, 4, 9, 8, y + 16);
        t.dueFault(strings + 8, 1, 'x', 8, y + 16);
        t.dueFault(symtab + 20, 4, 8, 8, y + 16);
        t.dueFault(symtab + 20, 4, 0, 8, y);
        t.dueFault(y + 5, 1, 3, 8, y + 5);
        t.dueFault(y + 5, 1, 255, 8, y + 5);
        t.dueFault(y + 5, 1, 2, 0, -1);
        t.dueFault(y + 5, 1, 0, 0, -1);
        t.dueFault(y + 4, 1, 0, 0, -1);
        t.dueFault(y + 8, 8, MOST, 0, -1);
        t.dueFault(y + 8, 8, MOST + 1, 5, y + 8);
        t.dueFault(y + 24, 8, -1, 5, y + 24);
        t.patch(y + 8, 8, -1);
        t.dueFault(y + 5, 1, 3, 8, y + 5);
        t.dueFault(y + 16, 4, 99, 5, y + 8);
        // What is wrong in FIXUPS comes behind all symbols, what is wrong in commands ahead of them.
        t.dueFault((int) t.read(symtab + 24 + 8, 4), 4, 1, 5, y + 8);
        t.dueFault(symtab + 24 + 12, 4, 1000, 1, symtab + 24 + 8);
    }

    private static void fixups() {
        Probe t = small("fixups");
        t.dueFault(140, 4, 27, 9, 160);
        t.dueFault(140, 4, 0, 9, 160);
        t.dueFault(160, 4, 0x1000000, 9, 160);
        t.dueFault(180, 4, 0, 9, 180);
        t.dueFault(180, 4, 2, 9, 180);
        t.dueFault(184, 4, 1, 9, 184);
        t.dueFault(164, 4, 57, 9, 164);
        t.dueFault(164, 4, 0xFFFFFFFFL, 9, 164);
        t.dueFault(164, 4, 56, 9, 216);
        t.dueFault(188, 4, 0, 9, 188);
        t.dueFault(188, 4, 2, 9, 188);
        t.dueFault(188, 4, 0x10001, 9, 188);
        t.dueFault(184, 4, 0x1000000, 9, 184);
        t.dueFault(140, 4, 28, 9, 164);
        t.dueFault(140, 4, 28 + 7, 9, 188);
        t.dueFault(140, 4, 28 + 3, 9, 164);
        t.dueFault(176, 4, 65, 9, 176);
        t.dueFault(176, 4, 0xFFFFFFFFL, 9, 176);
        t.dueFault(176, 4, 1, 9, 168);
        t.dueFault(168, 4, 61, 9, 168);
        t.dueFault(168, 4, 0xFFFFFFFFL, 9, 168);
        t.dueFault(168, 4, 0, 0, -1);
        t.dueFault(172, 4, 0xFFFFFFFFL, 0, -1);
        t.patch(168, 4, 61);
        t.dueFault(176, 4, 65, 9, 176);
        t.dueFault(188, 4, 2, 9, 188);
        t.dueFault(184, 4, 1, 9, 184);
        t.dueFault(180, 4, 0, 9, 180);
        t.dueFault(192, 4, 1000, 9, 168);
    }

    private static void imports() {
        Probe t = new Probe("imports");
        t.segment("a", 16, 0);
        t.imports("one", 1, false);
        t.imports("two", 2, true);
        t.x.bind(0, 0, 1, 0);
        t.x.write();
        int f = (int) t.read(32 + 72 + 24 + 8, 4);
        int i = f + (int) t.read(f + 8, 4);
        int names = f + (int) t.read(f + 12, 4);
        t.dueLoad(0, 0, -1);
        t.dueFault(names + 7, 1, 'x', 9, i + 4);
        t.dueFault(i, 4, 1 | 7 << 9, 0, -1);
        t.dueFault(i, 4, 1 | 8 << 9, 9, i);
        t.dueFault(i, 4, 0xFFFFFFFFL, 9, i);
        t.dueFault(f + 12, 4, 0xFFFFFFFFL, 9, i);
        t.dueFault(f + 12, 4, 0, 0, -1);
        t.dueFault(32 + 72 + 24 + 12, 4, names + 7 - f, 9, i + 4);
        int size = names + 8 - f;
        t.dueFault(f + 8, 4, size - 7, 9, f + 8);
        t.dueFault(f + 8, 4, size - 8, 9, f + size - 8);
        t.dueFault(i, 1, 99, 0, -1);
        // Now the import that is bound is no longer weak, and its library is none.
        t.dueFault(i + 4, 4, 99 | 4 << 9, 12, 0);
        t.dueFault(i + 4, 4, 2 | 4 << 9, 12, 0);
        t.export("two", 2, 5);
        t.dueFault(i + 4, 4, 2 | 4 << 9, 0, -1);
        t.dueFault(i + 4, 4, 2 | 5 << 9, 12, 0);
        t.export("wo", 2, 6);
        t.dueFault(i + 4, 4, 2 | 5 << 9, 0, -1);
        t.duePointer(65536, 6);
        t.dueFault(names + 6, 1, 0x80, 0, -1);
        t.duePointer(65536, 0);
    }

    private static void sixtyFour() {
        Probe t = new Probe("64 imports and symbols");
        t.x.anew(0, 256);
        t.segment("a", 1024, 0);
        t.x.write();
        int symtab = 32 + 72;
        int from = (int) t.read(32 + 40, 8);
        int fixups = (int) t.read(symtab + 24 + 8, 4);
        // Both tables lie in the segment's bytes, all 0: imports of no library, names that are empty.
        t.patch(symtab + 8, 8, from | 64L << 32);
        t.dueLoad(0, 0, -1);
        t.due("SYMBOLS loaded", t.x.count(9), 64);
        t.due("an empty NAME", t.find(""), 0);
        t.patch(symtab + 12, 4, 65);
        t.dueLoad(0, 3, symtab + 12);
        t.patch(symtab + 12, 4, 0);
        t.patch(symtab + 24 + 8, 8, from | (long) (fixups - from + 32) << 32);
        t.patch(from, 8, 28L << 32);
        t.patch(from + 8, 8, 32);
        t.patch(from + 16, 8, 64 | 1L << 32);
        t.patch(from + 28, 4, 1);
        t.dueLoad(0, 0, -1);
        t.patch(from + 16, 4, 65);
        t.dueLoad(0, 9, from + 16);
    }

    private static void pages() {
        Probe t = small("pages");
        t.dueFault(192, 4, 39, 9, 192);
        t.dueFault(192, 4, 11, 9, 192);
        t.dueFault(192, 4, 0xFFFFFFFFL, 9, 192);
        t.dueFault(192, 4, 0, 0, -1);
        t.due("VISITS", t.x.count(8), 0);
        t.dueFault(196, 4, 22, 9, 196);
        t.dueFault(196, 4, 0x10018, 9, 196);
        t.dueFault(216, 2, 0, 9, 196);
        t.dueFault(216, 2, 2, 9, 196);
        t.dueFault(140, 4, 59, 9, 168);
        t.patch(168, 8, 0);
        t.dueFault(140, 4, 59, 9, 196);
        t.dueFault(140, 4, 57, 9, 192);
        t.dueFault(140, 4, 58, 9, 196);
        t.patch(168, 4, 60);
        for (int page : new int[] {0, 128, 255, 257, 384, 8192, 0xFFFF}) {
            t.dueFault(200, 2, page, 9, 200);
        }
        t.dueFault(200, 2, 512, 0, -1);
        t.dueFault(200, 2, 4096, 0, -1);
        t.dueFault(202, 2, 1, 9, 202);
        t.dueFault(202, 2, 0x102, 9, 202);
        t.dueFault(204, 8, 1, 9, 204);
        t.dueFault(204, 8, MOST, 9, 204);
        t.dueFault(204, 8, MOST + 1, 5, 204);
        t.dueFault(204, 8, -1, 5, 204);
        t.dueFault(212, 4, 0xFFFFFFFFL, 0, -1);
        t.patch(140, 4, 64);
        t.patch(196, 4, 26);
        t.dueFault(216, 2, 2, 9, 216);
        t.patch(64, 8, 257);
        t.dueFault(216, 2, 2, 10, 220);
        t.patch(196, 4, 22);
        t.dueFault(216, 2, 0, 0, -1);
    }

    private static void pagesAheadOfChains() {
        Probe t = new Probe("all pages ahead of all chains");
        t.segment("a", 16, 0);
        t.segment("b", 16, 0);
        t.x.rebase(0, 0, 0, 0);
        t.x.rebase(1, 0, 0, 0);
        t.x.write();
        int chains = 32 + 144 + 24;
        int f = (int) t.read(chains + 8, 4);
        int second = f + 28 + (int) t.read(f + 36, 4);
        int from = (int) t.read(32 + 40, 8);
        t.patch(from, 8, 1L << 51);
        t.dueLoad(0, 10, 0);
        t.dueFault(second + 6, 2, 3, 9, second + 6);
        t.dueFault(second + 8, 8, 0, 9, second + 8);
        t.patch(from, 8, 0);
        t.dueFault(second + 22, 2, 2, 10, second + 22);
        // A second segment that lies ahead of the first one has no place that its pages could tell.
        t.dueFault(32 + 72 + 24, 8, 65536 - 256, 9, second + 8);
    }

    private static void firstPlaces() {
        Probe t = small("first places");
        t.dueFault(218, 2, 1, 10, 218);
        t.dueFault(218, 2, 6, 10, 218);
        t.dueFault(218, 2, 248, 0, -1);
        t.dueFault(218, 2, 252, 10, 218);
        t.dueFault(218, 2, 256, 10, 218);
        t.dueFault(218, 2, 0xFFFE, 10, 218);
        t.dueFault(218, 2, 0xFFFC, 10, 218);
        t.dueFault(218, 2, 0xFFFF, 0, -1);
        t.patch(64, 8, 23);
        t.dueFault(218, 2, 12, 0, -1);
        t.dueFault(218, 2, 16, 10, 218);
        t.patch(64, 8, 300);
        t.dueFault(218, 2, 252, 10, 218);
        t.patch(200, 2, 512);
        t.dueFault(218, 2, 252, 0, -1);
        t.dueFault(218, 2, 292, 0, -1);
        t.dueFault(218, 2, 296, 10, 218);
    }

    private static void pointers() {
        Probe t = new Probe("pointers");
        t.segment("z", 300, 0);
        t.segment("a", 300, 0);
        t.imports("weak", 1, true);
        t.imports("firm", 1, false);
        t.x.rebase(1, 264, 7, 1);
        t.x.bind(1, 272, 0, 9);
        t.x.write();
        int at = (int) t.read(32 + 72 + 40, 8) + 264;
        int where = 512 + 264;
        t.dueLoad(0, 0, -1);
        for (int bit = 44; bit < 51; bit++) {
            t.dueFault(at, 8, 2L << 51 | 1L << bit, 11, where);
        }
        t.dueFault(at, 8, 2L << 51 | (1L << 44) - 1, 0, -1);
        for (int bit = 32; bit < 51; bit++) {
            t.dueFault(at + 8, 8, 1L << 63 | 1L << bit, 11, where + 8);
        }
        t.dueFault(at + 8, 8, 1L << 63 | 2, 11, where + 8);
        t.dueFault(at + 8, 8, 1L << 63 | 0xFFFFFF, 11, where + 8);
        t.dueFault(at + 8, 8, 1L << 63 | 0x800000, 11, where + 8);
        t.dueFault(at + 8, 8, 1L << 63 | 1, 12, where + 8);
        t.dueFault(at + 8, 8, 1L << 63 | 1 | 1L << 51, 12, where + 8);
        t.dueFault(at + 8, 8, 1L << 63 | 1 | 1L << 44, 11, where + 8);
        t.dueFault(at + 8, 8, 1L << 63 | 1L << 51, 10, where + 8);
        t.dueFault(at, 8, 1L << 51 | 1L << 44, 11, where);
        t.dueFault(at, 8, 1L << 63 | 1 | 2L << 51, 12, where);
        // A pointer is looked at ahead of the step behind it, the step ahead of the next pointer.
        t.patch(at + 8, 8, 1L << 63 | 5);
        t.dueFault(at, 8, 1L << 51, 10, where);
        t.dueFault(at, 8, 0, 0, -1);
    }

    private static void steps() {
        Probe t = small("steps");
        t.dueFault(152, 8, 1L << 51, 10, 8);
        t.dueFault(152, 8, 60L << 51, 0, -1);
        t.dueFault(152, 8, 61L << 51, 10, 8);
        t.dueFault(152, 8, 0xFFFL << 51, 10, 8);
        t.dueFault(152, 8, 2L << 51, 0, -1);
        t.patch(64, 8, 300);
        t.dueFault(152, 8, 61L << 51, 10, 8);
        t.patch(64, 8, 255);
        t.dueFault(152, 8, 60L << 51, 10, 8);
        t.dueFault(152, 8, 59L << 51, 0, -1);
        t.patch(64, 8, 16384);
        t.patch(200, 2, 4096);
        t.dueFault(152, 8, 1020L << 51, 0, -1);
        t.dueFault(152, 8, 1021L << 51, 10, 8);
    }

    private static void mostPointers() {
        Probe t = new Probe("128 pointers of a segment");
        t.segment("a", 1024, 0);
        for (int k = 0; k < 100; k++) {
            t.x.rebase(0, 8 * k, k, 0);
        }
        t.x.write();
        int from = (int) t.read(72, 8);
        for (int k = 99; k < 127; k++) {
            // The last of each page of 32 pointers ends its chain.
            t.x.damage(from + 8 * k + 6, k % 32 == 31 ? 0 : 16);
        }
        t.dueLoad(0, 0, -1);
        t.due("VISITS", t.x.count(8), 128);
        t.dueVisit(127, 65536 + 1016, false, 0, 0);
        t.dueVisit(99, 65536 + 792, false, 99, 0);
    }

    private static void slide() {
        Probe t = small("slide");
        t.dueLoad(-65537, 13, 0);
        t.dueLoad(-65536, 0, -1);
        t.patch(152, 8, 1L << 51);
        t.dueLoad(-65537, 10, 8);
        t.patch(152, 8, 0);
        t.patch(192, 4, 0);
        t.patch(80, 8, 1);
        t.patch(64, 8, 1);
        t.dueLoad(-65537, 13, 0);
        t.dueLoad((int) MOST - 65536, 0, -1);
        t.dueLoad((int) MOST - 65535, 13, 0);
        // Without a span no byte lies anywhere.
        t.patch(64, 8, 0);
        t.patch(80, 8, 0);
        t.dueLoad(-65537, 0, -1);
        t.dueLoad(Integer.MIN_VALUE, 0, -1);
        t.due("SEGMENTS loaded", t.x.count(7), 1);
        t.due("memory(0)", t.x.memory(0), -1);
        t.due("memory(-1)", t.x.memory(-1), -1);
        t.due("memory(min)", t.x.memory(Integer.MIN_VALUE), -1);
        t.dueNoPointer(0);
    }
}
