/** Images that tests spoil, each with the places in it that its comment tells. */
final class Images {
    private Images() {
    }

    /**
     * 225 bytes: SEGMENT at 32 (size 36, ADDRESS 56, SPAN 64, place 72, bytes 80, SECTIONS 96), SYMTAB at 104,
     * CHAINS at 128, 16 bytes at 144 with a POINTER at 152, 60 bytes of FIXUPS at 160 with STARTS at 188 and PAGES at
     * 196 (first place at 218), STRINGS of one byte at 224.
     */
    static Probe small(String title) {
        Probe t = new Probe(title);
        t.segment("A", 16, 3);
        t.x.rebase(0, 8, 70000, 5);
        t.due("write()", t.x.write(), 225);
        return t;
    }

    /** 105 bytes: SYMTAB at 32, CHAINS at 56, 32 bytes of FIXUPS at 72, STRINGS of one byte at 104. */
    static Probe empty(String title) {
        Probe t = new Probe(title);
        t.due("write()", t.x.write(), 105);
        return t;
    }

    /**
     * 1228 bytes: SEGMENTS at 32 and 184, SECTIONS at 104, 256 and 336, SYMTAB at 416, CHAINS at 440; 300 bytes at 456
     * with POINTERS at 0, 8 and 264, 300 bytes at 760 with POINTERS at 4 and 256; 114 bytes of FIXUPS at 1064, STARTS
     * at 1092, PAGES at 1104 and 1132, IMPORTS at 1160 (weak, firm), NAMES at 1168; SYMBOLS at 1184 and 1200, 12 bytes
     * of STRINGS at 1216.
     */
    static Probe rich(String title) {
        Probe t = new Probe(title);
        t.segment("one", 300, 5);
        t.segment("two", 300, 3);
        t.section("s", 0, 0, 300);
        t.section("t", 1, 0, 100);
        t.section("u", 1, 100, 200);
        t.symbol("alpha", 1, 5);
        t.symbol("beta", 3, 7);
        t.imports("weak", 1, true);
        t.imports("firm", 2, false);
        t.x.rebase(0, 0, 70000, 5);
        t.x.bind(0, 8, 0, 9);
        t.x.rebase(0, 264, 1, 0);
        t.x.bind(1, 4, 1, 3);
        t.x.rebase(1, 256, 2, 0);
        t.export("firm", 2, 1000);
        t.due("write()", t.x.write(), 1228);
        return t;
    }

    /** Four SEGMENTS of 8 bytes, COMMANDS at 32, 104, 176, 248; SYMTAB at 320, CHAINS at 344, bytes from 360 on. */
    static Probe four(String title) {
        Probe t = new Probe(title);
        for (int s = 0; s < 4; s++) {
            t.segment("s", 8, 0);
        }
        t.x.write();
        return t;
    }

    /** Two SEGMENTS of 1024 bytes of 0, from 0 on: COMMANDS at 32, 104; SYMTAB at 176, CHAINS at 200, bytes at 216. */
    static Probe wide(String title) {
        Probe t = new Probe(title);
        t.x.anew(0, 1024);
        t.segment("a", 1024, 0);
        t.segment("b", 1024, 0);
        t.x.write();
        return t;
    }
}
