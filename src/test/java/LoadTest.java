/** Promises 17 to 24: what stands behind a load. */
public final class LoadTest {
    public static void main(String[] args) {
        exports();
        thirtyExports();
        longNames();
        values();
        slides();
        negativeSlide();
        manySegments();
        lastPointerOfAll();
        visits();
        spanBehindBytes();
        pointerOverTheEndOfBytes();
        symbols();
        oddSymbolNames();
        wrappedSymbols();
        whatWasLoadedStays();
        importsByLibrary();
        Probe.finish();
    }

    private static void exports() {
        Probe t = new Probe("promise 17");
        t.due("no NAME", t.export("", 1, 0), false);
        t.due("no NAME", t.export("seventeen.bytes.!", 1, 0), false);
        t.due("no library 0", t.export("e", 0, 0), false);
        t.due("no library 4", t.export("e", 4, 0), false);
        t.due("address -1", t.export("e", 1, -1), false);
        t.due("address min", t.export("e", 1, Integer.MIN_VALUE), false);
        t.due("the tape is empty", t.x.count(10), 0);
        t.due("none yet", t.x.count(6), 0);
        t.due("export", t.export("e", 1, 0), true);
        t.due("the tape is empty", t.x.count(10), 0);
        t.due("again", t.export("e", 1, 700), true);
        t.due("one", t.x.count(6), 1);
        t.due("of another library", t.export("e", 2, Integer.MAX_VALUE), true);
        t.due("a longer one", t.export("ee", 1, 900), true);
        t.due("three", t.x.count(6), 3);
        t.segment("a", 32, 0);
        t.imports("e", 1, false);
        t.imports("e", 2, false);
        t.imports("ee", 1, false);
        t.imports("e", 3, true);
        for (int k = 0; k < 4; k++) {
            t.x.bind(0, 8 * k, k, k);
        }
        t.x.write();
        t.dueLoad(0, 0, -1);
        t.duePointer(65536, 700);
        t.duePointer(65544, (1L << 31) - 1 + 1);
        t.duePointer(65552, 902);
        t.duePointer(65560, 3);
        t.due("a later address", t.export("e", 1, 44), true);
        t.duePointer(65536, 700);
        t.dueLoad(0, 0, -1);
        t.duePointer(65536, 44);
        t.x.anew(0, 256);
        t.due("exports stay", t.x.count(6), 3);
    }

    private static void thirtyExports() {
        Probe t = new Probe("30 exports");
        for (int k = 0; k < 30; k++) {
            t.due("export " + k, t.export("e" + k / 3, 1 + k % 3, k), true);
        }
        t.due("a 31st", t.export("f", 1, 0), false);
        t.due("one that is there", t.export("e0", 1, 5), true);
        t.due("thirty", t.x.count(6), 30);
    }

    private static void longNames() {
        Probe t = new Probe("exports of sixteen bytes");
        t.segment("a", 1024, 0);
        for (int k = 0; k < 30; k++) {
            t.due("export " + k, t.export("sixteen.bytes." + (10 + k), 1, 1000 + k), true);
        }
        for (int k = 10; k < 30; k++) {
            t.imports("sixteen.bytes." + (10 + k), 1, false);
            t.x.bind(0, 8 * k, k - 10, 0);
        }
        t.x.write();
        t.dueLoad(0, 0, -1);
        for (int k = 10; k < 30; k++) {
            t.duePointer(65536 + 8 * k, 1000 + k);
        }
    }

    private static void values() {
        Probe t = new Probe("promises 18 to 21");
        t.dueLoad(0, 1, 0);
        t.segment("a", 21, 0);
        t.tape("abcdefghijklmnopqrstu").x.fill(0, 0);
        t.x.rebase(0, 8, 0x123456789L, 0xAB);
        t.x.write();
        t.dueLoad(0, 0, -1);
        t.dueCounts(1, 0, 0, 0, 1, t.x.count(5), 0, 1, 1, 0, 0, -1);
        t.due("memory(65535)", t.x.memory(65535), -1);
        t.due("memory(65536)", t.x.memory(65536), 'a');
        t.due("memory(65556)", t.x.memory(65556), 'u');
        t.due("memory(65557)", t.x.memory(65557), 0);
        t.due("memory(65791)", t.x.memory(65791), 0);
        t.due("memory(65792)", t.x.memory(65792), -1);
        t.due("memory(min)", t.x.memory(Integer.MIN_VALUE), -1);
        t.due("memory(max)", t.x.memory(Integer.MAX_VALUE), -1);
        t.due("memory(-1)", t.x.memory(-1), -1);
        t.duePointer(65544, 0xAB00000123456789L);
        t.duePointer(65536, 0x6867666564636261L);
        t.duePointer(65537, 0x8968676665646362L);
        t.duePointer(65552, 0x7574737271L);
        t.duePointer(65784, 0);
        t.dueNoPointer(65785);
        t.dueNoPointer(65791);
        t.dueNoPointer(65535);
        t.dueNoPointer(65529);
        t.dueNoPointer(Integer.MAX_VALUE);
        t.dueNoPointer(Integer.MIN_VALUE);
        t.dueNoPointer(-1);
    }

    private static void slides() {
        Probe t = new Probe("slides");
        t.segment("a", 16, 0);
        t.x.rebase(0, 0, (1L << 36) - 1, 1);
        t.x.rebase(0, 8, 0, 0);
        t.x.write();
        t.dueLoad(3, 0, -1);
        t.due("memory(65538)", t.x.memory(65538), -1);
        t.due("memory(65539)", t.x.memory(65539), 2);
        t.duePointer(65539, 1L << 56 | (1L << 36) + 2);
        t.duePointer(65547, 3);
        t.dueVisit(0, 65539, false, (1L << 36) - 1, 1);
        t.dueVisit(1, 65547, false, 0, 0);
        t.dueLoad(Integer.MAX_VALUE - 65536 - 255, 0, -1);
        t.due("the last byte of all", t.x.memory(Integer.MAX_VALUE), 0);
        t.dueNoPointer(Integer.MAX_VALUE - 6);
        t.duePointer(Integer.MAX_VALUE - 7, 0);
        t.duePointer(Integer.MAX_VALUE - 247, Integer.MAX_VALUE - 65536 - 255);
        t.dueLoad(Integer.MAX_VALUE - 65536 - 254, 13, 0);
        t.dueLoad(Integer.MAX_VALUE, 13, 0);
        t.dueLoad(-65537, 13, 0);
        t.dueLoad(Integer.MIN_VALUE, 13, 0);
        t.due("what was loaded stays", t.x.memory(Integer.MAX_VALUE), 0);
        t.dueLoad(-65536, 0, -1);
        t.due("memory(0)", t.x.memory(0), 255);
        t.due("memory(max)", t.x.memory(Integer.MAX_VALUE), -1);
    }

    private static void negativeSlide() {
        Probe t = new Probe("a target below 0");
        t.segment("a", 24, 0);
        t.x.rebase(0, 0, 5, 0);
        t.x.rebase(0, 8, 5, 0x7F);
        t.x.rebase(0, 16, 6, 255);
        t.x.write();
        t.dueLoad(-6, 0, -1);
        t.duePointer(65530, 0x00FFFFFFFFFFFFFFL);
        t.duePointer(65538, 0x7FFFFFFFFFFFFFFFL);
        t.duePointer(65546, 0xFF00000000000000L);
    }

    private static void manySegments() {
        Probe t = new Probe("four segments");
        t.x.anew(4096, 4096);
        for (int s = 0; s < 4; s++) {
            t.segment("s" + s, 1 + s, 0);
            t.tape(new byte[] {(byte) (s + 1)}).x.fill(s, s);
        }
        t.x.write();
        t.dueLoad(0, 0, -1);
        t.due("SEGMENTS loaded", t.x.count(7), 4);
        for (int s = 0; s < 4; s++) {
            t.due("a byte of segment " + s, t.x.memory(4096 * (s + 1) + s), s + 1);
            t.due("the last byte of segment " + s, t.x.memory(4096 * (s + 2) - 1), 0);
        }
        t.due("behind all", t.x.memory(4096 * 5), -1);
        t.duePointer(8184, 0);
        t.dueNoPointer(8185);
        t.duePointer(8192, 512);
    }

    private static void lastPointerOfAll() {
        Probe t = new Probe("a pointer at the end of the largest memory");
        t.x.anew(4096, 4096);
        for (int s = 0; s < 4; s++) {
            t.segment("s" + s, 1024, 0);
        }
        t.x.rebase(3, 0, 7, 0);
        t.x.write();
        t.patch((int) t.read(32 + 3 * 72 + 40, 8), 8, 7 | 1022L << 51);
        t.dueLoad(1, 0, -1);
        t.dueVisit(1, 1 + 4096 * 5 - 8, false, 0, 0);
        t.duePointer(1 + 4096 * 4, 8);
        t.duePointer(1 + 4096 * 5 - 8, 1);
    }

    private static void visits() {
        Probe t = new Probe("promise 22");
        t.segment("a", 600, 0);
        t.segment("b", 600, 0);
        t.imports("i", 1, true);
        t.imports("j", 1, true);
        t.x.bind(1, 256, 1, 255);
        t.x.rebase(0, 512, 77, 9);
        t.x.rebase(0, 248, (1L << 36) - 1, 255);
        t.x.bind(0, 4, 0, 0);
        t.x.write();
        t.dueLoad(0, 0, -1);
        t.due("VISITS", t.x.count(8), 4);
        t.dueVisit(0, 65540, true, 0, 0);
        t.dueVisit(1, 65536 + 248, false, (1L << 36) - 1, 255);
        t.dueVisit(2, 65536 + 512, false, 77, 9);
        t.dueVisit(3, 65536 + 768 + 256, true, 1, 255);
        t.dueNoVisit(4, 0);
        t.dueNoVisit(-1, 0);
        t.dueNoVisit(Integer.MAX_VALUE, 0);
        t.dueNoVisit(Integer.MIN_VALUE, 0);
        t.dueNoVisit(0, -1);
        t.dueNoVisit(0, 4);
        t.dueNoVisit(0, Integer.MIN_VALUE);
    }

    private static void spanBehindBytes() {
        Probe t = new Probe("pointers behind a segment's bytes");
        t.segment("a", 16, 0);
        t.x.rebase(0, 8, 70000, 5);
        t.x.write();
        // The last place within the span: 60 fours from 8 on.
        t.patch(152, 8, 70000 | 5L << 36 | 60L << 51);
        t.dueLoad(2, 0, -1);
        t.due("VISITS", t.x.count(8), 2);
        t.dueVisit(1, 65538 + 248, false, 0, 0);
        t.duePointer(65538 + 248, 2);
        t.patch(152, 8, 70000 | 5L << 36 | 61L << 51);
        t.dueLoad(2, 10, 8);
    }

    private static void pointerOverTheEndOfBytes() {
        Probe t = new Probe("a pointer over the end of a segment's bytes");
        t.segment("a", 16, 0);
        t.segment("b", 16, 0);
        t.tape("0123456789abcdef").x.fill(0, 0);
        t.tape("ghij").x.fill(1, 0);
        t.x.rebase(0, 0, 1, 1);
        t.x.write();
        // From 12 on the image has four bytes of the pointer; those behind them are the other segment's.
        t.patch(32 + 144 + 40, 8, 1 | 1L << 36 | 3L << 51);
        t.dueText("the bytes in the image", 32 + 144 + 40 + 12, "cdefghij");
        t.dueLoad(0, 0, -1);
        t.dueVisit(1, 65548, false, 0x66656463L, 0);
        t.duePointer(65548, 0x66656463L);
    }

    private static void symbols() {
        Probe t = new Probe("promise 23");
        t.segment("a", 100, 0);
        t.section("s", 0, 10, 50);
        t.symbol("main", 1, 5);
        t.symbol("mai", 1, 6);
        t.symbol("main", 1, 7);
        t.symbol("mainx", 1, 50);
        t.x.write();
        t.due("nothing is loaded", t.find("main"), -1);
        t.dueLoad(0, 0, -1);
        t.due("SYMBOLS loaded", t.x.count(9), 4);
        t.due("the first of two", t.find("main"), 65551);
        t.due("the tape is empty", t.x.count(10), 0);
        t.due("a shorter one", t.find("mai"), 65552);
        t.due("a longer one", t.find("mainx"), 65596);
        t.due("a part", t.find("ma"), -1);
        t.due("the tape is empty", t.x.count(10), 0);
        t.due("more", t.find("mainxy"), -1);
        t.due("nothing", t.find(""), -1);
        t.due("a 0 between two names", t.find("main\0mai"), -1);
        t.due("a 0 behind", t.find("main\0"), -1);
        t.due("a part of a name", t.find("ain"), -1);
        t.due("a long tape", t.find("m".repeat(1040)), -1);
        t.dueLoad(-5, 0, -1);
        t.due("with the slide", t.find("main"), 65546);
        t.x.cut(0);
        t.due("an image is loaded no more by being gone", t.find("mai"), 65547);
        t.x.anew(0, 256);
        t.x.write();
        t.due("nor by being written again", t.find("mai"), 65547);
        t.dueLoad(0, 0, -1);
        t.due("SYMBOLS loaded", t.x.count(9), 0);
        t.due("gone", t.find("mai"), -1);
    }

    private static void oddSymbolNames() {
        Probe t = new Probe("names whatever they are");
        t.segment("a", 100, 0);
        t.section("s", 0, 0, 50);
        t.symbol("main", 1, 5);
        t.symbol("other", 1, 6);
        t.x.write();
        int symbols = (int) t.read(32 + 152 + 8, 4);
        int strings = (int) t.read(32 + 152 + 16, 4);
        t.patch(symbols, 4, 0);
        t.dueLoad(0, 0, -1);
        t.due("the empty NAME", t.find(""), 65541);
        t.patch(symbols, 4, 3);
        t.dueLoad(0, 0, -1);
        t.due("a NAME in a NAME", t.find("in"), 65541);
        t.patchText(strings + 3, "\u00ff \1");
        t.dueLoad(0, 0, -1);
        t.due("bytes that are no NAME, over a 0", t.find("\u00ff \1other"), 65541);
        t.due("the other", t.find("other"), 65542);
        t.patch(symbols, 4, 11);
        t.dueLoad(0, 0, -1);
        t.due("the last 0", t.find(""), 65541);
        t.due("SECTION 0 is none", t.x.damage(symbols + 5, 0), true);
        t.dueLoad(0, 0, -1);
    }

    private static void wrappedSymbols() {
        Probe t = new Probe("a symbol's address modulo 2^32");
        t.x.anew(0, 256);
        t.segment("a", 1, 0);
        t.section("s", 0, 0, 1);
        t.symbol("y", 1, 0);
        t.x.write();
        int symbols = (int) t.read(32 + 152 + 8, 4);
        t.patch(symbols + 8, 8, Integer.MAX_VALUE);
        t.dueLoad(2, 0, -1);
        t.due("above 2^31 - 1", t.find("y"), Integer.MIN_VALUE + 1);
        t.patch(symbols + 8, 8, 3);
        t.patch(32 + 24, 8, 100);
        t.patch(32 + 72 + 32, 8, 100);
        t.dueLoad(-100, 0, -1);
        t.due("below 0", t.find("y"), -97);
    }

    private static void whatWasLoadedStays() {
        Probe t = new Probe("a fault changes nothing but the place");
        t.segment("a", 16, 0);
        t.section("s", 0, 0, 16);
        t.symbol("y", 1, 4);
        t.x.rebase(0, 0, 9, 0);
        t.x.write();
        t.dueLoad(1, 0, -1);
        t.x.anew(0, 256);
        t.segment("b", 300, 0);
        t.segment("c", 300, 0);
        t.section("s", 1, 0, 16);
        t.symbol("z", 1, 4);
        t.imports("none", 1, false);
        t.x.rebase(0, 16, 8, 0);
        t.x.bind(1, 0, 0, 0);
        t.x.write();
        t.dueLoad(0, 12, 512);
        t.due("SEGMENTS loaded", t.x.count(7), 1);
        t.due("VISITS", t.x.count(8), 1);
        t.due("SYMBOLS loaded", t.x.count(9), 1);
        t.due("find", t.find("y"), 65541);
        t.due("find", t.find("z"), -1);
        t.duePointer(65537, 10);
        t.due("memory(0)", t.x.memory(0), -1);
        t.dueVisit(0, 65537, false, 9, 0);
        t.due("place()", t.x.place(), 512);
        t.due("place() again", t.x.place(), 512);
        t.x.write();
        t.due("place() behind other calls", t.x.place(), 512);
        t.export("none", 1, 0);
        t.dueLoad(0, 0, -1);
        t.due("SEGMENTS loaded", t.x.count(7), 2);
        t.due("memory(65537)", t.x.memory(65537), -1);
        t.due("find", t.find("y"), -1);
        t.due("find", t.find("z"), 516);
        t.dueVisit(1, 512, true, 0, 0);
    }

    private static void importsByLibrary() {
        Probe t = new Probe("an import of another library");
        t.segment("a", 16, 0);
        t.imports("e", 2, false);
        t.x.bind(0, 8, 0, 1);
        t.export("e", 1, 10);
        t.export("e", 3, 30);
        t.export("ex", 2, 40);
        t.x.write();
        t.dueLoad(0, 12, 8);
        t.export("e", 2, 20);
        t.dueLoad(0, 0, -1);
        t.duePointer(65544, 21);
    }
}
