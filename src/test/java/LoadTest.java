/** Promises 17 and 18: exports, and what a load leaves. One method for each sentence that names an edge. */
public final class LoadTest {
    private static final long TARGET_MOST = (1L << 36) - 1;

    public static void main(String[] args) {
        exportNames();
        exportLibraries();
        exportAddresses();
        thirtyExports();
        exportAgain();
        exportsOfOtherLibraries();
        refusedExportLeavesTheOther();
        exportsBelongToTheLoader();
        exportOfTheLongestName();
        everyFaultLeavesWhatWasLoaded();
        loadedAnew();
        largestMemoryLoadedAnew();
        largestMemoryOfBytes();
        withoutSymtabBehindOneWith();
        withoutChainsBehindOneWith();
        imageStaysAsItIs();
        spansThenZero();
        segmentsAtTheirSlide();
        rebaseAndSlide();
        rebaseBelowZero();
        rebaseHigh();
        bindAndAdded();
        weakWithoutExport();
        visitsInOrder();
        lastPointerOfAll();
        symbolsModulo();
        loadTakesNoTape();
        Probe.finish();
    }

    private static void exportNames() {
        TellingTest.names("promise 17: false: no NAME", Probe::new, t -> t.x.export(1, 0) ? 1 : 0, 1, 0);
    }

    private static void exportLibraries() {
        int[][] rows = {{-1, 0}, {0, 0}, {1, 1}, {2, 1}, {3, 1}, {4, 0}, {255, 0}, {257, 0}, {Probe.MIN, 0},
            {Probe.MAX, 0}};
        for (int[] r : rows) {
            Probe t = new Probe("promise 17: false: no such LIBRARY");
            t.due("export(" + r[0] + ", 0)", t.export("e", r[0], 0), r[1] == 1);
            t.dueCount(6, r[1]);
        }
    }

    private static void exportAddresses() {
        int[][] rows = {{-1, 0}, {0, 1}, {1, 1}, {Probe.MAX - 1, 1}, {Probe.MAX, 1}, {Probe.MIN, 0}};
        for (int[] r : rows) {
            Probe t = new Probe("promise 17: false: an address below 0");
            t.due("export(1, " + r[0] + ")", t.export("e", 1, r[0]), r[1] == 1);
            t.dueCount(6, r[1]);
            t.segment("a", 8, 0);
            t.imports("e", 1, true);
            t.x.bind(0, 0, 0, 0);
            t.x.write();
            t.dueLoad(0, 0, -1);
            t.duePointer(65536, r[1] == 1 ? r[0] : 0);
        }
    }

    private static void thirtyExports() {
        Probe t = new Probe("promise 17: false: there are 30");
        for (int k = 0; k < 29; k++) {
            t.due("export " + k, t.export("e" + k / 3, 1 + k % 3, k), true);
        }
        t.dueCount(6, 29);
        t.due("a 30th", t.export("last", 1, 29), true);
        t.dueCount(6, 30);
        t.due("a 31st", t.export("f", 1, 0), false);
        t.due("a 31st, of a NAME that another LIBRARY has", t.export("last", 2, 0), false);
        t.dueCount(6, 30);
        t.due("the first again", t.export("e0", 1, 5), true);
        t.due("the last again", t.export("last", 1, 6), true);
        t.dueCount(6, 30);
        t.due("a 31st", t.export("f", 1, 0), false);
        t.segment("a", 24, 0);
        t.imports("e0", 1, true);
        t.imports("last", 1, true);
        t.imports("f", 1, true);
        for (int k = 0; k < 3; k++) {
            t.x.bind(0, 8 * k, k, 0);
        }
        t.x.write();
        t.dueLoad(0, 0, -1);
        t.duePointer(65536, 5);
        t.duePointer(65544, 6);
        t.duePointer(65552, 0);
    }

    private static Probe bound(String title) {
        Probe t = new Probe(title);
        t.segment("a", 24, 0);
        t.imports("e", 1, true);
        t.imports("e", 2, true);
        t.imports("ee", 1, true);
        for (int k = 0; k < 3; k++) {
            t.x.bind(0, 8 * k, k, 0);
        }
        t.x.write();
        return t;
    }

    private static void exportAgain() {
        Probe t = bound("promise 17: it has that address, again, if it was there");
        t.due("export", t.export("e", 1, 700), true);
        t.dueLoad(0, 0, -1);
        t.duePointer(65536, 700);
        t.due("again", t.export("e", 1, 44), true);
        t.dueCount(6, 1);
        t.duePointer(65536, 700);
        t.dueLoad(0, 0, -1);
        t.duePointer(65536, 44);
        t.due("again, with 0", t.export("e", 1, 0), true);
        t.dueLoad(0, 0, -1);
        t.duePointer(65536, 0);
        t.dueCount(6, 1);
    }

    private static void exportsOfOtherLibraries() {
        Probe t = bound("promise 17: NAMES of LIBRARIES are others");
        t.due("export", t.export("e", 1, 1), true);
        t.due("of another LIBRARY", t.export("e", 2, 2), true);
        t.due("of a longer NAME", t.export("ee", 1, 3), true);
        t.due("of a third LIBRARY", t.export("e", 3, 4), true);
        t.dueCount(6, 4);
        t.dueLoad(0, 0, -1);
        t.duePointer(65536, 1);
        t.duePointer(65544, 2);
        t.duePointer(65552, 3);
    }

    private static void refusedExportLeavesTheOther() {
        Probe t = bound("promise 17: one that is refused leaves the EXPORT that is there");
        t.export("e", 1, 700);
        t.due("address -1", t.export("e", 1, -1), false);
        t.due("LIBRARY 0", t.export("e", 0, 5), false);
        t.due("LIBRARY 4", t.export("e", 4, 5), false);
        t.due("no NAME", t.export("e ", 1, 5), false);
        t.dueCount(6, 1);
        t.dueLoad(0, 0, -1);
        t.duePointer(65536, 700);
        t.duePointer(65544, 0);
    }

    private static void exportsBelongToTheLoader() {
        Probe t = new Probe("promise 17: EXPORTS belong to the loader");
        t.export("e", 1, 700);
        t.x.anew(0, 256);
        t.dueCount(6, 1);
        t.segment("a", 8, 0);
        t.imports("e", 1, false);
        t.x.bind(0, 0, 0, 0);
        t.x.write();
        t.dueLoad(0, 0, -1);
        t.duePointer(0, 700);
        t.x.cut(0);
        t.dueLoad(0, 1, 0);
        t.dueCount(6, 1);
    }

    private static void exportOfTheLongestName() {
        Probe t = new Probe("promise 17: EXPORTS of NAMES of sixteen bytes, one behind another");
        t.segment("a", 1024, 0);
        for (int k = 0; k < 30; k++) {
            t.due("export " + k, t.export("sixteen.bytes." + (10 + k), 1, 1000 + k), true);
        }
        for (int k = 10; k < 30; k++) {
            t.imports("sixteen.bytes." + (10 + k), 1, false);
            t.x.bind(0, 8 * k, k - 10, 0);
        }
        t.x.write();
        t.dueLoad(0, 0, -1);
        for (int k = 10; k < 30; k++) {
            t.duePointer(65536 + 8 * k, 1000 + k);
        }
    }

    /** A number of the image Images.rich for each kind of fault, and the fault's place. */
    private static final long[][] FAULTS = {{1, 424, 4, 1228, 424}, {2, 0, 1, 0, 0}, {3, 16, 4, 17, 16},
        {4, 440, 1, 0x35, 440}, {5, 212, 4, 1, 208}, {6, 208, 4, 65536 + 511, 208}, {7, 368, 4, 3, 336},
        {8, 1205, 1, 4, 1205}, {9, 1136, 2, 257, 1136}, {10, 1156, 2, 252, 1156}, {11, 1021, 1, 16, 768},
        {12, 1164, 1, 3, 516}};

    private static void everyFaultLeavesWhatWasLoaded() {
        for (long[] r : FAULTS) {
            Probe t = Images.rich("promise 18: FAULT " + r[0] + ": what was loaded stays");
            t.dueLoad(100, 0, -1);
            t.patch(456 + 20, 1, 77);
            t.patch((int) r[1], (int) r[2], r[3]);
            t.dueLoad(0, (int) r[0], (int) r[4]);
            asLoadedAt100(t);
        }
        Probe t = Images.rich("promise 18: FAULT 13: what was loaded stays");
        t.dueLoad(100, 0, -1);
        t.patch(456 + 20, 1, 77);
        t.dueLoad(Probe.MIN, 13, 0);
        asLoadedAt100(t);
        t.x.cut(0);
        t.dueLoad(0, 1, 0);
        asLoadedAt100(t);
    }

    private static void asLoadedAt100(Probe t) {
        t.dueCount(7, 2);
        t.dueCount(8, 5);
        t.dueCount(9, 2);
        t.dueMemory(65536 + 99, -1);
        t.dueMemory(65536 + 100 + 20, 0);
        t.dueMemory(65536 + 100 + 1023, 0);
        t.dueMemory(65536 + 100 + 1024, -1);
        t.duePointer(65636, 70100 | 5L << 56);
        t.duePointer(65636 + 516, 1003);
        t.dueVisit(0, 65636, false, 70000, 5);
        t.dueVisit(3, 65636 + 516, true, 1, 3);
        t.dueVisit(4, 65636 + 768, false, 2, 0);
        t.dueNoVisit(5, 0);
        t.due("find()", t.find("beta"), 65636 + 512 + 107);
    }

    private static void loadedAnew() {
        Probe t = Images.rich("promise 18: what is loaded takes the place of what was");
        t.dueLoad(0, 0, -1);
        t.dueLoad(4096, 0, -1);
        t.dueMemory(65536, -1);
        t.dueMemory(65536 + 4096, 112);
        t.dueCounts(2, 3, 2, 2, 5, 1228, 1, 2, 5, 2, 0, -1);
        t.x.anew(0, 256);
        t.x.write();
        t.dueLoad(0, 0, -1);
        t.dueCounts(0, 0, 0, 0, 0, 105, 1, 0, 0, 0, 0, -1);
        t.dueMemory(65536 + 4096, -1);
        t.dueNoPointer(65536 + 4096);
        t.dueNoVisit(0, 0);
        t.due("find()", t.find("alpha"), -1);
    }

    private static void largestMemoryLoadedAnew() {
        Probe t = new Probe("promise 18: the largest MEMORY, loaded again and again");
        t.x.anew(0, 4096);
        for (int s = 0; s < 4; s++) {
            t.segment("s", 1024, 0);
        }
        t.x.write();
        int from = (int) t.read(32 + 3 * 72 + 40, 8);
        for (int k = 1; k <= 5; k++) {
            t.patch(from, 1, k);
            t.dueLoad(k, 0, -1);
            t.dueMemory(k + 3 * 4096, k);
            t.dueMemory(k + 4 * 4096 - 1, 0);
            t.dueMemory(k + 4 * 4096, -1);
            t.dueMemory(k - 1, -1);
        }
    }

    private static void largestMemoryOfBytes() {
        // The first SPAN leaves just 1024 bytes for the second SEGMENT, all of them in the IMAGE.
        Probe t = new Probe("promise 18: a MEMORY of 16384 bytes, the last of them in the IMAGE");
        t.segment("a", 1024, 0);
        t.segment("b", 1024, 0);
        t.fill("<", 1, 0);
        t.fill(">", 1, 1023);
        t.x.write();
        t.patch(64, 8, 16384 - 1024);
        t.patch(104 + 24, 8, 65536 + 16384 - 1024);
        t.dueLoad(0, 0, -1);
        t.dueMemory(65536 + 16384 - 1025, 0);
        t.dueMemory(65536 + 16384 - 1024, '<');
        t.dueMemory(65536 + 16383, '>');
        t.dueMemory(65536 + 16384, -1);
    }

    private static void withoutSymtabBehindOneWith() {
        Probe t = Images.rich("promise 18: an IMAGE without SYMTAB has no SYMBOLS, whatever was loaded");
        t.dueLoad(0, 0, -1);
        t.patch(416, 4, 1);
        t.dueLoad(0, 0, -1);
        t.dueCount(9, 0);
        t.due("find()", t.find("alpha"), -1);
        t.due("find() of nothing", t.find(""), -1);
        t.patch(416, 4, 2);
        t.dueLoad(0, 0, -1);
        t.dueCount(9, 2);
        t.due("find()", t.find("alpha"), 65541);
    }

    private static void withoutChainsBehindOneWith() {
        Probe t = Images.rich("promise 18: an IMAGE without CHAINS has no VISITS, whatever was loaded");
        t.dueLoad(0, 0, -1);
        t.patch(440, 4, 1);
        t.dueLoad(7, 0, -1);
        t.dueCount(8, 0);
        t.dueNoVisit(0, 0);
        t.duePointer(65543, 70000 | 5L << 36 | 2L << 51);
        t.patch(440, 4, 0x80000034L);
        t.dueLoad(7, 0, -1);
        t.dueCount(8, 5);
        t.duePointer(65543, 70007 | 5L << 56);
    }

    private static void imageStaysAsItIs() {
        Probe t = Images.rich("promise 18: the IMAGE stays as it is, so each POINTER is set anew");
        long first = t.read(456, 8);
        t.dueLoad(1, 0, -1);
        t.dueNumber("the first POINTER", 456, 8, first);
        t.dueLoad(1, 0, -1);
        t.duePointer(65537, 70001 | 5L << 56);
        t.dueLoad(2, 0, -1);
        t.duePointer(65538, 70002 | 5L << 56);
        t.patch(456 + 299, 1, 9);
        t.dueMemory(65536 + 2 + 299, 0);
        t.dueLoad(2, 0, -1);
        t.dueMemory(65536 + 2 + 299, 9);
        t.dueCount(5, 1228);
    }

    private static void spansThenZero() {
        Probe t = new Probe("promise 18: their bytes, then 0");
        t.segment("a", 1024, 0);
        t.tape("x".repeat(1024)).x.fill(0, 0);
        t.x.write();
        t.dueLoad(0, 0, -1);
        t.dueMemory(65536 + 300, 'x');
        t.x.anew(65536, 1024);
        t.segment("a", 5, 0);
        t.fill("abcde", 0, 0);
        t.x.write();
        t.dueLoad(0, 0, -1);
        t.dueMemory(65535, -1);
        t.dueMemory(65536, 'a');
        t.dueMemory(65540, 'e');
        // What was loaded there ahead of it is gone, and the byte behind in the IMAGE is not its own.
        t.dueMemory(65541, 0);
        t.dueMemory(65536 + 300, 0);
        t.dueMemory(65536 + 1023, 0);
        t.dueMemory(65536 + 1024, -1);
    }

    private static void segmentsAtTheirSlide() {
        int[] slides = {0, 1, -1, 7, 4096, -65536, Probe.MAX - 65536 - 1023};
        for (int slide : slides) {
            Probe t = new Probe("promise 18: each at ADDRESS and slide");
            for (int s = 0; s < 4; s++) {
                t.segment("s", 1, 0);
                t.tape(new byte[] {(byte) (200 + s)}).x.fill(s, 0);
            }
            t.x.write();
            t.dueLoad(slide, 0, -1);
            for (int s = 0; s < 4; s++) {
                t.dueMemory(65536 + slide + 256 * s, 200 + s);
                t.dueMemory(65536 + slide + 256 * s + 255, 0);
            }
            t.dueMemory(65536 + slide - 1, -1);
            t.dueMemory(65536 + slide + 1024, -1);
        }
    }

    /** A REBASE, loaded with a slide, is set to what is due. */
    private static void rebase(String title, long target, int high, int slide, long due) {
        Probe t = new Probe(title);
        t.x.anew(1 << 30, 256);
        t.segment("a", 8, 0);
        t.due("rebase", t.x.rebase(0, 0, target, high), true);
        t.x.write();
        t.dueLoad(slide, 0, -1);
        t.duePointer((1 << 30) + slide, due);
        t.dueVisit(0, (1 << 30) + slide, false, target, high);
    }

    private static void rebaseAndSlide() {
        String title = "promise 18: TARGET and slide";
        int most = Probe.MAX - (1 << 30) - 255;
        rebase(title, 0, 0, 0, 0);
        rebase(title, 0, 0, 1, 1);
        rebase(title, 0, 0, most, most);
        rebase(title, 70000, 0, 16, 70016);
        rebase(title, 70000, 0, -70000, 0);
        rebase(title, 0xFFFFFFFFL, 0, 1, 1L << 32);
        rebase(title, TARGET_MOST, 0, 0, TARGET_MOST);
        rebase(title, TARGET_MOST, 0, 1, 1L << 36);
        rebase(title, TARGET_MOST, 255, most, 255L << 56 | TARGET_MOST + most);
        rebase(title, 1L << 32, 0, -1, 0xFFFFFFFFL);
    }

    private static void rebaseBelowZero() {
        String title = "promise 18: modulo 2^64, with HIGH put in the place of its highest byte";
        long below = (1L << 56) - 1;
        rebase(title, 0, 0, -1, below);
        rebase(title, 5, 0, -6, below);
        rebase(title, 5, 0, -5, 0);
        rebase(title, 5, 0, -4, 1);
        rebase(title, 5, 127, -6, 0x7FFFFFFFFFFFFFFFL);
        rebase(title, 5, 128, -6, 0x80FFFFFFFFFFFFFFL);
        rebase(title, 5, 255, -6, -1);
        rebase(title, 0, 1, -(1 << 30), 1L << 56 | (1L << 56) - (1 << 30));
    }

    private static void rebaseHigh() {
        for (int high : new int[] {0, 1, 127, 128, 254, 255}) {
            rebase("promise 18: HIGH in its highest byte", 70000, high, 3, 70003 | (long) high << 56);
        }
    }

    private static void bindAndAdded() {
        long[][] rows = {{0, 0}, {0, 1}, {0, 255}, {1, 0}, {1000, 7}, {Probe.MAX, 0}, {Probe.MAX, 1}, {Probe.MAX, 255}};
        for (long[] r : rows) {
            for (int slide : new int[] {0, 9, -9}) {
                Probe t = new Probe("promise 18: its EXPORT's address and ADDED, without the slide");
                t.segment("a", 8, 0);
                t.imports("e", 3, false);
                t.x.bind(0, 0, 0, (int) r[1]);
                t.export("e", 3, (int) r[0]);
                t.x.write();
                t.dueLoad(slide, 0, -1);
                t.duePointer(65536 + slide, r[0] + r[1]);
                t.dueVisit(0, 65536 + slide, true, 0, (int) r[1]);
            }
        }
    }

    private static void weakWithoutExport() {
        for (int added : new int[] {0, 1, 255}) {
            Probe t = new Probe("promise 18: 0 for a WEAK one without, and ADDED");
            t.segment("a", 8, 0);
            t.imports("e", 1, true);
            t.x.bind(0, 0, 0, added);
            t.export("e", 2, 500);
            t.export("f", 1, 600);
            t.x.write();
            t.dueLoad(33, 0, -1);
            t.duePointer(65569, added);
            t.export("e", 1, 700);
            t.dueLoad(33, 0, -1);
            t.duePointer(65569, 700 + added);
        }
    }

    private static void visitsInOrder() {
        Probe t = new Probe("promise 18: VISITS in the order in which they were come to");
        t.segment("a", 600, 0);
        t.segment("b", 600, 0);
        t.imports("i", 1, true);
        t.imports("j", 1, true);
        t.x.bind(1, 256, 1, 255);
        t.x.rebase(0, 512, 77, 9);
        t.x.rebase(0, 248, TARGET_MOST, 255);
        t.x.bind(0, 4, 0, 0);
        t.x.write();
        t.dueLoad(5, 0, -1);
        t.dueCount(8, 4);
        t.dueVisit(0, 65541 + 4, true, 0, 0);
        t.dueVisit(1, 65541 + 248, false, TARGET_MOST, 255);
        t.dueVisit(2, 65541 + 512, false, 77, 9);
        t.dueVisit(3, 65541 + 768 + 256, true, 1, 255);
    }

    private static void lastPointerOfAll() {
        Probe t = new Probe("promise 18: a POINTER at the end of the largest MEMORY");
        t.x.anew(4096, 4096);
        for (int s = 0; s < 4; s++) {
            t.segment("s" + s, 1024, 0);
        }
        t.x.rebase(3, 0, 7, 0);
        t.x.write();
        t.patch((int) t.read(32 + 3 * 72 + 40, 8), 8, 7 | 1022L << 51);
        t.dueLoad(1, 0, -1);
        t.dueVisit(1, 1 + 4096 * 5 - 8, false, 0, 0);
        t.duePointer(1 + 4096 * 4, 8);
        t.duePointer(1 + 4096 * 5 - 8, 1);
    }

    private static void symbolsModulo() {
        // A SYMBOL's address may be any, its SEGMENT's is 0 or 100.
        long[][] rows = {{0, 0, 0, 0}, {0, 2, 1, 3}, {0, Probe.MAX, 0, Probe.MAX}, {0, Probe.MAX - 1, 1, Probe.MAX},
            {0, Probe.MAX, 1, Probe.MIN}, {0, Probe.MAX, 2, Probe.MIN + 1}, {0, Probe.MAX, Probe.MAX - 255, -257},
            {100, 100, -100, 0}, {100, 97, -100, -3}, {100, 0, -100, -100}};
        for (long[] r : rows) {
            Probe t = new Probe("promise 18: SYMBOLS at address and slide, modulo 2^32");
            t.x.anew(0, 256);
            t.segment("a", 1, 0);
            t.section("s", 0, 0, 1);
            t.symbol("y", 1, 0);
            t.x.write();
            t.patch((int) t.read(32 + 152 + 8, 4) + 8, 8, r[1]);
            t.patch(56, 8, r[0]);
            t.patch(104 + 32, 8, r[0]);
            t.dueLoad((int) r[2], 0, -1);
            t.due("find() of " + r[1] + " with " + r[2], t.find("y"), r[3]);
        }
    }

    private static void loadTakesNoTape() {
        Probe t = Images.rich("promise 18: neither the tape nor what is told is changed");
        t.x.feed(1, 2, 3, 4, 5);
        t.dueLoad(0, 0, -1);
        t.dueCounts(2, 3, 2, 2, 5, 1228, 1, 2, 5, 2, 20);
        t.x.damage(0, 0);
        t.dueLoad(0, 2, 0);
        t.dueCounts(2, 3, 2, 2, 5, 1228, 1, 2, 5, 2, 20);
    }
}
