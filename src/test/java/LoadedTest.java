/** Promises 19 to 24: what is loaded, looked at. One method for each sentence that names an edge. */
public final class LoadedTest {
    public static void main(String[] args) {
        placeAheadOfAny();
        placeOfTheLatest();
        placeStays();
        memoryOfNothing();
        memoryEdges();
        memoryGaps();
        memoryAtTheEnds();
        memoryBytes();
        pointerLowestFirst();
        pointerOfNothing();
        pointerEdges();
        pointerOverTwoSegments();
        pointerInSmallSpans();
        pointerAtTheEnds();
        throwingPointerChangesNothing();
        visitNumbers();
        visitWhats();
        visitValues();
        visitOfNothing();
        throwingVisitChangesNothing();
        findOfNothing();
        findTheFirst();
        findWholeNames();
        findWhateverTheyAre();
        findTheEmptyName();
        findLongNames();
        findWithTheSlide();
        findEmptiesTheTape();
        countOfAll();
        countOfNone();
        countOfEachByOne();
        Probe.finish();
    }

    private static void placeAheadOfAny() {
        Probe t = new Probe("promise 19: NONE ahead of any");
        t.due("place()", t.x.place(), -1);
        t.x.write();
        t.x.cut(3);
        t.due("place()", t.x.place(), -1);
        t.due("load(0)", t.x.load(0), 1);
        t.due("place()", t.x.place(), 3);
    }

    private static void placeOfTheLatest() {
        Probe t = Images.small("promise 19: the place of the FAULT of the latest load(), NONE without one");
        t.dueLoad(0, 0, -1);
        t.dueLoad(-65537, 13, 0);
        t.dueLoad(0, 0, -1);
        t.patch(16, 4, 17);
        t.dueLoad(0, 3, 16);
        t.patch(0, 1, 0);
        t.dueLoad(0, 2, 0);
        t.x.write();
        t.dueLoad(0, 0, -1);
    }

    private static void placeStays() {
        Probe t = Images.small("promise 19: other calls leave the place");
        t.patch(218, 2, 6);
        t.dueLoad(0, 10, 218);
        t.x.write();
        t.x.anew(0, 256);
        t.segment("a", 8, 0);
        t.due("place()", t.x.place(), 218);
        t.x.cut(0);
        t.export("e", 1, 1);
        t.find("e");
        t.dueNoPointer(0);
        t.dueNoVisit(0, 0);
        t.dueMemory(0, -1);
        t.due("place()", t.x.place(), 218);
        t.due("place() once more", t.x.place(), 218);
    }

    private static void memoryOfNothing() {
        Probe t = new Probe("promise 20: NONE: nothing is loaded");
        for (int address : new int[] {0, 1, -1, 65536, Probe.MAX, Probe.MIN}) {
            t.dueMemory(address, -1);
        }
        t.segment("a", 8, 0);
        t.x.write();
        t.dueMemory(65536, -1);
        t.dueLoad(0, 0, -1);
        t.dueMemory(65536, 0);
    }

    private static void memoryEdges() {
        Probe t = new Probe("promise 20: NONE: nothing is loaded there");
        t.segment("a", 256, 0);
        t.segment("b", 257, 0);
        t.fill("<", 0, 0);
        t.fill(">", 0, 255);
        t.fill("[", 1, 0);
        t.fill("]", 1, 256);
        t.x.write();
        t.dueLoad(0, 0, -1);
        int[][] rows = {{-1, -1}, {0, '<'}, {1, 0}, {255, '>'}, {256, '['}, {257, 0}, {512, ']'}, {513, 0}, {767, 0},
            {768, -1}, {769, -1}};
        for (int[] r : rows) {
            t.dueMemory(65536 + r[0], r[1]);
        }
        t.dueMemory(0, -1);
        t.dueMemory(-65536, -1);
        t.dueMemory(Probe.MIN, -1);
        t.dueMemory(Probe.MIN + 65536, -1);
        t.dueMemory(Probe.MAX, -1);
    }

    private static void memoryGaps() {
        // The fourth SEGMENT moves 100 bytes away, so that none lies between.
        Probe t = Images.four("promise 20: NONE between two SEGMENTS");
        t.patch(248 + 24, 8, 65536 + 768 + 100);
        t.dueLoad(0, 0, -1);
        t.dueMemory(65536 + 767, 0);
        t.dueMemory(65536 + 768, -1);
        t.dueMemory(65536 + 867, -1);
        t.dueMemory(65536 + 868, 0);
        t.dueMemory(65536 + 868 + 255, 0);
        t.dueMemory(65536 + 868 + 256, -1);
    }

    private static void memoryAtTheEnds() {
        Probe t = Images.small("promise 20: at 0 and at 2^31 - 1");
        t.dueLoad(-65536, 0, -1);
        t.dueMemory(-1, -1);
        t.dueMemory(0, 0);
        t.dueMemory(255, 0);
        t.dueMemory(256, -1);
        t.dueLoad(Probe.MAX - 65536 - 255, 0, -1);
        t.dueMemory(Probe.MAX - 256, -1);
        t.dueMemory(Probe.MAX - 255, 0);
        t.dueMemory(Probe.MAX, 0);
        t.dueMemory(Probe.MIN, -1);
        t.dueMemory(0, -1);
    }

    private static void memoryBytes() {
        Probe t = new Probe("promise 20: a byte is 0 to 255");
        t.segment("a", 4, 0);
        t.fill("\0\u007f\u0080\u00ff", 0, 0);
        t.x.write();
        t.dueLoad(0, 0, -1);
        t.dueMemory(65536, 0);
        t.dueMemory(65537, 127);
        t.dueMemory(65538, 128);
        t.dueMemory(65539, 255);
    }

    private static Probe loaded(String title) {
        Probe t = new Probe(title);
        t.segment("a", 21, 0);
        t.segment("b", 8, 0);
        t.fill("abcdefghijklmnopqrst\u00ff", 0, 0);
        t.fill("12345678", 1, 0);
        t.x.write();
        t.dueLoad(0, 0, -1);
        return t;
    }

    private static void pointerLowestFirst() {
        Probe t = loaded("promise 21: eight bytes from an address on, the lowest first");
        t.duePointer(65536, 0x6867666564636261L);
        t.duePointer(65537, 0x6968676665646362L);
        t.duePointer(65536 + 13, 0xFF74737271706F6EL);
        t.duePointer(65536 + 14, 0x00FF74737271706FL);
        t.duePointer(65536 + 20, 255);
        t.duePointer(65536 + 21, 0);
        t.duePointer(65536 + 256, 0x3837363534333231L);
    }

    private static void pointerOfNothing() {
        Probe t = new Probe("promise 21: NoSuchElementException: nothing is loaded");
        for (int address : new int[] {0, 65536, -1, Probe.MAX, Probe.MIN}) {
            t.dueNoPointer(address);
        }
        t.x.write();
        t.dueLoad(0, 0, -1);
        t.dueNoPointer(0);
    }

    private static void pointerEdges() {
        Probe t = loaded("promise 21: NoSuchElementException: they are not all in one SEGMENT");
        for (int k = 1; k <= 9; k++) {
            t.dueNoPointer(65536 - k);
        }
        t.duePointer(65536 + 512 - 8, 0);
        for (int k = 1; k <= 7; k++) {
            t.dueNoPointer(65536 + 512 - k);
        }
        t.dueNoPointer(65536 + 512);
        t.dueNoPointer(0);
        t.dueNoPointer(Probe.MAX);
        t.dueNoPointer(Probe.MIN);
        t.dueNoPointer(-1);
    }

    private static void pointerOverTwoSegments() {
        Probe t = loaded("promise 21: NoSuchElementException: they are in two SEGMENTS, one behind another");
        t.duePointer(65536 + 256 - 8, 0);
        for (int k = 1; k <= 7; k++) {
            t.dueNoPointer(65536 + 256 - k);
        }
        t.duePointer(65536 + 256, 0x3837363534333231L);
    }

    private static void pointerInSmallSpans() {
        for (int span = 7; span <= 9; span++) {
            Probe t = Images.four("promise 21: a SPAN of " + span);
            t.patch(64, 8, span);
            t.patch(80, 8, 7);
            t.dueLoad(0, 0, -1);
            if (span < 8) {
                t.dueNoPointer(65536);
            } else {
                t.duePointer(65536, 0);
            }
            if (span < 9) {
                t.dueNoPointer(65537);
            } else {
                t.duePointer(65537, 0);
            }
        }
    }

    private static void pointerAtTheEnds() {
        Probe t = Images.small("promise 21: at 0 and at 2^31 - 1");
        t.dueLoad(-65536, 0, -1);
        t.duePointer(0, 0);
        t.dueNoPointer(-1);
        t.dueNoPointer(-7);
        t.dueLoad(Probe.MAX - 65536 - 255, 0, -1);
        t.duePointer(Probe.MAX - 7, 0);
        t.dueNoPointer(Probe.MAX - 6);
        t.dueNoPointer(Probe.MAX);
        t.dueNoPointer(Probe.MIN);
    }

    private static void throwingPointerChangesNothing() {
        Probe t = Images.rich("promise 21: a call that throws changes nothing");
        t.dueLoad(0, 0, -1);
        t.x.feed(1, 2, 3, 4, 5);
        t.dueNoPointer(0);
        t.dueNoPointer(65536 + 511);
        t.dueCounts(2, 3, 2, 2, 5, 1228, 1, 2, 5, 2, 20, -1);
        t.due("place()", t.x.place(), -1);
        t.duePointer(65536, 70000 | 5L << 56);
    }

    private static void visitNumbers() {
        Probe t = Images.rich("promise 22: NoSuchElementException: there is none such");
        t.dueLoad(0, 0, -1);
        int[] addresses = {0, 8, 264, 516, 768};
        for (int k = 0; k < 5; k++) {
            t.dueVisit(k, 0, 65536 + addresses[k]);
        }
        for (int what = 0; what < 4; what++) {
            t.dueNoVisit(-1, what);
            t.dueNoVisit(5, what);
            t.dueNoVisit(6, what);
            t.dueNoVisit(2048, what);
            t.dueNoVisit(Probe.MIN, what);
            t.dueNoVisit(Probe.MAX, what);
        }
        // One that an earlier load had is none.
        t.patch(1096, 4, 0);
        t.dueLoad(0, 0, -1);
        t.dueVisit(1, 0, 65536 + 768);
        t.dueNoVisit(2, 0);
    }

    private static void visitWhats() {
        Probe t = Images.rich("promise 22: NoSuchElementException: another what");
        t.dueLoad(0, 0, -1);
        for (int k = 0; k < 5; k++) {
            for (int what : new int[] {-1, 4, 5, Probe.MIN, Probe.MAX}) {
                t.dueNoVisit(k, what);
            }
        }
        t.dueNoVisit(5, 4);
        t.dueNoVisit(-1, -1);
    }

    private static void visitValues() {
        Probe t = new Probe("promise 22: TARGET or IMPORT, HIGH or ADDED, as large as may be");
        t.segment("a", 40, 0);
        for (int k = 0; k < 20; k++) {
            t.imports("i", 1, true);
        }
        long most = (1L << 36) - 1;
        t.x.rebase(0, 0, most, 255);
        t.x.bind(0, 8, 19, 255);
        t.x.rebase(0, 16, 0, 0);
        t.x.bind(0, 24, 0, 0);
        t.x.rebase(0, 32, 1L << 31, 128);
        t.x.write();
        t.dueLoad(0, 0, -1);
        t.dueVisit(0, 65536, false, most, 255);
        t.dueVisit(1, 65544, true, 19, 255);
        t.dueVisit(2, 65552, false, 0, 0);
        t.dueVisit(3, 65560, true, 0, 0);
        t.dueVisit(4, 65568, false, 1L << 31, 128);
        t.dueLoad(Probe.MAX - 65536 - 255, 0, -1);
        t.dueVisit(4, Probe.MAX - 255 + 32, false, 1L << 31, 128);
    }

    private static void visitOfNothing() {
        Probe t = new Probe("promise 22: NoSuchElementException: nothing is loaded");
        t.dueNoVisit(0, 0);
        t.segment("a", 8, 0);
        t.x.rebase(0, 0, 0, 0);
        t.x.write();
        t.dueNoVisit(0, 0);
        t.dueLoad(0, 0, -1);
        t.dueVisit(0, 65536, false, 0, 0);
        t.dueNoVisit(1, 0);
    }

    private static void throwingVisitChangesNothing() {
        Probe t = Images.rich("promise 22: a call that throws changes nothing");
        t.dueLoad(0, 0, -1);
        t.x.feed(1, 2, 3, 4, 5);
        t.dueNoVisit(5, 0);
        t.dueNoVisit(0, 4);
        t.dueCounts(2, 3, 2, 2, 5, 1228, 1, 2, 5, 2, 20, -1);
        t.due("place()", t.x.place(), -1);
        t.dueVisit(4, 65536 + 768, false, 2, 0);
    }

    private static void findOfNothing() {
        Probe t = new Probe("promise 23: NONE: nothing is loaded");
        t.due("an empty tape", t.x.find(), -1);
        t.segment("a", 8, 0);
        t.section("s", 0, 0, 8);
        t.symbol("y", 1, 3);
        t.due("told", t.find("y"), -1);
        t.x.write();
        t.due("written", t.find("y"), -1);
        t.dueLoad(0, 0, -1);
        t.due("loaded", t.find("y"), 65539);
        t.x.cut(0);
        t.x.anew(0, 256);
        t.due("loaded still", t.find("y"), 65539);
        t.x.write();
        t.dueLoad(0, 0, -1);
        t.due("another IMAGE is loaded", t.find("y"), -1);
    }

    private static Probe withSymbols(String title, String... names) {
        Probe t = new Probe(title);
        t.segment("a", 100, 0);
        t.section("s", 0, 0, 100);
        for (int k = 0; k < names.length; k++) {
            t.symbol(names[k], 1, k);
        }
        t.x.write();
        t.dueLoad(0, 0, -1);
        return t;
    }

    private static void findTheFirst() {
        Probe t = withSymbols("promise 23: the first SYMBOL whose NAME they are", "b", "a", "a", "b", "c");
        t.due("find(a)", t.find("a"), 65537);
        t.due("find(b)", t.find("b"), 65536);
        t.due("find(c)", t.find("c"), 65540);
        t.due("find(d)", t.find("d"), -1);
        Probe all = withSymbols("promise 23: the last of 20 SYMBOLS", "a", "b", "c", "d", "e", "f", "g", "h", "i", "j",
            "k", "l", "m", "n", "o", "p", "q", "r", "s", "t");
        all.due("find(t)", all.find("t"), 65555);
        all.due("find(u)", all.find("u"), -1);
    }

    private static void findWholeNames() {
        Probe t = withSymbols("promise 23: whose NAME they are, not a part of it", "main", "mai", "mainx");
        t.due("main", t.find("main"), 65536);
        t.due("mai", t.find("mai"), 65537);
        t.due("mainx", t.find("mainx"), 65538);
        for (String other : new String[] {"", "m", "ma", "ain", "mainxy", "Main", "main\0", "\0main", "main\0mai",
            "main\0mai\0mainx\0", "\0", "m".repeat(1040)}) {
            t.due("find() of " + other.length() + " bytes", t.find(other), -1);
        }
    }

    private static void findWhateverTheyAre() {
        // SYMBOLS at 1184 and 1200, STRINGS at 1216: a 0, alpha, a 0, beta, a 0.
        Probe t = Images.rich("promise 23: the tape's bytes, whatever they are");
        t.patchText(1217, "\1 \u007f\u0080\u00ff");
        t.dueLoad(0, 0, -1);
        t.due("bytes that no NAME has", t.find("\1 \u007f\u0080\u00ff"), 65541);
        t.due("others", t.find("\1 \u007f\u0080\u00fe"), -1);
        t.due("fewer", t.find("\1 \u007f\u0080"), -1);
        t.patch(1222, 1, 200);
        t.dueLoad(0, 0, -1);
        t.due("ten bytes", t.find("\1 \u007f\u0080\u00ff\u00c8beta"), 65541);
        t.due("a NAME in a NAME", t.find("beta"), 65536 + 512 + 107);
    }

    private static void findTheEmptyName() {
        Probe t = Images.rich("promise 23: an empty tape, and a NAME of no byte");
        t.dueLoad(0, 0, -1);
        t.due("no SYMBOL has it", t.x.find(), -1);
        t.patch(1200, 4, 0);
        t.dueLoad(0, 0, -1);
        t.due("the first 0 of STRINGS", t.x.find(), 65536 + 512 + 107);
        t.patch(1184, 4, 11);
        t.dueLoad(0, 0, -1);
        t.due("the last 0 of STRINGS", t.x.find(), 65541);
        t.due("a 0 on the tape", t.find("\0"), -1);
    }

    private static void findLongNames() {
        // STRINGS are a SEGMENT's bytes: a NAME of as many bytes as the tape may have, and of one more.
        for (int length : new int[] {16, 17, 1039, 1040, 1041}) {
            Probe t = new Probe("promise 23: a NAME of " + length + " bytes");
            t.segment("a", 1024, 0);
            t.segment("b", 1024, 0);
            t.section("s", 0, 0, 100);
            t.symbol("y", 1, 5);
            t.tape("x".repeat(1024)).x.fill(0, 0);
            t.tape("x".repeat(length < 1024 ? 0 : length - 1024)).x.fill(1, 0);
            t.x.write();
            int from = (int) t.read(72, 8);
            int symtab = 32 + 152 + 72;
            t.patch((int) t.read(symtab + 8, 4), 4, 0);
            t.patch(symtab + 16, 8, from | 2048L << 32);
            if (length < 1024) {
                t.patch(from + length, 1, 0);
            }
            t.dueLoad(0, 0, -1);
            String longest = "x".repeat(Math.min(length, 1040));
            t.due("find()", t.find(longest), length <= 1040 ? 65541 : -1);
            t.due("one byte less", t.find(longest.substring(1)), -1);
        }
    }

    private static void findWithTheSlide() {
        Probe t = Images.rich("promise 23: with the slide");
        for (int slide : new int[] {0, 1, -1, -65536, 4096, Probe.MAX - 65536 - 1023}) {
            t.dueLoad(slide, 0, -1);
            t.due("find() with " + slide, t.find("alpha"), 65541 + slide);
        }
    }

    private static void findEmptiesTheTape() {
        Probe t = Images.rich("promise 23: the tape is empty then");
        t.dueLoad(0, 0, -1);
        t.find("alpha");
        t.dueCount(10, 0);
        t.find("none");
        t.dueCount(10, 0);
    }

    private static void countOfAll() {
        Probe t = Images.rich("promise 24: 0 to 10");
        t.dueCounts(2, 3, 2, 2, 5, 1228, 1, 0, 0, 0, 0);
        t.dueLoad(0, 0, -1);
        t.x.feed(1, 2, 3, 4, 5);
        t.x.end(13);
        t.dueCounts(2, 3, 2, 2, 5, 1228, 1, 2, 5, 2, 13);
    }

    private static void countOfNone() {
        Probe t = new Probe("promise 24: NONE for another what");
        for (int what : new int[] {-1, 11, 12, 256, Probe.MIN, Probe.MAX}) {
            t.dueCount(what, -1);
        }
        t.dueCount(0, 0);
        t.dueCount(10, 0);
    }

    private static void countOfEachByOne() {
        Probe t = new Probe("promise 24: each counts what it tells");
        t.segment("a", 16, 0);
        t.dueCounts(1, 0, 0, 0, 0, 0, 0, 0, 0, 0, 0);
        t.section("s", 0, 0, 8);
        t.dueCounts(1, 1, 0, 0, 0, 0, 0, 0, 0, 0, 0);
        t.symbol("y", 1, 0);
        t.dueCounts(1, 1, 1, 0, 0, 0, 0, 0, 0, 0, 0);
        t.imports("i", 1, true);
        t.dueCounts(1, 1, 1, 1, 0, 0, 0, 0, 0, 0, 0);
        t.x.bind(0, 0, 0, 0);
        t.dueCounts(1, 1, 1, 1, 1, 0, 0, 0, 0, 0, 0);
        t.export("e", 1, 1);
        t.dueCounts(1, 1, 1, 1, 1, 0, 1, 0, 0, 0, 0);
        t.x.feed(0, 0, 0, 0, 0);
        int bytes = t.x.write();
        t.dueCounts(1, 1, 1, 1, 1, bytes, 1, 0, 0, 0, 20);
        t.x.load(0);
        t.dueCounts(1, 1, 1, 1, 1, bytes, 1, 1, 1, 1, 20);
        t.x.anew(0, 256);
        t.dueCounts(0, 0, 0, 0, 0, bytes, 1, 1, 1, 1, 20);
        t.x.cut(0);
        t.dueCounts(0, 0, 0, 0, 0, 0, 1, 1, 1, 1, 20);
    }
}
