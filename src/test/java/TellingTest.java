import java.util.function.Function;

/** Promises 4 to 9: what is told but pointers. One method for each sentence that names an edge. */
public final class TellingTest {
    private static final String LONGEST = "sixteen.bytes..!";

    /** A call that takes the tape as a NAME. */
    interface NameCall {
        long on(Probe t);
    }

    public static void main(String[] args) {
        base();
        page();
        refusedAnewChangesNothing();
        nothingIsToldAnyMore();
        anewLeavesTheRest();
        segmentNames();
        fourSegments();
        segmentBytes();
        segmentAllowed();
        segmentIsZeroAtFirst();
        everySegmentIsZeroAtFirst();
        fillFromAPlaceOn();
        fillNoSuchSegment();
        fillBeyond();
        fillOfNothing();
        fillLongerThanASegment();
        refusedFillBringsNone();
        sectionNames();
        eightSections();
        sectionNoSuchSegment();
        sectionPlaceAndBytes();
        symbolNames();
        twentySymbols();
        symbolNoSuchSection();
        symbolPlace();
        importNames();
        twentyImports();
        importLibraries();
        tapeIsEmptyThen();
        Probe.finish();
    }

    /** NAMES have 1 to 16 bytes from 33 to 126: whether a call takes just those. */
    static void names(String title, Function<String, Probe> made, NameCall call, long taken, long refused) {
        String[] good = {"a", "!", "~", "!~", "fifteen.bytes.!", LONGEST, "!\"#$%&'()*+,-./0", "}|{zyxwvutsrqpo~"};
        String[] bad = {"", LONGEST + "!", "seventeen.bytes.and.more", " ", "\u007f", "\0", "\u0080", "\u00ff",
            " a", "a ", "a\u007f", "a b", "a\0", "\0a", "a\u00a1", "sixteen.bytes.. ", "sixteen.bytes..\0", "\1", "\n",
            "\u00a1", "x".repeat(1040)};
        for (String name : good) {
            Probe t = made.apply(title);
            t.due("a NAME of " + name.length() + ", " + name, call.on(t.tape(name)), taken);
        }
        for (String name : bad) {
            Probe t = made.apply(title);
            t.due("no NAME of " + name.length() + ", " + name, call.on(t.tape(name)), refused);
            t.due("a NAME behind it", call.on(t.tape("a")), taken);
        }
    }

    private static void base() {
        String title = "promise 4: BASE, 0 to 2^30, a multiple of 4096";
        int most = 1 << 30;
        for (int good : new int[] {0, 4096, 8192, 65536, most - 4096, most}) {
            Probe t = new Probe(title);
            t.due("anew(" + good + ", 256)", t.x.anew(good, 256), true);
            t.segment("a", 1, 0);
            t.x.write();
            t.dueNumber("ADDRESS", 56, 8, good);
        }
        int[] refused = {-1, -4096, Probe.MIN, 1, 4095, 4097, 2048, 6144, most - 1, most + 1, most + 4096,
            Probe.MAX, Probe.MAX - 4095};
        for (int bad : refused) {
            Probe t = new Probe(title);
            t.due("anew(" + bad + ", 256)", t.x.anew(bad, 256), false);
            t.segment("a", 1, 0);
            t.x.write();
            t.dueNumber("ADDRESS", 56, 8, 65536);
        }
    }

    private static void page() {
        String title = "promise 4: PAGE, a power of two from 256 to 4096";
        for (int good = 256; good <= 4096; good *= 2) {
            Probe t = new Probe(title);
            t.due("anew(0, " + good + ")", t.x.anew(0, good), true);
            t.segment("a", 1, 0);
            t.x.write();
            t.dueNumber("SPAN", 64, 8, good);
        }
        int[] refused = {0, 1, 128, 255, 257, 384, 511, 513, 768, 1023, 1025, 2047, 2049, 3072, 4095, 4097, 8192, -1,
            -256, -4096, Probe.MIN, Probe.MAX};
        for (int bad : refused) {
            Probe t = new Probe(title);
            t.due("anew(0, " + bad + ")", t.x.anew(0, bad), false);
            t.segment("a", 1, 0);
            t.x.write();
            t.dueNumber("SPAN", 64, 8, 256);
        }
    }

    private static Probe allTold(String title) {
        Probe t = new Probe(title);
        tellAll(t);
        return t;
    }

    private static void tellAll(Probe t) {
        t.segment("seg", 64, 1);
        t.fill("filling", 0, 16);
        t.section("sec", 0, 0, 64);
        t.symbol("sym", 1, 3);
        t.imports("imp", 1, true);
        t.x.rebase(0, 0, 1, 2);
        t.x.bind(0, 8, 0, 2);
    }

    private static void refusedAnewChangesNothing() {
        int[][] refused = {{-4096, 512}, {(1 << 30) + 4096, 512}, {1, 512}, {4096, 128}, {4096, 8192}, {4096, 257}};
        Written before = new Written("promise 4: before", TellingTest::tellAll);
        for (int[] r : refused) {
            Written after = new Written("promise 4: false, and all stays", t -> {
                tellAll(t);
                t.due("anew(" + r[0] + ", " + r[1] + ")", t.x.anew(r[0], r[1]), false);
                t.dueCounts(1, 1, 1, 1, 2);
            });
            after.due("bytes of the IMAGE", after.size, before.size);
            for (int k = 0; k < before.size && k < after.size; k++) {
                after.dueNumber("the IMAGE", k, 1, before.number(k, 1));
            }
        }
    }

    private static void nothingIsToldAnyMore() {
        Probe t = allTold("promise 4: nothing is told any more");
        t.due("anew(0, 256)", t.x.anew(0, 256), true);
        t.dueCounts(0, 0, 0, 0, 0);
        t.due("no POINTER", t.x.drop(0, 0), false);
        t.due("no SEGMENT", t.x.fill(0, 0), false);
        t.due("write()", t.x.write(), 105);
        t.due("numbers from 0 on", t.segment("b", 64, 1), 0);
        t.due("no POINTER in the new SEGMENT", t.x.drop(0, 0), false);
        t.due("no SECTION", t.symbol("s", 1, 0), -1);
        t.due("no IMPORT", t.x.bind(0, 0, 0, 0), false);
        t.due("numbers from 1 on", t.section("c", 0, 0, 1), 1);
        t.due("numbers from 0 on", t.symbol("d", 1, 0), 0);
        t.due("numbers from 0 on", t.imports("e", 1, true), 0);
        t.due("no POINTER at 8 is in the way", t.x.rebase(0, 4, 0, 0), true);
        t.dueCount(4, 1);
        t.x.write();
        int from = (int) t.read(72, 8);
        t.dueNumber("no byte is left", from + 16, 8, 0);
    }

    private static void anewLeavesTheRest() {
        Probe t = allTold("promise 4: the IMAGE, EXPORTS, what is loaded and the tape stay");
        t.export("e", 1, 5);
        int bytes = t.x.write();
        t.dueLoad(0, 0, -1);
        t.x.feed(1, 2, 3, 4, 5);
        t.due("anew(0, 256)", t.x.anew(0, 256), true);
        t.dueCounts(0, 0, 0, 0, 0, bytes, 1, 1, 2, 1, 20, -1);
        t.dueMemory(65536 + 16, 'f');
        t.duePointer(65536, 1 | 2L << 56);
        t.dueVisit(0, 65536, false, 1, 2);
        t.dueLoad(0, 0, -1);
        t.due("find()", t.find("sym"), 65539);
    }

    private static void segmentNames() {
        names("promise 5: NONE: no NAME", Probe::new, t -> t.x.segment(1, 0), 0, -1);
    }

    private static void fourSegments() {
        Probe t = new Probe("promise 5: NONE: there are 4");
        t.due("first", t.segment("a", 1, 0), 0);
        t.due("second, of the same NAME", t.segment("a", 1, 0), 1);
        t.due("third", t.segment("c", 1, 0), 2);
        t.due("fourth", t.segment("d", 1, 0), 3);
        t.dueCount(0, 4);
        t.due("fifth", t.segment("e", 1, 0), -1);
        t.due("fifth again", t.segment("e", 1, 0), -1);
        t.dueCount(0, 4);
        t.x.anew(0, 256);
        t.due("first again", t.segment("e", 1, 0), 0);
    }

    private static void segmentBytes() {
        int[][] rows = {{0, -1}, {1, 0}, {2, 0}, {1023, 0}, {1024, 0}, {1025, -1}, {-1, -1}, {Probe.MIN, -1},
            {Probe.MAX, -1}};
        for (int[] r : rows) {
            Probe t = new Probe("promise 5: 1 to 1024 bytes");
            t.due("segment(" + r[0] + ", 0)", t.segment("a", r[0], 0), r[1]);
            t.dueCount(0, r[1] + 1);
            t.x.write();
            t.dueNumber("how many COMMANDS", 16, 4, r[1] + 3);
            if (r[1] == 0) {
                t.dueNumber("its bytes", 80, 8, r[0]);
            }
        }
    }

    private static void segmentAllowed() {
        int[][] rows = {{-1, -1}, {0, 0}, {1, 0}, {6, 0}, {7, 0}, {8, -1}, {Probe.MIN, -1}, {Probe.MAX, -1}};
        for (int[] r : rows) {
            Probe t = new Probe("promise 5: bits of what is allowed, 0 to 7");
            t.due("segment(1, " + r[0] + ")", t.segment("a", 1, r[0]), r[1]);
            t.dueCount(0, r[1] + 1);
            if (r[1] == 0) {
                t.x.write();
                t.dueNumber("what is allowed", 92, 4, r[0]);
            }
        }
    }

    private static void segmentIsZeroAtFirst() {
        Written im = new Written("promise 5: all 0 at first", t -> {
            t.segment("a", 1024, 0);
            t.tape(new byte[0]);
            for (int k = 0; k < 52; k++) {
                t.x.feed(-1, -1, -1, -1, -1);
            }
            t.x.end(1024);
            t.due("fill", t.x.fill(0, 0), true);
            t.x.anew(0, 256);
            t.segment("b", 1024, 0);
        });
        im.dueZeros("a byte", 144, 144 + 1024);
    }

    private static void everySegmentIsZeroAtFirst() {
        Probe t = new Probe("promise 5: all 0 at first, and those ahead stay as they are filled");
        for (int round = 0; round < 2; round++) {
            t.x.anew(0, 1024);
            for (int s = 0; s < 4; s++) {
                t.segment("s", 1024, 0);
                t.x.write();
                int from = (int) t.read(32 + 72 * s + 40, 4);
                for (int k : new int[] {0, 1, 2, 3, 1020, 1021, 1022, 1023}) {
                    t.due("byte " + k + " of SEGMENT " + s, t.x.image(from + k), 0);
                }
                t.due("the last of the one ahead", t.x.image(from - 1), s == 0 ? 0 : '>');
                t.fill("<<<<", s, 0);
                t.fill(">>>>", s, 1020);
            }
        }
    }

    private static void fillFromAPlaceOn() {
        Probe t = new Probe("promise 6: the tape's bytes come from a place on");
        t.segment("a", 8, 0);
        t.segment("b", 8, 0);
        t.due("fill(1, 2)", t.fill("\1\u00ffab", 1, 2), true);
        t.due("fill(0, 7)", t.fill("z", 0, 7), true);
        t.due("over a part", t.fill("\0", 1, 3), true);
        t.x.write();
        t.dueText("the bytes", 216, "\0\0\0\0\0\0\0z\0\0\1\0ab\0\0");
    }

    private static void fillNoSuchSegment() {
        int[][] rows = {{-1, 0}, {0, 1}, {1, 1}, {2, 0}, {3, 0}, {4, 0}, {Probe.MIN, 0}, {Probe.MAX, 0}};
        for (int[] r : rows) {
            Probe t = new Probe("promise 6: false, if there is no such SEGMENT");
            t.segment("a", 8, 0);
            t.segment("b", 8, 0);
            t.due("fill(" + r[0] + ", 0)", t.fill("x", r[0], 0), r[1] == 1);
        }
        Probe t = new Probe("promise 6: false, if there is no SEGMENT at all");
        t.due("fill(0, 0)", t.fill("x", 0, 0), false);
        t.due("fill(0, 0) of nothing", t.x.fill(0, 0), false);
    }

    private static void fillBeyond() {
        int[][] rows = {{-1, 0}, {0, 1}, {1, 1}, {2, 1}, {3, 0}, {4, 0}, {5, 0}, {6, 0}, {Probe.MAX, 0},
            {Probe.MAX - 2, 0}, {Probe.MIN, 0}, {-3, 0}};
        for (int[] r : rows) {
            Probe t = new Probe("promise 6: false, if they go beyond it");
            t.segment("a", 5, 0);
            t.segment("b", 8, 0);
            t.due("fill(0, " + r[0] + ") of three", t.fill("xyz", 0, r[0]), r[1] == 1);
        }
    }

    private static void fillOfNothing() {
        int[][] rows = {{-1, 0}, {0, 1}, {4, 1}, {5, 1}, {6, 0}, {Probe.MAX, 0}, {Probe.MIN, 0}};
        for (int[] r : rows) {
            Probe t = new Probe("promise 6: an empty tape");
            t.segment("a", 5, 0);
            t.due("fill(0, " + r[0] + ") of nothing", t.x.fill(0, r[0]), r[1] == 1);
        }
    }

    private static void fillLongerThanASegment() {
        int[][] rows = {{1023, 0, 1}, {1023, 1, 1}, {1023, 2, 0}, {1024, 0, 1}, {1024, 1, 0}, {1024, -1, 0},
            {1025, 0, 0}, {1025, -1, 0}, {1040, 0, 0}, {1040, -16, 0}};
        for (int[] r : rows) {
            Probe t = new Probe("promise 6: false, if they go beyond the largest SEGMENT");
            t.segment("a", 1024, 0);
            t.segment("b", 1024, 0);
            t.tape(new byte[r[0]]);
            t.due("fill(0, " + r[1] + ") of " + r[0], t.x.fill(0, r[1]), r[2] == 1);
            t.dueCount(10, 0);
        }
    }

    private static void refusedFillBringsNone() {
        Probe t = new Probe("promise 6: false, and none come");
        t.segment("a", 5, 0);
        t.segment("b", 5, 0);
        t.fill("hello", 0, 0);
        t.due("beyond", t.fill("XXX", 0, 3), false);
        t.due("below", t.fill("XXX", 0, -1), false);
        t.due("below the second", t.fill("XXX", 1, -1), false);
        t.due("no such SEGMENT", t.fill("XXX", 2, 0), false);
        t.x.write();
        t.dueText("the bytes", 216, "hello\0\0\0\0\0\0\0\0\0\0\0");
    }

    private static Probe withSegments(String title) {
        Probe t = new Probe(title);
        t.segment("a", 10, 0);
        t.segment("b", 20, 0);
        return t;
    }

    private static void sectionNames() {
        names("promise 7: NONE: no NAME", TellingTest::withSegments, t -> t.x.section(0, 0, 0), 1, -1);
    }

    private static void eightSections() {
        Probe t = withSegments("promise 7: NONE: there are 8; numbers from 1 on");
        for (int k = 1; k <= 8; k++) {
            t.due("section " + k, t.section("s", k % 2, 0, k), k);
        }
        t.dueCount(1, 8);
        t.due("a ninth", t.section("s", 0, 0, 1), -1);
        t.due("a ninth, of the other SEGMENT", t.section("s", 1, 0, 1), -1);
        t.dueCount(1, 8);
    }

    private static void sectionNoSuchSegment() {
        int[][] rows = {{-1, -1}, {0, 1}, {1, 1}, {2, -1}, {3, -1}, {4, -1}, {Probe.MIN, -1}, {Probe.MAX, -1}};
        for (int[] r : rows) {
            Probe t = withSegments("promise 7: NONE: no SEGMENT s");
            t.due("section(" + r[0] + ", 0, 0)", t.section("s", r[0], 0, 0), r[1]);
        }
        Probe t = new Probe("promise 7: NONE: no SEGMENT at all");
        t.due("section(0, 0, 0)", t.section("s", 0, 0, 0), -1);
    }

    private static void sectionPlaceAndBytes() {
        int[][] rows = {{-1, 1, -1}, {-1, 0, -1}, {-1, 11, -1}, {0, 0, 1}, {0, 1, 1}, {0, -1, -1}, {1, -1, -1},
            {10, -1, -1}, {0, 9, 1}, {0, 10, 1}, {0, 11, -1}, {1, 9, 1}, {1, 10, -1}, {9, 0, 1}, {9, 1, 1}, {9, 2, -1},
            {10, 0, 1}, {10, 1, -1}, {11, 0, -1}, {11, -1, -1}, {Probe.MAX, Probe.MAX, -1}, {Probe.MAX, 1, -1},
            {1, Probe.MAX, -1}, {Probe.MIN, Probe.MIN, -1}, {Probe.MIN, 0, -1}, {0, Probe.MIN, -1},
            {Probe.MIN, Probe.MAX, -1}, {Probe.MAX, 0, -1}, {0, Probe.MAX, -1}};
        for (int[] r : rows) {
            Probe t = withSegments("promise 7: 0 <= place, 0 <= bytes, both together at most its bytes");
            t.due("section(0, " + r[0] + ", " + r[1] + ")", t.section("s", 0, r[0], r[1]), r[2]);
            t.dueCount(1, r[2] == 1 ? 1 : 0);
        }
        Probe t = withSegments("promise 7: the bytes of its own SEGMENT count");
        t.due("section(1, 0, 20)", t.section("s", 1, 0, 20), 1);
        t.due("section(1, 0, 21)", t.section("s", 1, 0, 21), -1);
    }

    private static Probe withSections(String title) {
        Probe t = withSegments(title);
        t.section("x", 0, 2, 5);
        t.section("y", 1, 20, 0);
        return t;
    }

    private static void symbolNames() {
        names("promise 8: NONE: no NAME", TellingTest::withSections, t -> t.x.symbol(1, 0), 0, -1);
    }

    private static void twentySymbols() {
        Probe t = withSections("promise 8: NONE: there are 20");
        for (int k = 0; k < 20; k++) {
            t.due("symbol " + k, t.symbol("s", 1, k % 6), k);
        }
        t.dueCount(2, 20);
        t.due("a 21st", t.symbol("s", 1, 0), -1);
        t.due("a 21st, of another NAME", t.symbol("t", 2, 0), -1);
        t.dueCount(2, 20);
    }

    private static void symbolNoSuchSection() {
        int[][] rows = {{-1, -1}, {0, -1}, {1, 0}, {2, 0}, {3, -1}, {8, -1}, {9, -1}, {Probe.MIN, -1},
            {Probe.MAX, -1}};
        for (int[] r : rows) {
            Probe t = withSections("promise 8: NONE: no such SECTION");
            t.due("symbol(" + r[0] + ", 0)", t.symbol("s", r[0], 0), r[1]);
            t.dueCount(2, r[1] + 1);
        }
        Probe t = withSegments("promise 8: NONE: no SECTION at all");
        t.due("symbol(0, 0)", t.symbol("s", 0, 0), -1);
        t.due("symbol(1, 0)", t.symbol("s", 1, 0), -1);
    }

    private static void symbolPlace() {
        int[][] rows = {{1, -1, -1}, {1, 0, 0}, {1, 1, 0}, {1, 4, 0}, {1, 5, 0}, {1, 6, -1}, {1, Probe.MIN, -1},
            {1, Probe.MAX, -1}, {2, -1, -1}, {2, 0, 0}, {2, 1, -1}};
        for (int[] r : rows) {
            Probe t = withSections("promise 8: place not 0 to its size");
            t.due("symbol(" + r[0] + ", " + r[1] + ")", t.symbol("s", r[0], r[1]), r[2]);
        }
    }

    private static void importNames() {
        names("promise 9: NONE: no NAME", Probe::new, t -> t.x.imports(1, false), 0, -1);
    }

    private static void twentyImports() {
        Probe t = new Probe("promise 9: NONE: there are 20");
        for (int k = 0; k < 20; k++) {
            t.due("import " + k, t.imports("i", 1 + k % 3, k % 2 == 0), k);
        }
        t.dueCount(3, 20);
        t.due("a 21st", t.imports("i", 1, false), -1);
        t.due("a 21st, of another NAME", t.imports("j", 2, true), -1);
        t.dueCount(3, 20);
    }

    private static void importLibraries() {
        int[][] rows = {{-1, -1}, {0, -1}, {1, 0}, {2, 0}, {3, 0}, {4, -1}, {255, -1}, {257, -1}, {Probe.MIN, -1},
            {Probe.MAX, -1}};
        for (int[] r : rows) {
            Probe t = new Probe("promise 9: NONE: no such LIBRARY");
            t.due("imports(" + r[0] + ", false)", t.imports("i", r[0], false), r[1]);
            t.due("imports(" + r[0] + ", true)", t.imports("i", r[0], true), r[1] == -1 ? -1 : 1);
            t.dueCount(3, r[1] == -1 ? 0 : 2);
        }
    }

    /** Promises 5 to 9, 17 and 23: a call that takes the tape leaves it empty, taken or refused. */
    private static void tapeIsEmptyThen() {
        NameCall[] taken = {t -> t.x.segment(1, 0), t -> t.x.fill(0, 0) ? 1 : 0, t -> t.x.section(0, 0, 0),
            t -> t.x.symbol(1, 0), t -> t.x.imports(1, true), t -> t.x.export(1, 0) ? 1 : 0, t -> t.x.find()};
        NameCall[] refused = {t -> t.x.segment(0, 0), t -> t.x.fill(9, 0) ? 1 : 0, t -> t.x.section(9, 0, 0),
            t -> t.x.symbol(9, 0), t -> t.x.imports(9, true), t -> t.x.export(9, 0) ? 1 : 0, t -> t.x.find()};
        for (int k = 0; k < taken.length; k++) {
            Probe t = withSections("promises 5 to 9, 17, 23: the tape is empty then");
            taken[k].on(t.tape("name"));
            t.dueCount(10, 0);
            refused[k].on(t.tape("name"));
            t.dueCount(10, 0);
            refused[k].on(t.tape("no name by far"));
            t.dueCount(10, 0);
        }
    }
}
