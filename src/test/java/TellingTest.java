/** Promises 2 to 12, and 24 of what is told. */
public final class TellingTest {
    private static final String LONGEST = "sixteen.bytes..!";

    public static void main(String[] args) {
        feed();
        end();
        anew();
        segment();
        fill();
        section();
        symbol();
        imports();
        pointers();
        pointersInPages();
        hundredPointers();
        drop();
        Probe.finish();
    }

    private static void feed() {
        Probe t = new Probe("promise 2");
        t.due("feed", t.x.feed(0x21416061, 0x7E220000, -1, 0, 0), 20);
        t.due("count(10)", t.x.count(10), 20);
        t.x.end(8);
        // Four bytes of one number and two of the next, seen in an image.
        t.x.end(6);
        t.x.end(5);
        t.due("a name of five bytes", t.x.segment(1, 0), 0);
        t.x.write();
        t.dueText("NAME", 40, "!A`a~\0");
        for (int k = 1; k <= 52; k++) {
            t.due("feed " + k, t.x.feed(1, 2, 3, 4, k), 20 * k);
        }
        t.due("feed beyond 1040", t.x.feed(1, 2, 3, 4, 5), -1);
        t.due("count(10)", t.x.count(10), 1040);
        t.x.end(1021);
        t.due("feed to 1041", t.x.feed(1, 2, 3, 4, 5), -1);
        t.x.end(1020);
        t.due("feed to 1040", t.x.feed(1, 2, 3, 4, 5), 1040);
    }

    private static void end() {
        Probe t = new Probe("promise 3");
        t.due("end(1) of nothing", t.x.end(1), false);
        t.due("end(0) of nothing", t.x.end(0), true);
        t.x.feed(1, 2, 3, 4, 5);
        t.due("end(-1)", t.x.end(-1), false);
        t.due("end(21)", t.x.end(21), false);
        t.due("end(min)", t.x.end(Integer.MIN_VALUE), false);
        t.due("count(10)", t.x.count(10), 20);
        t.due("end(20)", t.x.end(20), true);
        t.due("end(7)", t.x.end(7), true);
        t.due("count(10)", t.x.count(10), 7);
        t.due("end(8)", t.x.end(8), false);
        t.due("feed", t.x.feed(0, 0, 0, 0, 0), 27);
    }

    private static void anew() {
        Probe t = new Probe("promise 4");
        tellAll(t);
        t.export("e", 1, 5);
        int bytes = t.x.write();
        t.x.load(0);
        t.x.feed(1, 2, 3, 4, 5);
        int[][] refused = {{-4096, 256}, {4095, 256}, {2048, 256}, {(1 << 30) + 4096, 256}, {0, 128}, {0, 255},
            {0, 257}, {0, 768}, {0, 8192}, {0, 0}, {0, -256}, {0, Integer.MIN_VALUE}, {Integer.MIN_VALUE, 256}};
        for (int[] r : refused) {
            t.due("anew(" + r[0] + ", " + r[1] + ")", t.x.anew(r[0], r[1]), false);
        }
        t.dueCounts(1, 1, 1, 1, 2, bytes, 1, 1, 2, 1, 20);
        t.due("anew(0, 4096)", t.x.anew(0, 4096), true);
        t.dueCounts(0, 0, 0, 0, 0, bytes, 1, 1, 2, 1, 20);
        t.segment("again", 64, 1);
        t.due("no pointer is left", t.x.drop(0, 0), false);
        t.x.write();
        t.dueNumber("ADDRESS", 56, 8, 0);
        t.dueNumber("SPAN", 64, 8, 4096);
        t.dueNumber("no byte is left", (int) t.read(72, 8) + 16, 8, 0);
        for (int page = 256; page <= 4096; page *= 2) {
            t.due("anew(1 << 30, " + page + ")", t.x.anew(1 << 30, page), true);
        }
        t.segment("high", 1, 1);
        t.x.write();
        t.dueNumber("ADDRESS", 56, 8, 1 << 30);
    }

    private static void tellAll(Probe t) {
        t.segment("seg", 64, 1);
        t.tape("filling").x.fill(0, 16);
        t.section("sec", 0, 0, 64);
        t.symbol("sym", 1, 3);
        t.imports("imp", 1, true);
        t.x.rebase(0, 0, 1, 2);
        t.x.bind(0, 8, 0, 2);
    }

    private static void segment() {
        Probe t = new Probe("promise 5");
        t.due("no NAME: empty", t.segment("", 1, 0), -1);
        t.due("no NAME: 17 bytes", t.segment(LONGEST + "x", 1, 0), -1);
        t.due("no NAME: 32", t.segment("a b", 1, 0), -1);
        t.due("no NAME: 127", t.segment("a\u007f", 1, 0), -1);
        t.due("no NAME: 0", t.segment("a\0", 1, 0), -1);
        t.due("no NAME: 255", t.segment("\u00ff", 1, 0), -1);
        t.due("0 bytes", t.segment("a", 0, 0), -1);
        t.due("the tape is empty", t.x.count(10), 0);
        t.due("1025 bytes", t.segment("a", 1025, 0), -1);
        t.due("-1 bytes", t.segment("a", -1, 0), -1);
        t.due("allowed -1", t.segment("a", 1, -1), -1);
        t.due("allowed 8", t.segment("a", 1, 8), -1);
        t.due("none yet", t.x.count(0), 0);
        t.due("first", t.segment(LONGEST, 1, 0), 0);
        t.due("the tape is empty", t.x.count(10), 0);
        t.due("second", t.segment("!~", 1024, 7), 1);
        t.due("third, of the same NAME", t.segment("!~", 5, 7), 2);
        t.due("fourth", t.segment("d", 5, 7), 3);
        t.due("fifth", t.segment("e", 5, 7), -1);
        t.due("the tape is empty", t.x.count(10), 0);
        t.due("four", t.x.count(0), 4);
    }

    private static void fill() {
        Probe t = new Probe("promise 6");
        t.segment("a", 5, 0);
        t.segment("b", 1024, 0);
        t.due("fits", t.tape("hello").x.fill(0, 0), true);
        t.due("the tape is empty", t.x.count(10), 0);
        t.due("beyond", t.tape("XXXXX").x.fill(0, 1), false);
        t.due("the tape is empty", t.x.count(10), 0);
        t.due("below", t.tape("X").x.fill(0, -1), false);
        t.due("no segment 2", t.tape("X").x.fill(2, 0), false);
        t.due("no segment -1", t.tape("X").x.fill(-1, 0), false);
        t.due("far", t.tape("X").x.fill(0, Integer.MAX_VALUE), false);
        t.due("far below", t.tape("X").x.fill(0, Integer.MIN_VALUE), false);
        t.due("nothing at the end", t.x.fill(0, 5), true);
        t.due("nothing behind the end", t.x.fill(0, 6), false);
        t.due("over a part", t.tape("\0\u00ff").x.fill(0, 3), true);
        t.due("a whole segment", t.tape(new byte[1024]).x.fill(1, 0), true);
        t.due("too much for a segment", t.tape(new byte[1025]).x.fill(1, 0), false);
        t.due("too much, from below", t.tape(new byte[1030]).x.fill(1, -6), false);
        t.x.write();
        t.dueText("the bytes", (int) t.read(72, 8), "hel\0\u00ff");
    }

    private static void section() {
        Probe t = new Probe("promise 7");
        t.due("no segment", t.section("s", 0, 0, 0), -1);
        t.segment("a", 10, 0);
        t.segment("b", 20, 0);
        t.due("no NAME", t.section("", 0, 0, 0), -1);
        t.due("no NAME", t.section(LONGEST + "x", 0, 0, 0), -1);
        t.due("no segment 2", t.section("s", 2, 0, 0), -1);
        t.due("no segment -1", t.section("s", -1, 0, 0), -1);
        t.due("place -1", t.section("s", 0, -1, 1), -1);
        t.due("bytes -1", t.section("s", 0, 1, -1), -1);
        t.due("11 bytes", t.section("s", 0, 0, 11), -1);
        t.due("10 bytes from 1 on", t.section("s", 0, 1, 10), -1);
        t.due("place 11", t.section("s", 0, 11, 0), -1);
        t.due("a sum that wraps", t.section("s", 0, Integer.MAX_VALUE, Integer.MAX_VALUE), -1);
        t.due("the tape is empty", t.x.count(10), 0);
        t.due("first", t.section("s", 0, 0, 10), 1);
        t.due("the tape is empty", t.x.count(10), 0);
        t.due("second", t.section("s", 0, 10, 0), 2);
        for (int k = 3; k <= 8; k++) {
            t.due("section " + k, t.section(LONGEST, 1, k, 20 - k), k);
        }
        t.due("ninth", t.section("s", 0, 0, 0), -1);
        t.due("eight", t.x.count(1), 8);
    }

    private static void symbol() {
        Probe t = new Probe("promise 8");
        t.segment("a", 10, 0);
        t.due("no section yet", t.symbol("s", 1, 0), -1);
        t.section("x", 0, 2, 5);
        t.due("no NAME", t.symbol("", 1, 0), -1);
        t.due("no section 0", t.symbol("s", 0, 0), -1);
        t.due("no section 2", t.symbol("s", 2, 0), -1);
        t.due("no section -1", t.symbol("s", -1, 0), -1);
        t.due("no section min", t.symbol("s", Integer.MIN_VALUE, 0), -1);
        t.due("place -1", t.symbol("s", 1, -1), -1);
        t.due("place 6", t.symbol("s", 1, 6), -1);
        t.due("the tape is empty", t.x.count(10), 0);
        for (int k = 0; k < 20; k++) {
            t.due("symbol " + k, t.symbol(LONGEST, 1, k % 6), k);
        }
        t.due("the tape is empty", t.x.count(10), 0);
        t.due("a 21st", t.symbol("s", 1, 0), -1);
        t.due("twenty", t.x.count(2), 20);
    }

    private static void imports() {
        Probe t = new Probe("promise 9");
        t.due("no NAME", t.imports("", 1, false), -1);
        t.due("no library 0", t.imports("i", 0, false), -1);
        t.due("no library 4", t.imports("i", 4, true), -1);
        t.due("no library -1", t.imports("i", -1, true), -1);
        t.due("the tape is empty", t.x.count(10), 0);
        for (int k = 0; k < 20; k++) {
            t.due("import " + k, t.imports(LONGEST, 1 + k % 3, k % 2 == 0), k);
        }
        t.due("the tape is empty", t.x.count(10), 0);
        t.due("a 21st", t.imports("i", 1, false), -1);
        t.due("twenty", t.x.count(3), 20);
    }

    private static void pointers() {
        Probe t = new Probe("promises 10 and 11");
        t.due("no segment", t.x.rebase(0, 0, 0, 0), false);
        t.segment("a", 1024, 0);
        t.segment("b", 15, 0);
        t.due("no import", t.x.bind(0, 0, 0, 0), false);
        t.imports("i", 1, true);
        t.x.feed(1, 2, 3, 4, 5);
        long most = (1L << 36) - 1;
        Object[][] rows = {
            {0, 0, -1L, 0, false}, {0, 0, most + 1, 0, false}, {0, 0, Long.MIN_VALUE, 0, false},
            {0, 0, 0L, -1, false}, {0, 0, 0L, 256, false}, {-1, 0, 0L, 0, false}, {2, 0, 0L, 0, false},
            {0, -4, 0L, 0, false}, {0, 1, 0L, 0, false}, {0, 2, 0L, 0, false}, {0, 1020, 0L, 0, false},
            {0, 1024, 0L, 0, false}, {0, Integer.MAX_VALUE - 3, 0L, 0, false}, {0, Integer.MIN_VALUE, 0L, 0, false},
            {1, 8, 0L, 0, false}, {1, 4, 0L, 0, true}, {1, 0, 0L, 0, false}, {0, 1016, most, 255, true},
            {0, 0, 0L, 0, true}, {0, 0, 1L, 1, true}, {0, 4, 0L, 0, false}, {0, 8, 0L, 0, true},
            {0, 20, 0L, 0, true}, {0, 16, 0L, 0, false}, {0, 12, 0L, 0, false}, {0, 24, 0L, 0, false},
        };
        for (Object[] r : rows) {
            String call = "rebase(" + r[0] + ", " + r[1] + ", " + r[2] + ", " + r[3] + ")";
            t.due(call, t.x.rebase((Integer) r[0], (Integer) r[1], (Long) r[2], (Integer) r[3]), (Boolean) r[4]);
        }
        t.due("count(4)", t.x.count(4), 5);
        int[][] refused = {{0, 32, 1, 0}, {0, 32, -1, 0}, {0, 32, 0, -1}, {0, 32, 0, 256}, {0, 33, 0, 0},
            {0, 24, 0, 0}, {0, 4, 0, 0}, {2, 0, 0, 0}, {-1, 0, 0, 0}, {1, 8, 0, 0}, {0, -8, 0, 0}};
        for (int[] r : refused) {
            t.due("bind at " + r[1] + " of " + r[2], t.x.bind(r[0], r[1], r[2], r[3]), false);
        }
        t.due("a bind in a rebase's place", t.x.bind(0, 8, 0, 255), true);
        t.due("count(4)", t.x.count(4), 5);
        t.due("a bind of its own", t.x.bind(0, 32, 0, 0), true);
        t.due("count(4)", t.x.count(4), 6);
        t.due("the tape stays", t.x.count(10), 20);
        t.x.write();
        int at = (int) t.read(72, 8);
        t.dueNumber("the later rebase", at, 8, 1L << 36 | 1 | 2L << 51);
        t.dueNumber("the bind", at + 8, 8, 1L << 63 | 255L << 24 | 3L << 51);
        t.dueNumber("the next", at + 20, 8, 3L << 51);
        t.dueNumber("the last", at + 32, 8, 1L << 63);
        t.dueNumber("the end", at + 1016, 8, 255L << 36 | most);
    }

    private static void pointersInPages() {
        Probe t = new Probe("within one page");
        t.segment("a", 600, 0);
        t.due("over the page's end", t.x.rebase(0, 252, 0, 0), false);
        t.due("at the page's end", t.x.rebase(0, 248, 0, 0), true);
        t.due("at the next one's beginning", t.x.rebase(0, 256, 0, 0), true);
        t.x.anew(0, 512);
        t.segment("a", 600, 0);
        t.due("within the larger page", t.x.rebase(0, 252, 0, 0), true);
        t.due("over the larger page's end", t.x.rebase(0, 508, 0, 0), false);
        t.due("at the segment's end", t.x.rebase(0, 592, 0, 0), true);
        t.due("in the span, but beyond the segment", t.x.rebase(0, 600, 0, 0), false);
    }

    private static void hundredPointers() {
        Probe t = new Probe("100 pointers");
        t.segment("a", 1024, 0);
        t.segment("b", 1024, 0);
        t.imports("i", 1, true);
        for (int k = 0; k < 100; k++) {
            t.due("rebase " + k, t.x.rebase(0, 8 * k, k, 0), true);
        }
        t.due("a 101st", t.x.rebase(0, 800, 0, 0), false);
        t.due("a 101st, a bind", t.x.bind(1, 0, 0, 0), false);
        t.due("one in another's place", t.x.bind(0, 8, 0, 0), true);
        t.due("count(4)", t.x.count(4), 100);
        t.due("drop", t.x.drop(0, 16), true);
        t.due("a 100th again", t.x.bind(1, 0, 0, 0), true);
        t.due("count(4)", t.x.count(4), 100);
    }

    private static void drop() {
        Probe t = new Probe("promise 12");
        t.due("no segment", t.x.drop(0, 0), false);
        t.segment("a", 32, 0);
        t.tape("0123456789abcdef").x.fill(0, 0);
        t.x.rebase(0, 4, 7, 0);
        t.x.feed(1, 2, 3, 4, 5);
        t.due("none at 0", t.x.drop(0, 0), false);
        t.due("none at 8", t.x.drop(0, 8), false);
        t.due("none at 5", t.x.drop(0, 5), false);
        t.due("none at -4", t.x.drop(0, -4), false);
        t.due("none far", t.x.drop(0, Integer.MAX_VALUE - 3), false);
        t.due("none far below", t.x.drop(0, Integer.MIN_VALUE), false);
        t.due("none in segment 1", t.x.drop(1, 4), false);
        t.due("none in segment -1", t.x.drop(-1, 4), false);
        t.due("count(4)", t.x.count(4), 1);
        t.x.write();
        t.dueText("the pointer", (int) t.read(72, 8), "0123\7\0\0\0\0\0\0\0cdef");
        t.due("the one at 4", t.x.drop(0, 4), true);
        t.due("again", t.x.drop(0, 4), false);
        t.due("count(4)", t.x.count(4), 0);
        t.due("the tape stays", t.x.count(10), 20);
        t.x.write();
        t.dueText("the bytes below it", (int) t.read(72, 8), "0123456789abcdef");
        t.due("room for another over it", t.x.rebase(0, 0, 0, 0), true);
    }
}
