/** Promises 10 to 12: pointers that are told. One method for each sentence that names an edge. */
public final class PointersTest {
    private static final long TARGET_MOST = (1L << 36) - 1;
    private static final long BIND = 1L << 63;

    /** rebase() or bind(), with what is right but for the place. */
    interface At {
        boolean put(Probe t, int s, int place);
    }

    private static final At REBASE = (t, s, place) -> t.x.rebase(s, place, 7, 1);
    private static final At BINDING = (t, s, place) -> t.x.bind(s, place, 0, 1);

    public static void main(String[] args) {
        ofBoth("promise 10: ", REBASE);
        ofBoth("promise 11: ", BINDING);
        target();
        high();
        importNumber();
        noImport();
        added();
        inAnothersPlace();
        refusedLeavesTheOther();
        tapeStays();
        drop();
        dropNone();
        dropNoSegment();
        dropBehindASegment();
        dropMakesRoom();
        dropLeavesTheBytes();
        Probe.finish();
    }

    private static void ofBoth(String promise, At at) {
        noSuchSegment(promise, at);
        multipleOfFour(promise, at);
        eightBytesOfTheSegment(promise, at);
        withinOnePage(promise, at);
        withinTheLargestPages(promise, at);
        overOneAnother(promise, at);
        hundred(promise, at);
        hundredInAnothersPlace(promise, at);
    }

    private static Probe told(String title, int... segments) {
        Probe t = new Probe(title);
        tell(t, 256, segments);
        return t;
    }

    private static void tell(Probe t, int page, int... segments) {
        t.x.anew(0, page);
        for (int bytes : segments) {
            t.segment("s", bytes, 0);
        }
        t.imports("i", 1, true);
    }

    /** Each row: a place, and whether a pointer may be there, alone in a segment. */
    private static void places(String title, At at, int page, int bytes, int[][] rows) {
        for (int[] r : rows) {
            Probe t = new Probe(title);
            tell(t, page, bytes);
            t.due("at " + r[0] + " of " + bytes + " bytes, PAGE " + page, at.put(t, 0, r[0]), r[1] == 1);
            t.dueCount(4, r[1]);
            t.due("drop at " + r[0], t.x.drop(0, r[0]), r[1] == 1);
        }
    }

    private static void noSuchSegment(String promise, At at) {
        int[][] rows = {{-1, 0}, {0, 1}, {1, 1}, {2, 0}, {3, 0}, {4, 0}, {Probe.MIN, 0}, {Probe.MAX, 0}};
        for (int[] r : rows) {
            Probe t = told(promise + "false without such a SEGMENT", 8, 8);
            t.due("in SEGMENT " + r[0], at.put(t, r[0], 0), r[1] == 1);
            t.dueCount(4, r[1]);
        }
        Probe t = told(promise + "false without any SEGMENT");
        t.due("in SEGMENT 0", at.put(t, 0, 0), false);
    }

    private static void multipleOfFour(String promise, At at) {
        int[][] rows = {{0, 1}, {1, 0}, {2, 0}, {3, 0}, {4, 1}, {5, 0}, {6, 0}, {7, 0}, {8, 1}, {-4, 0}, {-8, 0},
            {-1, 0}, {Probe.MIN, 0}, {Probe.MAX, 0}, {Probe.MAX - 3, 0}, {Probe.MIN + 4, 0}};
        places(promise + "at a place that is a multiple of 4", at, 256, 64, rows);
    }

    private static void eightBytesOfTheSegment(String promise, At at) {
        String title = promise + "eight bytes of a SEGMENT";
        places(title, at, 256, 1, new int[][] {{0, 0}});
        places(title, at, 256, 7, new int[][] {{0, 0}, {-4, 0}});
        places(title, at, 256, 8, new int[][] {{0, 1}, {4, 0}, {8, 0}});
        places(title, at, 256, 9, new int[][] {{0, 1}, {4, 0}});
        places(title, at, 256, 11, new int[][] {{0, 1}, {4, 0}});
        places(title, at, 256, 12, new int[][] {{0, 1}, {4, 1}, {8, 0}});
        places(title, at, 256, 1023, new int[][] {{1008, 1}, {1012, 1}, {1016, 0}});
        places(title, at, 256, 1024, new int[][] {{1012, 1}, {1016, 1}, {1020, 0}, {1024, 0}, {1028, 0}});
        places(title, at, 512, 600, new int[][] {{588, 1}, {592, 1}, {596, 0}, {600, 0}, {1016, 0}});
    }

    private static void withinOnePage(String promise, At at) {
        String title = promise + "all within one PAGE of it";
        places(title, at, 256, 1024, new int[][] {{244, 1}, {248, 1}, {252, 0}, {256, 1}, {504, 1}, {508, 0}, {512, 1},
            {764, 0}, {760, 1}, {768, 1}});
        places(title, at, 512, 1024, new int[][] {{252, 1}, {500, 1}, {504, 1}, {508, 0}, {512, 1}, {764, 1}});
    }

    private static void withinTheLargestPages(String promise, At at) {
        String title = promise + "a PAGE that is as large as the SEGMENT, or larger";
        for (int page = 1024; page <= 4096; page *= 2) {
            places(title, at, page, 1024, new int[][] {{252, 1}, {508, 1}, {764, 1}, {1016, 1}, {1020, 0}});
        }
    }

    private static void overOneAnother(String promise, At at) {
        int[][] rows = {{20, 1}, {24, 1}, {28, 0}, {32, 1}, {36, 0}, {40, 1}, {44, 1}};
        for (int[] r : rows) {
            Probe t = told(promise + "no two of them over one another", 64, 64);
            t.due("at 32", at.put(t, 0, 32), true);
            t.due("at " + r[0] + " beside 32", at.put(t, 0, r[0]), r[1] == 1);
            t.dueCount(4, r[0] == 32 ? 1 : 1 + r[1]);
            t.due("at 28 of another SEGMENT", at.put(t, 1, 28), true);
        }
        Probe t = told(promise + "a rebase and a bind over one another", 64);
        t.due("rebase at 8", t.x.rebase(0, 8, 0, 0), true);
        t.due("bind at 20", t.x.bind(0, 20, 0, 0), true);
        t.due("at 4", at.put(t, 0, 4), false);
        t.due("at 12", at.put(t, 0, 12), false);
        t.due("at 16", at.put(t, 0, 16), false);
        t.due("at 24", at.put(t, 0, 24), false);
        t.dueCount(4, 2);
    }

    private static void hundred(String promise, At at) {
        Probe t = told(promise + "false, if there are 100 POINTERS", 1024, 8);
        for (int k = 0; k < 99; k++) {
            t.due("pointer " + k, t.x.rebase(0, 8 * k, k, 0), true);
        }
        t.dueCount(4, 99);
        t.due("a 100th", at.put(t, 1, 0), true);
        t.dueCount(4, 100);
        t.due("a 101st", at.put(t, 0, 800), false);
        t.dueCount(4, 100);
        t.due("drop", t.x.drop(0, 0), true);
        t.dueCount(4, 99);
        t.due("a 100th again", at.put(t, 0, 800), true);
        t.due("a 101st again", at.put(t, 0, 0), false);
        t.dueCount(4, 100);
    }

    private static void hundredInAnothersPlace(String promise, At at) {
        Probe t = told(promise + "in the place of a POINTER, with 100 of them", 1024);
        for (int k = 0; k < 100; k++) {
            t.x.bind(0, 8 * k, 0, 200);
        }
        t.due("in the place of the first", at.put(t, 0, 0), true);
        t.due("in the place of the last", at.put(t, 0, 792), true);
        t.dueCount(4, 100);
    }

    private static void target() {
        long[] good = {0, 1, Integer.MAX_VALUE, 1L << 31, 1L << 32, TARGET_MOST - 1, TARGET_MOST};
        for (long target : good) {
            Probe t = told("promise 10: a TARGET, 0 to 2^36 - 1", 8);
            t.due("rebase to " + target, t.x.rebase(0, 0, target, 0), true);
            t.x.write();
            t.dueNumber("the POINTER", 144, 8, target);
        }
        long[] bad = {-1, TARGET_MOST + 1, TARGET_MOST + 2, Long.MIN_VALUE, Long.MAX_VALUE, -TARGET_MOST, 1L << 40};
        for (long target : bad) {
            Probe t = told("promise 10: a TARGET, 0 to 2^36 - 1", 8);
            t.due("rebase to " + target, t.x.rebase(0, 0, target, 0), false);
            t.dueCount(4, 0);
        }
    }

    private static void high() {
        int[][] rows = {{-1, 0}, {0, 1}, {1, 1}, {127, 1}, {128, 1}, {254, 1}, {255, 1}, {256, 0}, {Probe.MIN, 0},
            {Probe.MAX, 0}};
        for (int[] r : rows) {
            Probe t = told("promise 10: a HIGH byte", 8);
            t.due("rebase with HIGH " + r[0], t.x.rebase(0, 0, TARGET_MOST, r[0]), r[1] == 1);
            t.dueCount(4, r[1]);
            if (r[1] == 1) {
                t.x.write();
                t.dueNumber("the POINTER", 144, 8, TARGET_MOST | (long) r[0] << 36);
            }
        }
    }

    private static void importNumber() {
        int[][] rows = {{-1, 0}, {0, 1}, {1, 1}, {2, 0}, {19, 0}, {Probe.MIN, 0}, {Probe.MAX, 0}};
        for (int[] r : rows) {
            Probe t = told("promise 11: a BIND to an IMPORT", 8);
            t.imports("j", 2, false);
            t.due("bind to " + r[0], t.x.bind(0, 0, r[0], 0), r[1] == 1);
            t.dueCount(4, r[1]);
            if (r[1] == 1) {
                t.x.write();
                t.dueNumber("the POINTER", 144, 8, BIND | r[0]);
            }
        }
        Probe t = told("promise 11: a BIND to the last of 20 IMPORTS", 8);
        for (int k = 1; k < 20; k++) {
            t.imports("i", 1, true);
        }
        t.due("bind to 20", t.x.bind(0, 0, 20, 0), false);
        t.due("bind to 19", t.x.bind(0, 0, 19, 0), true);
        t.x.write();
        t.dueNumber("the POINTER", 144, 8, BIND | 19);
    }

    private static void noImport() {
        Probe t = new Probe("promise 11: a BIND without any IMPORT");
        t.segment("s", 8, 0);
        t.due("bind to 0", t.x.bind(0, 0, 0, 0), false);
        t.dueCount(4, 0);
    }

    private static void added() {
        int[][] rows = {{-1, 0}, {0, 1}, {1, 1}, {127, 1}, {128, 1}, {254, 1}, {255, 1}, {256, 0}, {Probe.MIN, 0},
            {Probe.MAX, 0}};
        for (int[] r : rows) {
            Probe t = told("promise 11: a number to be ADDED, 0 to 255", 8);
            t.due("bind with ADDED " + r[0], t.x.bind(0, 0, 0, r[0]), r[1] == 1);
            t.dueCount(4, r[1]);
            if (r[1] == 1) {
                t.x.write();
                t.dueNumber("the POINTER", 144, 8, BIND | (long) r[0] << 24);
            }
        }
    }

    private static void inAnothersPlace() {
        Probe t = told("promises 10, 11: in the place of a POINTER that is at that place", 8);
        long[] due = {3 | 4L << 36, TARGET_MOST | 255L << 36, BIND | 255L << 24, BIND, 0};
        for (int k = 0; k < due.length; k++) {
            boolean done = due[k] < 0 ? t.x.bind(0, 0, 0, (int) (due[k] >>> 24 & 255))
                : t.x.rebase(0, 0, due[k] & TARGET_MOST, (int) (due[k] >>> 36));
            t.due("pointer " + k + " at the place", done, true);
            t.dueCount(4, 1);
            t.x.write();
            t.dueNumber("the POINTER", 144, 8, due[k]);
        }
    }

    private static void refusedLeavesTheOther() {
        Probe t = told("promises 10, 11: one that is refused leaves the POINTER that is there", 8);
        t.due("rebase", t.x.rebase(0, 0, 3, 4), true);
        t.due("TARGET", t.x.rebase(0, 0, -1, 0), false);
        t.due("HIGH", t.x.rebase(0, 0, 0, 256), false);
        t.due("IMPORT", t.x.bind(0, 0, 1, 0), false);
        t.due("ADDED", t.x.bind(0, 0, 0, 256), false);
        t.dueCount(4, 1);
        t.x.write();
        t.dueNumber("the POINTER", 144, 8, 3 | 4L << 36);
    }

    private static void tapeStays() {
        Probe t = told("promises 10 to 12: the tape stays", 8);
        t.x.feed(1, 2, 3, 4, 5);
        t.x.rebase(0, 0, 0, 0);
        t.x.bind(0, 0, 0, 0);
        t.x.drop(0, 0);
        t.x.rebase(9, 0, 0, 0);
        t.x.bind(9, 0, 0, 0);
        t.x.drop(9, 0);
        t.dueCount(10, 20);
    }

    private static void drop() {
        Probe t = told("promise 12: the POINTER at a place is none any more", 64, 64);
        t.x.rebase(0, 8, 1, 1);
        t.x.bind(0, 24, 0, 1);
        t.x.rebase(1, 8, 2, 2);
        t.due("a REBASE", t.x.drop(0, 8), true);
        t.dueCount(4, 2);
        t.due("once more", t.x.drop(0, 8), false);
        t.due("a BIND", t.x.drop(0, 24), true);
        t.dueCount(4, 1);
        t.due("once more", t.x.drop(0, 24), false);
        t.due("that of the other SEGMENT", t.x.drop(1, 8), true);
        t.dueCount(4, 0);
    }

    private static void dropNone() {
        int[][] rows = {{0, 0}, {4, 0}, {5, 0}, {7, 0}, {8, 1}, {9, 0}, {10, 0}, {11, 0}, {12, 0}, {16, 0}, {-8, 0},
            {-1, 0}, {60, 0}, {64, 0}, {1024, 0}, {1032, 0}, {4104, 0}, {Probe.MIN, 0}, {Probe.MAX, 0},
            {Probe.MAX - 3, 0}};
        for (int[] r : rows) {
            Probe t = told("promise 12: false, if there is none", 64, 64);
            t.x.rebase(0, 8, 1, 1);
            t.due("drop(0, " + r[0] + ")", t.x.drop(0, r[0]), r[1] == 1);
            t.dueCount(4, 1 - r[1]);
        }
    }

    private static void dropNoSegment() {
        int[][] rows = {{-1, 0}, {0, 1}, {1, 0}, {2, 0}, {4, 0}, {Probe.MIN, 0}, {Probe.MAX, 0}};
        for (int[] r : rows) {
            Probe t = told("promise 12: false in another SEGMENT, or in none", 64, 64);
            t.x.rebase(0, 8, 1, 1);
            t.due("drop(" + r[0] + ", 8)", t.x.drop(r[0], 8), r[1] == 1);
            t.dueCount(4, 1 - r[1]);
        }
        Probe t = new Probe("promise 12: false without any SEGMENT");
        t.due("drop(0, 0)", t.x.drop(0, 0), false);
    }

    private static void dropBehindASegment() {
        Probe t = told("promise 12: false behind a SEGMENT, where the next one has a POINTER", 1024, 1024, 1024, 1024);
        for (int s = 0; s < 4; s++) {
            t.x.rebase(s, 0, s, 0);
            t.x.rebase(s, 1016, s, 0);
        }
        for (int s = 0; s < 4; s++) {
            for (int place : new int[] {-8, -4, 1012, 1020, 1024, 1028, 2040, 2048, 4096}) {
                t.due("drop(" + s + ", " + place + ")", t.x.drop(s, place), false);
            }
        }
        t.dueCount(4, 8);
        for (int s = 0; s < 4; s++) {
            t.due("drop(" + s + ", 1016)", t.x.drop(s, 1016), true);
            t.due("drop(" + s + ", 0)", t.x.drop(s, 0), true);
        }
        t.dueCount(4, 0);
    }

    private static void dropMakesRoom() {
        Probe t = told("promise 12: none is over another that is dropped", 64);
        t.x.rebase(0, 8, 1, 1);
        t.due("at 4, over it", t.x.rebase(0, 4, 2, 2), false);
        t.x.drop(0, 8);
        t.due("at 4", t.x.rebase(0, 4, 2, 2), true);
        t.due("at 12", t.x.rebase(0, 12, 3, 3), true);
        t.due("at 8, over both", t.x.rebase(0, 8, 1, 1), false);
        t.dueCount(4, 2);
    }

    private static void dropLeavesTheBytes() {
        Probe t = told("promise 12: the SEGMENT's bytes are as they were filled", 16);
        t.fill("0123456789abcdef", 0, 0);
        t.x.rebase(0, 4, 7, 0);
        t.x.write();
        t.dueText("with the POINTER", 144, "0123\7\0\0\0\0\0\0\0cdef");
        t.x.drop(0, 4);
        t.x.write();
        t.dueText("without it", 144, "0123456789abcdef");
        t.dueNumber("FIXUPS tell of no PAGES", 160 + 32, 4, 0);
        t.x.rebase(0, 4, 7, 0);
        t.fill("XXXX", 0, 6);
        t.x.write();
        t.dueText("filled below a POINTER", 144, "0123\7\0\0\0\0\0\0\0cdef");
    }
}
