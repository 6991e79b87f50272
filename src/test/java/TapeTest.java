/** Promises 2 and 3: the tape. One method for each sentence that names an edge. */
public final class TapeTest {
    public static void main(String[] args) {
        highestByteFirst();
        behindTheTape();
        howManyItHas();
        noMoreThan1040();
        noneCome();
        firstBytesAlone();
        notSoMany();
        belowZero();
        Probe.finish();
    }

    private static void highestByteFirst() {
        Probe t = new Probe("promise 2: of each number the highest first");
        t.segment("a", 20, 0);
        t.due("feed", t.x.feed(0x00017F80, 0xFFFE0102, Probe.MIN, Probe.MAX, -1), 20);
        t.due("fill", t.x.fill(0, 0), true);
        t.x.write();
        t.dueText("the first two", 144, "\0\1\u007f\u0080\u00ff\u00fe\1\2");
        t.dueText("the others", 152, "\u0080\0\0\0\u007f\u00ff\u00ff\u00ff\u00ff\u00ff\u00ff\u00ff");
    }

    private static void behindTheTape() {
        Probe t = new Probe("promise 2: twenty bytes come behind the tape");
        t.segment("a", 40, 0);
        t.x.feed(0x41424344, 0x45464748, 0x494A4B4C, 0x4D4E4F50, 0x51525354);
        t.x.end(18);
        t.x.feed(0x61626364, 0x65666768, 0x696A6B6C, 0x6D6E6F70, 0x71727374);
        t.due("fill", t.x.fill(0, 0), true);
        t.x.write();
        t.dueText("the bytes", 144, "ABCDEFGHIJKLMNOPQRabcdefghijklmnopqrst\0\0");
    }

    private static void howManyItHas() {
        Probe t = new Probe("promise 2: how many it has");
        t.due("feed on none", t.x.feed(0, 0, 0, 0, 0), 20);
        t.due("feed on 20", t.x.feed(0, 0, 0, 0, 0), 40);
        t.x.end(1);
        t.due("feed on 1", t.x.feed(0, 0, 0, 0, 0), 21);
        t.dueCount(10, 21);
    }

    private static Probe fedTo(String title, int n) {
        Probe t = new Probe(title);
        for (int k = 20; k <= 1040; k += 20) {
            t.due("feed to " + k, t.x.feed(k, k, k, k, k), k);
        }
        t.due("end(" + n + ")", t.x.end(n), true);
        return t;
    }

    private static void noMoreThan1040() {
        String title = "promise 2: NONE if it would have more than 1040";
        int[][] rows = {{1019, 1039}, {1020, 1040}, {1021, -1}, {1039, -1}, {1040, -1}};
        for (int[] r : rows) {
            Probe t = fedTo(title, r[0]);
            t.due("feed on " + r[0], t.x.feed(1, 2, 3, 4, 5), r[1]);
        }
    }

    private static void noneCome() {
        Probe t = fedTo("promise 2: NONE, and none come", 1021);
        t.due("feed on 1021", t.x.feed(-1, -1, -1, -1, -1), -1);
        t.dueCount(10, 1021);
        t.due("end(1022)", t.x.end(1022), false);
        Probe v = new Probe("promise 2: the bytes that were there stay");
        v.segment("a", 1024, 0);
        for (int k = 20; k <= 1040; k += 20) {
            v.x.feed(k, k, k, k, k);
        }
        v.due("feed on 1040", v.x.feed(-1, -1, -1, -1, -1), -1);
        v.x.end(1024);
        v.due("fill", v.x.fill(0, 0), true);
        v.x.write();
        v.dueText("the first number", 144, "\0\0\0\24");
        v.dueText("the last number", 144 + 1020, "\0\0\4\20");
    }

    private static void firstBytesAlone() {
        Probe t = new Probe("promise 3: the first n bytes alone");
        t.segment("a", 8, 0);
        t.x.feed(0x41424344, 0x45464748, 0, 0, 0);
        t.due("end(3)", t.x.end(3), true);
        t.dueCount(10, 3);
        t.due("fill", t.x.fill(0, 0), true);
        t.x.write();
        t.dueText("the bytes", 144, "ABC\0\0\0\0\0");
    }

    private static void notSoMany() {
        String title = "promise 3: false, if it has not so many";
        int[][] rows = {{0, 1}, {1, 1}, {19, 1}, {20, 1}, {21, 0}, {Probe.MAX, 0}};
        for (int[] r : rows) {
            Probe t = new Probe(title);
            t.x.feed(1, 2, 3, 4, 5);
            t.due("end(" + r[0] + ") of 20", t.x.end(r[0]), r[1] == 1);
            t.dueCount(10, r[1] == 1 ? r[0] : 20);
        }
        Probe t = new Probe(title);
        t.due("end(1) of none", t.x.end(1), false);
        t.due("end(0) of none", t.x.end(0), true);
        t.x.feed(1, 2, 3, 4, 5);
        t.x.end(7);
        t.due("end(8) of 7, though 20 were there", t.x.end(8), false);
        t.dueCount(10, 7);
        Probe full = fedTo(title, 1040);
        full.due("end(1041) of 1040", full.x.end(1041), false);
        full.dueCount(10, 1040);
    }

    private static void belowZero() {
        Probe t = new Probe("promise 3: false, if n is below 0");
        t.x.feed(1, 2, 3, 4, 5);
        t.due("end(-1)", t.x.end(-1), false);
        t.due("end(MIN)", t.x.end(Probe.MIN), false);
        t.dueCount(10, 20);
        t.due("end(0)", t.x.end(0), true);
        t.due("end(-1) of none", t.x.end(-1), false);
        t.dueCount(10, 0);
    }
}
