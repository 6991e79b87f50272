import java.nio.charset.StandardCharsets;
import java.util.NoSuchElementException;

/** A ChainLoader under test: counts the answers that are not as due. */
final class Probe {
    static final int MIN = Integer.MIN_VALUE;
    static final int MAX = Integer.MAX_VALUE;

    private static int wrong = 0;

    final Counted x = new Counted();
    private final String title;

    /** The title names the promise and the sentence that a test is of. */
    Probe(String title) {
        this.title = title;
    }

    static void finish() {
        System.out.println(wrong == 0 ? "all answers are as due" : wrong + " answers are not as due");
        if (wrong != 0) {
            System.exit(1);
        }
    }

    static void due(String title, String call, long got, long want) {
        if (got != want) {
            wrong++;
            System.out.println(title + ": " + call + " answered " + got + ", due is " + want);
        }
    }

    void due(String call, long got, long want) {
        due(title, call, got, want);
    }

    void due(String call, boolean got, boolean want) {
        due(call, got ? 1 : 0, want ? 1 : 0);
    }

    /** Puts bytes on an empty tape. */
    Probe tape(byte[] bytes) {
        x.end(0);
        for (int k = 0; k < bytes.length; k += 20) {
            x.feed(word(bytes, k), word(bytes, k + 4), word(bytes, k + 8), word(bytes, k + 12), word(bytes, k + 16));
        }
        due("end(" + bytes.length + ")", x.end(bytes.length), true);
        return this;
    }

    Probe tape(String text) {
        return tape(text.getBytes(StandardCharsets.ISO_8859_1));
    }

    private static int word(byte[] bytes, int k) {
        int all = 0;
        for (int i = k; i < k + 4; i++) {
            all = all << 8 | (i < bytes.length ? bytes[i] & 255 : 0);
        }
        return all;
    }

    int segment(String name, int bytes, int allowed) {
        return tape(name).x.segment(bytes, allowed);
    }

    boolean fill(String bytes, int s, int place) {
        return tape(bytes).x.fill(s, place);
    }

    int section(String name, int s, int place, int bytes) {
        return tape(name).x.section(s, place, bytes);
    }

    int symbol(String name, int section, int place) {
        return tape(name).x.symbol(section, place);
    }

    int imports(String name, int library, boolean weak) {
        return tape(name).x.imports(library, weak);
    }

    boolean export(String name, int library, int address) {
        return tape(name).x.export(library, address);
    }

    int find(String name) {
        return tape(name).x.find();
    }

    /** Reads n bytes of the image, lowest first. */
    long read(int k, int n) {
        long all = 0;
        for (int i = n - 1; i >= 0; i--) {
            all = all << 8 | (x.image(k + i) & 255);
        }
        return all;
    }

    /** Overwrites n bytes of the image, lowest first. */
    Probe patch(int k, int n, long v) {
        for (int i = 0; i < n; i++) {
            due("damage(" + (k + i) + ")", x.damage(k + i, (int) (v >>> 8 * i) & 255), true);
        }
        return this;
    }

    void patchText(int k, String text) {
        for (int i = 0; i < text.length(); i++) {
            patch(k + i, 1, text.charAt(i));
        }
    }

    void dueNumber(String what, int k, int n, long want) {
        due(what + " at " + k, read(k, n), want);
    }

    void dueText(String what, int k, String want) {
        for (int i = 0; i < want.length(); i++) {
            due(what + " at " + (k + i), x.image(k + i), want.charAt(i));
        }
    }

    void duePointer(int address, long want) {
        try {
            due("pointer(" + address + ")", x.pointer(address), want);
        } catch (NoSuchElementException e) {
            due("pointer(" + address + ") throws", 1, 0);
        }
    }

    void dueNoPointer(int address) {
        int threw = 0;
        try {
            x.pointer(address);
        } catch (NoSuchElementException e) {
            threw = 1;
        }
        due("pointer(" + address + ") throws", threw, 1);
    }

    void dueVisit(int k, int what, long want) {
        try {
            due("visit(" + k + ", " + what + ")", x.visit(k, what), want);
        } catch (NoSuchElementException e) {
            due("visit(" + k + ", " + what + ") throws", 1, 0);
        }
    }

    void dueVisit(int k, long address, boolean bind, long subject, int extra) {
        dueVisit(k, 0, address);
        dueVisit(k, 1, bind ? 1 : 0);
        dueVisit(k, 2, subject);
        dueVisit(k, 3, extra);
    }

    void dueNoVisit(int k, int what) {
        int threw = 0;
        try {
            x.visit(k, what);
        } catch (NoSuchElementException e) {
            threw = 1;
        }
        due("visit(" + k + ", " + what + ") throws", threw, 1);
    }

    void dueLoad(int slide, int kind, int place) {
        due("load(" + slide + ")", x.load(slide), kind);
        due("place() behind load(" + slide + ")", x.place(), place);
    }

    void dueMemory(int address, int want) {
        due("memory(" + address + ")", x.memory(address), want);
    }

    void dueCount(int what, int want) {
        due("count(" + what + ")", x.count(what), want);
    }

    void dueCounts(int... want) {
        for (int what = 0; what < want.length; what++) {
            dueCount(what, want[what]);
        }
    }
}
