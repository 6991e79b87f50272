import java.util.ArrayList;
import java.util.List;
import java.util.NoSuchElementException;
import java.util.Random;

/** All promises: runs of up to 512 calls, chosen by a seed, answered as the model of the document answers. */
public final class ModelTest {
    private static final int RUNS = 4000;
    private static final String[] NAMES = {"a", "b", "ab", "main", "x.y", "!~", "sixteen.bytes..!", "sixteen.bytes..?",
        "_printf", "", "seventeen.bytes.!", "a b", "\u007f", "a\0b", "\u00e9"};
    private static final int[] ODD = {0, 1, -1, 2, 3, 4, 7, 8, 255, 256, 1023, 1024, 1025, 4096, 65536, 1 << 30,
        Integer.MAX_VALUE, Integer.MIN_VALUE, Integer.MAX_VALUE - 7};
    private static int wrong = 0;

    private final Random r;
    private final int run;
    private final Counted x = new Counted();
    private final Model m = new Model();
    private int calls = 0;
    private final List<int[]> spoilt = new ArrayList<>();
    private boolean isCut = false;

    private ModelTest(int run) {
        this.run = run;
        r = new Random(run);
    }

    public static void main(String[] args) {
        for (int run = 0; run < RUNS && wrong < 20; run++) {
            new ModelTest(run).go();
        }
        System.out.println(wrong == 0 ? "all answers are as the model's" : wrong + " answers are not");
        if (wrong != 0) {
            System.exit(1);
        }
    }

    private void due(String call, long got, long want) {
        calls++;
        if (got != want) {
            wrong++;
            String where = "run " + run + ", call " + calls + ": ";
            System.out.println(where + call + " answered " + got + ", due is " + want);
        }
    }

    private void due(String call, boolean got, boolean want) {
        due(call, got ? 1 : 0, want ? 1 : 0);
    }

    private void go() {
        int telling = 40 + r.nextInt(160);
        if (r.nextInt(2) == 0) {
            int base = r.nextInt(8) * 4096;
            int page = 256 << r.nextInt(5);
            due("anew", x.anew(base, page), m.anew(base, page));
        }
        while (calls < telling) {
            tell();
        }
        if (r.nextInt(3) != 0) {
            exportImports();
        }
        while (calls < 470) {
            if (r.nextInt(12) == 0) {
                tell();
            }
            loadSpoilt();
        }
        for (int what = -1; what <= 11; what++) {
            due("count(" + what + ")", x.count(what), m.count(what));
        }
    }

    private int odd(int usual) {
        return r.nextInt(12) == 0 ? ODD[r.nextInt(ODD.length)] : r.nextInt(usual);
    }

    private void tape() {
        tape(NAMES[r.nextInt(r.nextInt(6) == 0 ? NAMES.length : 9)]);
    }

    private void tape(String name) {
        int[] n = new int[5];
        for (int k = 0; k < name.length() && k < 20; k++) {
            n[k / 4] |= name.charAt(k) << 24 - k % 4 * 8;
        }
        due("feed", x.feed(n[0], n[1], n[2], n[3], n[4]), m.feed(n));
        int end = r.nextInt(40) == 0 ? odd(30) : name.length();
        due("end(" + end + ")", x.end(end), m.end(end));
    }

    private void tell() {
        int what = r.nextInt(30);
        int s = odd(Math.max(1, m.segments.size()));
        int place = odd(200) * 4 + (r.nextInt(20) == 0 ? 1 : 0);
        if (what < 7) {
            tape();
        }
        switch (what) {
            case 0 -> {
                int bytes = r.nextInt(3) == 0 ? odd(1024) : 700 + r.nextInt(325);
                int allowed = odd(8);
                due("segment(" + bytes + ", " + allowed + ")", x.segment(bytes, allowed), m.segment(bytes, allowed));
            }
            case 1, 2 -> {
                int bytes = odd(100);
                due("section", x.section(s, place, bytes), m.section(s, place, bytes));
            }
            case 3 -> {
                int section = 1 + odd(Math.max(1, m.sections.size()));
                int at = odd(40);
                due("symbol", x.symbol(section, at), m.symbol(section, at));
            }
            case 4 -> {
                int library = 1 + odd(3);
                boolean weak = r.nextInt(2) == 0;
                due("imports", x.imports(library, weak), m.imports(library, weak));
            }
            case 5 -> exportOf(1 + odd(3));
            case 6 -> due("fill", x.fill(s, place), m.fill(s, place));
            case 7, 8, 9 -> {
                int number = odd(Math.max(1, m.imports.size()));
                int added = odd(256);
                due("bind", x.bind(s, place, number, added), m.bind(s, place, number, added));
            }
            case 10 -> due("drop", x.drop(s, place), m.drop(s, place));
            case 11 -> {
                if (r.nextInt(60) == 0) {
                    int base = odd(3) * 4096;
                    int page = 128 << r.nextInt(7);
                    due("anew", x.anew(base, page), m.anew(base, page));
                }
            }
            default -> {
                long target = r.nextInt(10) == 0 ? r.nextLong() >> r.nextInt(64) : r.nextInt(100000);
                int high = odd(256);
                due("rebase(" + s + ", " + place + ", " + target + ", " + high + ")",
                    x.rebase(s, place, target, high), m.rebase(s, place, target, high));
            }
        }
    }

    private void exportOf(int library) {
        int address = odd(1 << 20);
        due("export", x.export(library, address), m.export(library, address));
    }

    private void exportImports() {
        for (Model.Import i : m.imports) {
            tape(i.name());
            exportOf(i.library());
        }
    }

    private void loadSpoilt() {
        if (m.image.length == 0 || isCut && r.nextInt(3) != 0 || r.nextInt(10) == 0) {
            due("write()", x.write(), m.write());
            spoilt.clear();
            isCut = false;
        }
        for (int left = r.nextInt(4); left > 0; left--) {
            spoil();
        }
        if (r.nextInt(25) == 0) {
            int n = m.image.length - odd(40);
            due("cut(" + n + ")", x.cut(n), m.cut(n));
            isCut = true;
        }
        int slide = r.nextInt(3) == 0 ? odd(5000) - 2500 : 0;
        due("load(" + slide + ")", x.load(slide), m.load(slide));
        due("place()", x.place(), m.place);
        for (int left = r.nextInt(6); left > 0; left--) {
            look(slide);
        }
        mend();
    }

    private void spoil() {
        int k = somewhere();
        int old = m.image(k);
        int[] values = {0, 1, 2, 3, 4, 8, 16, 22, 24, 25, 28, 72, 80, 128, 152, 255, old + 1, old - 1, old + 4, old - 4,
            old + 8, old - 8, old ^ 1 << r.nextInt(8), r.nextInt(256)};
        int v = values[r.nextInt(values.length)];
        due("damage(" + k + ", " + v + ")", x.damage(k, v), m.damage(k, v));
        due("image(" + k + ")", x.image(k), m.image(k));
        if (k >= 0 && old >= 0) {
            spoilt.add(new int[] {k, old});
        }
    }

    /** Places whose bytes the loader reads are come to more often than others. */
    private int somewhere() {
        int all = m.image.length;
        int commands = all < 32 ? 0 : Math.min(all - 32, (int) number(20));
        int fixups = commands < 16 ? 0 : (int) number(32 + commands - 8);
        return switch (r.nextInt(8)) {
            case 0 -> odd(Math.max(1, all));
            case 1 -> r.nextInt(32);
            case 2, 3 -> 32 + r.nextInt(Math.max(1, commands)) / 4 * 4 + r.nextInt(2);
            case 4 -> fixups + r.nextInt(28) / 4 * 4 + r.nextInt(2);
            case 5 -> fixups + 28 + r.nextInt(60) / 2 * 2 + r.nextInt(2);
            case 6 -> 32 + commands + r.nextInt(Math.max(1, fixups - commands - 32));
            default -> fixups + r.nextInt(Math.max(1, all - fixups));
        };
    }

    private long number(int k) {
        return k < 0 || k + 4 > m.image.length ? 0
            : m.image(k) | m.image(k + 1) << 8 | (m.image(k + 2) & 127) << 16;
    }

    /** Takes most of the damage back, so that deep parts of the loader are come to. */
    private void mend() {
        while (!spoilt.isEmpty() && r.nextInt(8) != 0) {
            int[] last = spoilt.remove(spoilt.size() - 1);
            due("damage, mending", x.damage(last[0], last[1]), m.damage(last[0], last[1]));
        }
    }

    private void look(int slide) {
        int at = m.base + slide + odd(4200);
        int k = odd(Math.max(1, m.visits.size()));
        switch (r.nextInt(6)) {
            case 5 -> {
                int byteAt = odd(Math.max(1, m.image.length));
                due("image(" + byteAt + ")", x.image(byteAt), m.image(byteAt));
            }
            case 0 -> due("memory(" + at + ")", x.memory(at), m.memory(at));
            case 1 -> duePointer(at);
            case 2 -> {
                if (!m.visits.isEmpty()) {
                    duePointer((int) m.visits.get(r.nextInt(m.visits.size())).address());
                }
            }
            case 3 -> dueVisit(k, odd(4));
            default -> {
                tape();
                due("find()", x.find(), m.find());
            }
        }
    }

    private void duePointer(int at) {
        long got = 0;
        long want = 0;
        boolean gotThrows = false;
        boolean wantThrows = false;
        try {
            got = x.pointer(at);
        } catch (NoSuchElementException e) {
            gotThrows = true;
        }
        try {
            want = m.pointer(at);
        } catch (NoSuchElementException e) {
            wantThrows = true;
        }
        due("pointer(" + at + ") throws", gotThrows, wantThrows);
        due("pointer(" + at + ")", got, want);
    }

    private void dueVisit(int k, int what) {
        long got = 0;
        long want = 0;
        boolean gotThrows = false;
        boolean wantThrows = false;
        try {
            got = x.visit(k, what);
        } catch (NoSuchElementException e) {
            gotThrows = true;
        }
        try {
            want = m.visit(k, what);
        } catch (NoSuchElementException e) {
            wantThrows = true;
        }
        due("visit(" + k + ", " + what + ") throws", gotThrows, wantThrows);
        due("visit(" + k + ", " + what + ")", got, want);
    }
}
