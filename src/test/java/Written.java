import java.util.function.Consumer;

/** An image as it is written, read from as many objects as its bytes ask for. */
final class Written {
    final int size;
    private final String title;
    private final byte[] bytes;

    Written(String title, Consumer<Probe> telling) {
        this.title = title;
        size = told(telling).x.write();
        bytes = new byte[size];
        int k = 0;
        while (k < size) {
            Probe t = told(telling);
            t.due("write() once more", t.x.write(), size);
            while (k < size && t.x.calls() < Counted.MOST_CALLS) {
                bytes[k] = (byte) t.x.image(k);
                k++;
            }
        }
    }

    private Probe told(Consumer<Probe> telling) {
        Probe t = new Probe(title);
        telling.accept(t);
        return t;
    }

    long number(int k, int n) {
        long all = 0;
        for (int i = n - 1; i >= 0; i--) {
            all = all << 8 | bytes[k + i] & 255;
        }
        return all;
    }

    int u4(int k) {
        return (int) number(k, 4);
    }

    /** Where the command with a number begins, counted from 0 on. */
    int command(int number) {
        int p = 32;
        for (int i = 0; i < number; i++) {
            p += u4(p + 4);
        }
        return p;
    }

    void due(String what, long got, long want) {
        Probe.due(title, what, got, want);
    }

    void dueNumber(String what, int k, int n, long want) {
        due(what + " at " + k, number(k, n), want);
    }

    void dueU4(String what, int k, long... want) {
        for (int i = 0; i < want.length; i++) {
            dueNumber(what, k + 4 * i, 4, want[i]);
        }
    }

    void dueText(String what, int k, String want) {
        for (int i = 0; i < want.length(); i++) {
            due(what + " at " + (k + i), bytes[k + i] & 255, want.charAt(i));
        }
    }

    void dueZeros(String what, int from, int end) {
        for (int k = from; k < end; k++) {
            due(what + " at " + k, bytes[k], 0);
        }
    }
}
