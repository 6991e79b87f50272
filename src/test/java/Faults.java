import java.util.function.Function;

/** Rows of one test: an image is spoilt, on an object of its own each time, and load() and place() answer as is due. */
final class Faults {
    /** What is done to an image. */
    interface Change {
        void on(Probe t);
    }

    static final String PROMISES = "promises 18, 19: ";

    private final String title;
    private final Function<String, Probe> image;
    private final Change[] always;

    /** What is done in every row comes behind the image, which is one of those that Images makes. */
    Faults(String title, Function<String, Probe> image, Change... always) {
        this.title = PROMISES + title;
        this.image = image;
        this.always = always;
    }

    static Change u1(int at, int v) {
        return t -> t.patch(at, 1, v);
    }

    static Change u2(int at, int v) {
        return t -> t.patch(at, 2, v);
    }

    static Change u4(int at, long v) {
        return t -> t.patch(at, 4, v);
    }

    static Change u8(int at, long v) {
        return t -> t.patch(at, 8, v);
    }

    static Change cut(int n) {
        return t -> t.due("cut(" + n + ")", t.x.cut(n), true);
    }

    static Change export(String name, int library, int address) {
        return t -> t.due("export", t.export(name, library, address), true);
    }

    Probe spoilt(Change... changes) {
        Probe t = image.apply(title);
        for (Change c : always) {
            c.on(t);
        }
        for (Change c : changes) {
            c.on(t);
        }
        return t;
    }

    Probe loads(Change... changes) {
        Probe t = spoilt(changes);
        t.dueLoad(0, 0, -1);
        return t;
    }

    Probe fault(int kind, int place, Change... changes) {
        Probe t = spoilt(changes);
        t.dueLoad(0, kind, place);
        return t;
    }
}
