/** A ChainLoader that is used for no more calls than the document promises anything about. */
final class Counted {
    static final int MOST_CALLS = 512;

    private final ChainLoader x = new ChainLoader();
    private int calls = 0;

    private ChainLoader next() {
        calls++;
        if (calls > MOST_CALLS) {
            throw new IllegalStateException("a test makes more than 512 calls on one object");
        }
        return x;
    }

    int calls() {
        return calls;
    }

    int feed(int a, int b, int c, int d, int e) {
        return next().feed(a, b, c, d, e);
    }

    boolean end(int n) {
        return next().end(n);
    }

    boolean anew(int base, int page) {
        return next().anew(base, page);
    }

    int segment(int bytes, int allowed) {
        return next().segment(bytes, allowed);
    }

    boolean fill(int s, int place) {
        return next().fill(s, place);
    }

    int section(int s, int place, int bytes) {
        return next().section(s, place, bytes);
    }

    int symbol(int section, int place) {
        return next().symbol(section, place);
    }

    int imports(int library, boolean weak) {
        return next().imports(library, weak);
    }

    boolean rebase(int s, int place, long target, int high) {
        return next().rebase(s, place, target, high);
    }

    boolean bind(int s, int place, int number, int added) {
        return next().bind(s, place, number, added);
    }

    boolean drop(int s, int place) {
        return next().drop(s, place);
    }

    int write() {
        return next().write();
    }

    int image(int k) {
        return next().image(k);
    }

    boolean damage(int k, int v) {
        return next().damage(k, v);
    }

    boolean cut(int n) {
        return next().cut(n);
    }

    boolean export(int library, int address) {
        return next().export(library, address);
    }

    int load(int slide) {
        return next().load(slide);
    }

    int place() {
        return next().place();
    }

    int memory(int address) {
        return next().memory(address);
    }

    long pointer(int address) {
        return next().pointer(address);
    }

    long visit(int k, int what) {
        return next().visit(k, what);
    }

    int find() {
        return next().find();
    }

    int count(int what) {
        return next().count(what);
    }
}
