import java.util.ArrayList;
import java.util.List;

/** Promises 18 and 19: of two FAULTS the one that the document tells first is told. */
public final class FaultOrderTest {
    /** One number of the image Images.rich is another, which is a fault. */
    record Row(int kind, int place, int at, int n, long v) {
        boolean shares(Row other) {
            return at < other.at + other.n && other.at < at + n;
        }
    }

    private final List<Row> rows = new ArrayList<>();

    public static void main(String[] args) {
        FaultOrderTest order = new FaultOrderTest();
        order.head();
        order.segment(32);
        order.section(104);
        order.segment(184);
        order.add(6, 208, 208, 4, 65536 + 511);
        order.section(256);
        order.section(336);
        order.tables();
        order.symbol(1184);
        order.symbol(1200);
        order.fixups();
        order.pages(1096, 1104, 0);
        order.pages(1100, 1132, 512);
        order.chains();
        order.each();
        order.two();
        order.slide();
        Probe.finish();
    }

    private void add(int kind, int place, int at, int n, long v) {
        rows.add(new Row(kind, place, at, n, v));
    }

    private void head() {
        add(2, 0, 0, 1, 0);
        add(3, 16, 16, 1, 17);
        add(1, 20, 20, 4, 5000);
    }

    private void segment(int p) {
        add(3, p + 4, p + 4, 4, 100);
        add(3, p + 4, p + 64, 4, 9);
        for (int at = p + 24; at <= p + 48; at += 8) {
            add(5, at, at + 4, 4, 1);
        }
        add(5, p + 32, p + 32, 4, 16385);
        add(5, p + 24, p + 24, 4, Integer.MAX_VALUE);
        add(1, p + 40, p + 40, 4, 1228);
        add(6, p + 48, p + 32, 4, 299);
    }

    private void section(int q) {
        add(5, q + 32, q + 36, 4, 1);
        add(5, q + 40, q + 44, 4, 1);
        add(7, q, q + 32, 4, 3);
    }

    private void tables() {
        add(3, 420, 420, 4, 16);
        add(3, 428, 428, 4, 65);
        add(1, 424, 424, 4, 1228);
        add(1, 432, 432, 4, 1228);
        add(3, 444, 444, 4, 8);
        add(1, 448, 448, 4, 1228);
        add(3, 456, 20, 4, 432);
    }

    private void symbol(int q) {
        add(8, q, q, 4, 12);
        add(8, q + 5, q + 5, 1, 4);
        add(5, q + 8, q + 12, 4, 1);
    }

    private void fixups() {
        add(9, 1064, 1064, 4, 1);
        add(9, 1084, 1084, 4, 0);
        add(9, 1088, 1088, 4, 1);
        add(9, 1068, 1068, 4, 111);
        add(9, 1092, 1092, 4, 3);
        add(9, 1080, 1080, 4, 65);
        add(9, 1072, 1072, 4, 107);
        add(9, 1160, 1162, 2, 0xFFFF);
        add(9, 1164, 1166, 2, 0xFFFF);
    }

    private void pages(int start, int t, int ahead) {
        add(9, start, start, 4, 65);
        add(9, t, t, 4, 25);
        add(9, t + 4, t + 4, 2, 257);
        add(9, t + 6, t + 6, 2, 3);
        add(5, t + 8, t + 12, 4, 1);
        add(9, t + 8, t + 8, 4, ahead + 1);
        add(9, t + 20, t + 4, 2, 512);
    }

    private void chains() {
        add(10, 1126, 1126, 2, 2);
        add(11, 0, 461, 1, 16);
        add(10, 0, 462, 1, 8);
        add(11, 8, 464 + 5, 1, 1);
        add(11, 8, 464, 1, 2);
        add(10, 8, 464 + 6, 1, 8);
        add(10, 1128, 1128, 2, 252);
        add(11, 264, 720 + 5, 1, 16);
        add(10, 264, 720 + 6, 1, 8);
        add(10, 1154, 1154, 2, 252);
        add(11, 516, 764 + 5, 1, 16);
        add(11, 516, 764 + 2, 1, 1);
        add(12, 516, 1164, 1, 3);
        add(10, 516, 764 + 6, 1, 8);
        add(10, 1156, 1156, 2, 1);
        add(11, 768, 1016 + 5, 1, 16);
        add(10, 768, 1016 + 6, 1, 8);
    }

    private static Probe spoilt(Row first, Row second) {
        String both = second == null ? first.toString() : first + " and " + second;
        Probe t = Images.rich("promises 18, 19: FAULTS, the first in this order: " + both);
        t.patch(first.at, first.n, first.v);
        if (second != null) {
            t.patch(second.at, second.n, second.v);
        }
        return t;
    }

    private void each() {
        for (Row r : rows) {
            spoilt(r, null).dueLoad(0, r.kind, r.place);
        }
    }

    private void two() {
        for (int i = 0; i < rows.size(); i++) {
            for (int j = i + 1; j < rows.size(); j++) {
                Row first = rows.get(i);
                if (!first.shares(rows.get(j))) {
                    spoilt(first, rows.get(j)).dueLoad(0, first.kind, first.place);
                }
            }
        }
    }

    private void slide() {
        for (Row r : rows) {
            spoilt(r, null).dueLoad(-70000, r.kind, r.place);
        }
        Images.rich("promises 18, 19: last, 13").dueLoad(-70000, 13, 0);
    }
}
