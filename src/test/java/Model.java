import java.io.ByteArrayOutputStream;
import java.math.BigInteger;
import java.util.ArrayList;
import java.util.Arrays;
import java.util.LinkedHashMap;
import java.util.List;
import java.util.Map;
import java.util.NoSuchElementException;
import java.util.TreeMap;

/** The document once more, written with the library and without care for room: the tests compare with it. */
final class Model {
    static final class Wrong extends Exception {
        private static final long serialVersionUID = 1;
        final int kind;
        final int at;

        Wrong(int kind, long at) {
            this.kind = kind;
            this.at = (int) at;
        }
    }

    record Segment(String name, byte[] bytes, int allowed) { }

    record Section(String name, int segment, int place, int bytes) { }

    record Symbol(String name, int section, int place) { }

    record Import(String name, int library, boolean weak) { }

    record Pointer(boolean bind, long subject, int extra) { }

    record Area(long address, long span, int from, int bytes) { }

    record Visit(long address, Pointer pointer) { }

    record Found(String name, int address) { }

    String tape = "";
    int base = 65536;
    int page = 256;
    final List<Segment> segments = new ArrayList<>();
    final List<Section> sections = new ArrayList<>();
    final List<Symbol> symbols = new ArrayList<>();
    final List<Import> imports = new ArrayList<>();
    final List<TreeMap<Integer, Pointer>> pointers = new ArrayList<>();
    byte[] image = new byte[0];
    final Map<String, Integer> exports = new LinkedHashMap<>();
    int place = -1;
    Map<Long, byte[]> memory = new TreeMap<>();
    int segmentsLoaded = 0;
    List<Visit> visits = new ArrayList<>();
    List<Found> found = new ArrayList<>();

    int feed(int... numbers) {
        if (tape.length() + 20 > 1040) {
            return -1;
        }
        StringBuilder longer = new StringBuilder(tape);
        for (int n : numbers) {
            longer.append((char) (n >>> 24)).append((char) (n >>> 16 & 255));
            longer.append((char) (n >>> 8 & 255)).append((char) (n & 255));
        }
        tape = longer.toString();
        return tape.length();
    }

    boolean end(int n) {
        boolean can = n >= 0 && n <= tape.length();
        tape = can ? tape.substring(0, n) : tape;
        return can;
    }

    private String take() {
        String taken = tape;
        tape = "";
        return taken;
    }

    private static boolean isName(String text) {
        return text.length() <= 16 && text.matches("[!-~]+");
    }

    boolean anew(int newBase, int newPage) {
        if (newBase < 0 || newBase > 1 << 30 || newBase % 4096 != 0
                || !List.of(256, 512, 1024, 2048, 4096).contains(newPage)) {
            return false;
        }
        base = newBase;
        page = newPage;
        for (List<?> list : List.of(segments, sections, symbols, imports, pointers)) {
            list.clear();
        }
        return true;
    }

    int segment(int bytes, int allowed) {
        String name = take();
        if (!isName(name) || segments.size() == 4 || bytes < 1 || bytes > 1024 || allowed < 0 || allowed > 7) {
            return -1;
        }
        segments.add(new Segment(name, new byte[bytes], allowed));
        pointers.add(new TreeMap<>());
        return segments.size() - 1;
    }

    boolean fill(int s, int at) {
        String bytes = take();
        if (s < 0 || s >= segments.size() || at < 0 || (long) at + bytes.length() > segments.get(s).bytes.length) {
            return false;
        }
        for (char c : bytes.toCharArray()) {
            segments.get(s).bytes[at++] = (byte) c;
        }
        return true;
    }

    int section(int s, int at, int bytes) {
        String name = take();
        if (!isName(name) || sections.size() == 8 || s < 0 || s >= segments.size() || at < 0 || bytes < 0
                || (long) at + bytes > segments.get(s).bytes.length) {
            return -1;
        }
        sections.add(new Section(name, s, at, bytes));
        return sections.size();
    }

    int symbol(int section, int at) {
        String name = take();
        if (!isName(name) || symbols.size() == 20 || section < 1 || section > sections.size() || at < 0
                || at > sections.get(section - 1).bytes) {
            return -1;
        }
        symbols.add(new Symbol(name, section, at));
        return symbols.size() - 1;
    }

    int imports(int library, boolean weak) {
        String name = take();
        if (!isName(name) || imports.size() == 20 || library < 1 || library > 3) {
            return -1;
        }
        imports.add(new Import(name, library, weak));
        return imports.size() - 1;
    }

    private int pointersTold() {
        return pointers.stream().mapToInt(Map::size).sum();
    }

    private boolean put(int s, int at, Pointer p) {
        if (s < 0 || s >= segments.size() || at < 0 || at % 4 != 0 || at > segments.get(s).bytes.length - 8
                || at / page != (at + 7) / page || p.extra < 0 || p.extra > 255) {
            return false;
        }
        TreeMap<Integer, Pointer> there = pointers.get(s);
        for (int other : there.keySet()) {
            if (other != at && Math.abs(other - at) < 8) {
                return false;
            }
        }
        if (!there.containsKey(at) && pointersTold() == 100) {
            return false;
        }
        there.put(at, p);
        return true;
    }

    boolean rebase(int s, int at, long target, int high) {
        return target >= 0 && target >> 36 == 0 && put(s, at, new Pointer(false, target, high));
    }

    boolean bind(int s, int at, int number, int added) {
        return number >= 0 && number < imports.size() && put(s, at, new Pointer(true, number, added));
    }

    boolean drop(int s, int at) {
        return s >= 0 && s < segments.size() && pointers.get(s).remove(at) != null;
    }

    private static final class Out {
        final ByteArrayOutputStream bytes = new ByteArrayOutputStream();

        Out n(int size, long number) {
            for (int i = 0; i < size; i++) {
                bytes.write((int) (number >> 8 * i));
            }
            return this;
        }

        Out u4(long... numbers) {
            for (long number : numbers) {
                n(4, number);
            }
            return this;
        }

        Out u8(long... numbers) {
            for (long number : numbers) {
                n(8, number);
            }
            return this;
        }

        Out name(String text) {
            return text(text).n(16 - text.length(), 0);
        }

        Out text(String text) {
            text.chars().forEach(bytes::write);
            return this;
        }

        Out even(int step) {
            while (bytes.size() % step != 0) {
                bytes.write(0);
            }
            return this;
        }

        Out put(byte[] other) {
            bytes.writeBytes(other);
            return this;
        }
    }

    private long span(int s) {
        return (segments.get(s).bytes.length + page - 1) / page * page;
    }

    private long address(int s) {
        return s == 0 ? base : address(s - 1) + span(s - 1);
    }

    private byte[] bits(int s, int at) {
        Pointer p = pointers.get(s).get(at);
        Integer next = pointers.get(s).higherKey(at);
        long step = next == null || next / page != at / page ? 0 : (next - at) / 4;
        BigInteger all = BigInteger.valueOf(p.subject).add(BigInteger.valueOf(p.extra).shiftLeft(p.bind ? 24 : 36))
            .add(BigInteger.valueOf(step).shiftLeft(51)).add(BigInteger.valueOf(p.bind ? 1 : 0).shiftLeft(63));
        return new Out().u8(all.longValue()).bytes.toByteArray();
    }

    private byte[] fixups() {
        Out starts = new Out().u4(segments.size());
        Out pages = new Out();
        for (int s = 0; s < segments.size(); s++) {
            if (pointers.get(s).isEmpty()) {
                starts.u4(0);
                continue;
            }
            pages.even(4);
            starts.u4(4 + 4 * segments.size() + pages.bytes.size());
            int many = (int) span(s) / page;
            pages.u4(22 + 2 * many).n(2, page).n(2, 2).u8(address(s) - base).u4(0).n(2, many);
            for (int k = 0; k < many; k++) {
                Integer first = pointers.get(s).ceilingKey(k * page);
                pages.n(2, first == null || first / page != k ? 0xFFFF : first % page);
            }
        }
        pages.even(4);
        int at = 28 + starts.bytes.size() + pages.bytes.size();
        Out told = new Out();
        Out names = new Out();
        for (Import i : imports) {
            told.u4(i.library | (i.weak ? 256 : 0) | names.bytes.size() << 9);
            names.text(i.name).n(1, 0);
        }
        return new Out().u4(0, 28, at, at + 4 * imports.size(), imports.size(), 1, 0).put(starts.bytes.toByteArray())
            .put(pages.bytes.toByteArray()).put(told.bytes.toByteArray()).put(names.bytes.toByteArray())
            .bytes.toByteArray();
    }

    int write() {
        int commandBytes = 72 * segments.size() + 80 * sections.size() + 40;
        Out body = new Out();
        int begin = 32 + commandBytes;
        Out commands = new Out();
        for (int s = 0; s < segments.size(); s++) {
            int number = s;
            Segment seg = segments.get(s);
            List<Section> own = sections.stream().filter(x -> x.segment == number).toList();
            body.even(8);
            int at = begin + body.bytes.size();
            commands.u4(0x19, 72 + 80 * own.size()).name(seg.name).u8(address(s), span(s), at, seg.bytes.length)
                .u4(7, seg.allowed, own.size(), 0);
            for (Section x : own) {
                commands.name(x.name).name(seg.name).u8(address(s) + x.place, x.bytes).u4(at + x.place)
                    .u4(0, 0, 0, 0, 0, 0, 0);
            }
            byte[] bytes = seg.bytes.clone();
            for (int p : pointers.get(s).keySet()) {
                System.arraycopy(bits(s, p), 0, bytes, p, 8);
            }
            body.put(bytes);
        }
        int fixupsAt = begin + body.even(8).bytes.size();
        byte[] fixups = fixups();
        int symbolsAt = begin + body.put(fixups).even(8).bytes.size();
        Out strings = new Out().n(1, 0);
        for (Symbol y : symbols) {
            Section x = sections.get(y.section - 1);
            body.u4(strings.bytes.size()).n(1, 15).n(1, y.section).n(2, 0)
                .u8(address(x.segment) + x.place + y.place);
            strings.text(y.name).n(1, 0);
        }
        int stringsAt = begin + body.even(8).bytes.size();
        commands.u4(2, 24, symbolsAt, symbols.size(), stringsAt, strings.bytes.size());
        commands.u4(0x80000034, 16, fixupsAt, fixups.length);
        image = new Out().u4(0xFEEDFACF, 0x0100000C, 0, 6, segments.size() + 2, commandBytes, 0x85, 0)
            .put(commands.bytes.toByteArray()).put(body.bytes.toByteArray()).put(strings.bytes.toByteArray())
            .bytes.toByteArray();
        return image.length;
    }

    int image(int k) {
        return k >= 0 && k < image.length ? image[k] & 255 : -1;
    }

    boolean damage(int k, int v) {
        boolean can = k >= 0 && k < image.length && v >= 0 && v < 256;
        if (can) {
            image[k] = (byte) v;
        }
        return can;
    }

    boolean cut(int n) {
        boolean can = n >= 0 && n <= image.length;
        image = can ? Arrays.copyOf(image, n) : image;
        return can;
    }

    boolean export(int library, int address) {
        String name = take();
        String key = library + " " + name;
        if (!isName(name) || library < 1 || library > 3 || address < 0
                || !exports.containsKey(key) && exports.size() == 30) {
            return false;
        }
        exports.put(key, address);
        return true;
    }

    private long u(long at, int size) {
        long all = 0;
        for (int i = 0; i < size; i++) {
            all += (image[(int) at + i] & 255L) << 8 * i;
        }
        return all;
    }

    private int number(long at) throws Wrong {
        ask(u(at, 8) == (u(at, 8) & 0x7FFFFFFF), 5, at);
        return (int) u(at, 8);
    }

    private static void ask(boolean holds, int kind, long at) throws Wrong {
        if (!holds) {
            throw new Wrong(kind, at);
        }
    }

    /** The text at a place up to a 0 that lies ahead of an end, null without one. */
    private String text(long at, long end) {
        StringBuilder text = new StringBuilder();
        for (long k = at; k < end; k++) {
            if (u(k, 1) == 0) {
                return text.toString();
            }
            text.append((char) u(k, 1));
        }
        return null;
    }

    int load(int slide) {
        place = -1;
        try {
            new Load(slide).run();
            return 0;
        } catch (Wrong w) {
            place = w.at;
            return w.kind;
        }
    }

    private final class Load {
        final int slide;
        final List<Area> areas = new ArrayList<>();
        int sectionsRead = 0;
        long symtab = -1;
        long chains = -1;
        final List<Found> names = new ArrayList<>();
        final List<Import> read = new ArrayList<>();
        final List<Long> pages = new ArrayList<>();
        final List<Visit> met = new ArrayList<>();

        Load(int slide) {
            this.slide = slide;
        }

        void run() throws Wrong {
            head();
            symbols();
            if (chains >= 0) {
                fixups();
                chains();
            }
            for (Area a : areas) {
                ask(a.span == 0 || a.address + slide >= 0 && a.address + slide + a.span <= 1L << 31, 13, 0);
            }
            lay();
        }

        void head() throws Wrong {
            ask(image.length >= 32, 1, image.length);
            ask(u(0, 4) == 0xFEEDFACFL, 2, 0);
            ask(u(16, 4) <= 16, 3, 16);
            long end = 32 + u(20, 4);
            ask(end <= image.length, 1, 20);
            long p = 32;
            for (long left = u(16, 4); left > 0; left--) {
                ask(p + 8 <= end, 3, p);
                long size = u(p + 4, 4);
                ask(size >= 8 && size % 8 == 0 && p + size <= end, 3, p + 4);
                long kind = u(p, 4);
                if (kind == 0x19) {
                    segment(p, size);
                } else if (kind == 2) {
                    symtab(p, size);
                } else if (kind == 0x80000034L) {
                    ask(chains < 0, 3, p);
                    ask(size == 16, 3, p + 4);
                    ask(u(p + 8, 4) + u(p + 12, 4) <= image.length, 1, p + 8);
                    chains = p;
                } else {
                    ask(kind >> 31 == 0, 4, p);
                }
                p += size;
            }
            ask(p == end, 3, p);
        }

        void segment(long p, long size) throws Wrong {
            ask(areas.size() < 4, 3, p);
            ask(size >= 72 && size - 72 == 80 * u(p + 64, 4), 3, p + 4);
            Area a = new Area(number(p + 24), number(p + 32), number(p + 40), number(p + 48));
            ask(areas.stream().mapToLong(Area::span).sum() + a.span <= 16384, 5, p + 32);
            ask(a.address + a.span < 1L << 31, 5, p + 24);
            ask((long) a.from + a.bytes <= image.length, 1, p + 40);
            ask(a.bytes <= a.span, 6, p + 48);
            for (Area o : areas) {
                boolean apart = a.span == 0 || o.span == 0 || a.address >= o.address + o.span
                    || o.address >= a.address + a.span;
                ask(apart, 6, p + 24);
            }
            areas.add(a);
            for (long q = p + 72; q < p + size; q += 80) {
                ask(++sectionsRead <= 16, 3, q);
                long from = (long) number(q + 32) - a.address;
                ask(from + number(q + 40) <= a.span && from >= 0, 7, q);
            }
        }

        void symtab(long p, long size) throws Wrong {
            ask(symtab < 0, 3, p);
            ask(size == 24, 3, p + 4);
            ask(u(p + 12, 4) <= 64, 3, p + 12);
            ask(u(p + 8, 4) + 16 * u(p + 12, 4) <= image.length, 1, p + 8);
            ask(u(p + 16, 4) + u(p + 20, 4) <= image.length, 1, p + 16);
            symtab = p;
        }

        void symbols() throws Wrong {
            if (symtab < 0) {
                return;
            }
            long strings = u(symtab + 16, 4);
            for (int i = 0; i < u(symtab + 12, 4); i++) {
                long q = u(symtab + 8, 4) + 16 * i;
                String name = text(strings + u(q, 4), strings + u(symtab + 20, 4));
                ask(name != null, 8, q);
                ask(u(q + 5, 1) <= sectionsRead, 8, q + 5);
                names.add(new Found(name, number(q + 8) + slide));
            }
        }

        void fixups() throws Wrong {
            long f = u(chains + 8, 4);
            long end = f + u(chains + 12, 4);
            ask(f + 28 <= end && u(f, 4) == 0, 9, f);
            ask(u(f + 20, 4) == 1, 9, f + 20);
            ask(u(f + 24, 4) == 0, 9, f + 24);
            long starts = f + u(f + 4, 4);
            ask(starts + 4 <= end, 9, f + 4);
            ask(u(starts, 4) == areas.size() && starts + 4 + 4 * areas.size() <= end, 9, starts);
            ask(u(f + 16, 4) <= 64, 9, f + 16);
            ask(f + u(f + 8, 4) + 4 * u(f + 16, 4) <= end, 9, f + 8);
            for (int i = 0; i < u(f + 16, 4); i++) {
                long at = f + u(f + 8, 4) + 4 * i;
                String name = text(f + u(f + 12, 4) + (u(at, 4) >> 9), end);
                ask(name != null, 9, at);
                read.add(new Import(name, (int) u(at, 1), (u(at, 4) >> 8 & 1) == 1));
            }
            for (int s = 0; s < areas.size(); s++) {
                long told = starts + 4 + 4 * s;
                pages.add(u(told, 4) == 0 ? -1 : starts + u(told, 4));
                if (u(told, 4) != 0) {
                    ask(starts + u(told, 4) + 22 <= end, 9, told);
                    pages(areas.get(s), pages.get(s), end);
                }
            }
        }

        void pages(Area a, long t, long end) throws Wrong {
            long many = u(t + 20, 2);
            long size = u(t + 4, 2);
            ask(u(t, 4) == 22 + 2 * many && t + u(t, 4) <= end, 9, t);
            ask(List.of(256L, 512L, 1024L, 2048L, 4096L).contains(size), 9, t + 4);
            ask(u(t + 6, 2) == 2, 9, t + 6);
            ask(number(t + 8) == a.address - areas.get(0).address, 9, t + 8);
            ask((many - 1) * size < a.span, 9, t + 20);
        }

        void chains() throws Wrong {
            for (int s = 0; s < areas.size(); s++) {
                long t = pages.get(s);
                for (int k = 0; t >= 0 && k < u(t + 20, 2); k++) {
                    long first = u(t + 22 + 2 * k, 2);
                    if (first != 0xFFFF) {
                        ask(first % 4 == 0 && fits(areas.get(s), k, u(t + 4, 2), first), 10, t + 22 + 2 * k);
                        chain(areas.get(s), k, u(t + 4, 2), first);
                    }
                }
            }
        }

        boolean fits(Area a, int k, long size, long inPage) {
            return inPage + 8 <= size && k * size + inPage + 8 <= a.span;
        }

        void chain(Area a, int k, long size, long inPage) throws Wrong {
            while (true) {
                long inArea = k * size + inPage;
                long where = a.address + inArea - areas.get(0).address;
                boolean[] bit = new boolean[64];
                for (int i = 0; i < 64; i++) {
                    long at = inArea + i / 8;
                    bit[i] = at < a.bytes && (u(a.from + at, 1) >> i % 8 & 1) == 1;
                }
                boolean bind = bit[63];
                ask(part(bit, bind ? 32 : 44, 51) == 0, 11, where);
                Pointer p = new Pointer(bind, part(bit, 0, bind ? 24 : 36),
                    (int) (bind ? part(bit, 24, 32) : part(bit, 36, 44)));
                if (bind) {
                    ask(p.subject < read.size(), 11, where);
                    Import i = read.get((int) p.subject);
                    ask(i.weak || exports.containsKey(i.library + " " + i.name), 12, where);
                }
                long step = part(bit, 51, 63);
                ask(step == 0 || step != 1 && fits(a, k, size, inPage + 4 * step), 10, where);
                met.add(new Visit(a.address + inArea + slide, p));
                if (step == 0) {
                    return;
                }
                inPage += 4 * step;
            }
        }

        long part(boolean[] bit, int from, int to) {
            long all = 0;
            for (int i = from; i < to; i++) {
                all += bit[i] ? 1L << i - from : 0;
            }
            return all;
        }

        void lay() {
            memory = new TreeMap<>();
            for (Area a : areas) {
                byte[] bytes = Arrays.copyOf(Arrays.copyOfRange(image, a.from, a.from + a.bytes), (int) a.span);
                if (a.span > 0) {
                    memory.put(a.address + slide, bytes);
                }
            }
            for (Visit v : met) {
                BigInteger value;
                if (v.pointer.bind) {
                    Import i = read.get((int) v.pointer.subject);
                    int bound = exports.getOrDefault(i.library + " " + i.name, 0);
                    value = BigInteger.valueOf(bound).add(BigInteger.valueOf(v.pointer.extra));
                } else {
                    value = BigInteger.valueOf(v.pointer.subject).add(BigInteger.valueOf(slide))
                        .mod(BigInteger.ONE.shiftLeft(56)).add(BigInteger.valueOf(v.pointer.extra).shiftLeft(56));
                }
                Map.Entry<Long, byte[]> in = ((TreeMap<Long, byte[]>) memory).floorEntry(v.address);
                byte[] bytes = new Out().u8(value.longValue()).bytes.toByteArray();
                System.arraycopy(bytes, 0, in.getValue(), (int) (v.address - in.getKey()), 8);
            }
            segmentsLoaded = areas.size();
            visits = met;
            found = names;
        }
    }

    int memory(int address) {
        for (Map.Entry<Long, byte[]> in : memory.entrySet()) {
            if (address >= in.getKey() && address < in.getKey() + in.getValue().length) {
                return in.getValue()[(int) (address - in.getKey())] & 255;
            }
        }
        return -1;
    }

    long pointer(int address) {
        for (Map.Entry<Long, byte[]> in : memory.entrySet()) {
            if (address >= in.getKey() && address + 8L <= in.getKey() + in.getValue().length) {
                long all = 0;
                for (int i = 7; i >= 0; i--) {
                    all = all * 256 + (in.getValue()[(int) (address + i - in.getKey())] & 255);
                }
                return all;
            }
        }
        throw new NoSuchElementException();
    }

    long visit(int k, int what) {
        if (k < 0 || k >= visits.size() || what < 0 || what > 3) {
            throw new NoSuchElementException();
        }
        Visit v = visits.get(k);
        return List.of(v.address, v.pointer.bind ? 1L : 0L, v.pointer.subject, (long) v.pointer.extra).get(what);
    }

    int find() {
        String name = take();
        for (Found f : found) {
            if (f.name.equals(name)) {
                return f.address;
            }
        }
        return -1;
    }

    int count(int what) {
        int[] all = {segments.size(), sections.size(), symbols.size(), imports.size(), pointersTold(), image.length,
            exports.size(), segmentsLoaded, visits.size(), found.size(), tape.length()};
        return what >= 0 && what < all.length ? all[what] : -1;
    }
}
