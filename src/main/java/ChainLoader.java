import java.util.Arrays;
import java.util.NoSuchElementException;

/** A mill for program images whose pointers are threaded into chains, and a loader for them. */
public final class ChainLoader {
    public static final int NONE = -1;

    private static final int TAPE_LIMIT = 1040;
    private static final int FEED_BYTES = 20;
    // Only write() makes an image longer, and the longest that can be told has 6357 bytes.
    private static final int IMAGE_LIMIT = 6400;

    private static final int NAME_LIMIT = 16;
    private static final int SEGMENT_LIMIT = 4;
    private static final int SEGMENT_BYTES = 1024;
    private static final int SECTION_LIMIT = 8;
    private static final int SYMBOL_LIMIT = 20;
    private static final int IMPORT_LIMIT = 20;
    private static final int POINTER_LIMIT = 100;
    private static final int LIBRARY_LIMIT = 3;
    private static final int EXPORT_LIMIT = 30;
    private static final int BASE_LIMIT = 1 << 30;
    private static final int BASE_STEP = 4096;
    private static final int PAGE_LEAST = 256;
    private static final int PAGE_MOST = 4096;
    private static final int NEW_BASE = 65536;

    private static final int HEAD_BYTES = 32;
    private static final int SEGMENT_HEAD = 72;
    private static final int SECTION_HEAD = 80;
    private static final int SYMTAB_BYTES = 24;
    private static final int CHAINS_BYTES = 16;
    private static final int FIXUPS_HEAD = 28;
    private static final int PAGES_HEAD = 22;
    private static final int SYMBOL_BYTES = 16;
    private static final int POINTER_BYTES = 8;
    private static final long MAGIC = 0xFEEDFACFL;
    private static final long SEGMENT_COMMAND = 0x19L;
    private static final long SYMTAB_COMMAND = 2L;
    private static final long CHAINS_COMMAND = 0x80000034L;
    private static final long NEEDED_BIT = 0x80000000L;
    private static final int CHAIN_FORM = 2;
    private static final int NO_CHAIN = 0xFFFF;

    private static final int COMMANDS_READ = 16;
    private static final int SECTIONS_READ = 16;
    private static final int SYMBOLS_READ = 64;
    private static final int IMPORTS_READ = 64;
    private static final int SPANS_READ = 16384;
    // Pointers never share a byte, so all spans together hold no more than these.
    private static final int VISIT_LIMIT = SPANS_READ / POINTER_BYTES;
    private static final long NUMBER_MOST = 0x7FFFFFFFL;

    private static final int TOO_SHORT = 1;
    private static final int NOT_MAGIC = 2;
    private static final int BAD_COMMAND = 3;
    private static final int UNKNOWN_COMMAND = 4;
    private static final int BAD_NUMBER = 5;
    private static final int BAD_SEGMENT = 6;
    private static final int BAD_SECTION = 7;
    private static final int BAD_SYMBOL = 8;
    private static final int BAD_FIXUPS = 9;
    private static final int BAD_STEP = 10;
    private static final int BAD_POINTER = 11;
    private static final int NOT_EXPORTED = 12;
    private static final int BAD_SLIDE = 13;

    private static final long TARGET_MASK = (1L << 36) - 1;
    private static final long IMPORT_MASK = (1L << 24) - 1;
    private static final long REBASE_SPARE = 0x7FL << 44;
    private static final long BIND_SPARE = 0x7FFFFL << 32;
    private static final long BIND_BIT = 1L << 63;
    private static final int NEXT_SHIFT = 51;
    private static final int HIGH_SHIFT = 36;
    private static final int ADDED_SHIFT = 24;
    private static final int TOP_SHIFT = 56;

    private final Row tape;
    private final Row image;
    private final Told told;
    private final Writer writer;
    private final Exports exports;
    private final Fault fault;
    private final Commands commands;
    private final Fixups fixups;
    private final Loaded loaded;

    public ChainLoader() {
        tape = new Row(TAPE_LIMIT);
        image = new Row(IMAGE_LIMIT);
        told = new Told();
        writer = new Writer(told, image);
        exports = new Exports();
        fault = new Fault();
        commands = new Commands(image, fault);
        fixups = new Fixups(image, fault, exports, commands);
        loaded = new Loaded();
    }

    public int feed(int a, int b, int c, int d, int e) {
        if (tape.size + FEED_BYTES > TAPE_LIMIT) {
            return NONE;
        }
        feedNumber(a);
        feedNumber(b);
        feedNumber(c);
        feedNumber(d);
        feedNumber(e);
        return tape.size;
    }

    private void feedNumber(int number) {
        for (int shift = 24; shift >= 0; shift -= 8) {
            tape.add(1, number >>> shift);
        }
    }

    public boolean end(int n) {
        return tape.shorten(n);
    }

    public boolean anew(int base, int page) {
        if (base < 0 || base > BASE_LIMIT || base % BASE_STEP != 0 || !isPage(page)) {
            return false;
        }
        told.forget(base, page);
        return true;
    }

    public int segment(int bytes, int allowed) {
        int number = told.addSegment(tape, bytes, allowed);
        tape.clear();
        return number;
    }

    public boolean fill(int s, int place) {
        boolean done = told.setContents(tape, s, place);
        tape.clear();
        return done;
    }

    public int section(int s, int place, int bytes) {
        int number = told.addSection(tape, s, place, bytes);
        tape.clear();
        return number;
    }

    public int symbol(int section, int place) {
        int number = told.addSymbol(tape, section, place);
        tape.clear();
        return number;
    }

    public int imports(int library, boolean weak) {
        int number = told.addImport(tape, library, weak);
        tape.clear();
        return number;
    }

    public boolean rebase(int s, int place, long target, int high) {
        if (target < 0 || target > TARGET_MASK || !isByte(high)) {
            return false;
        }
        return told.setPointer(s, place, target | (long) high << HIGH_SHIFT);
    }

    public boolean bind(int s, int place, int number, int added) {
        if (!told.imports.has(number) || !isByte(added)) {
            return false;
        }
        return told.setPointer(s, place, BIND_BIT | (long) added << ADDED_SHIFT | number);
    }

    public boolean drop(int s, int place) {
        return told.removePointer(s, place);
    }

    public int write() {
        writer.writeAll();
        return image.size;
    }

    public int image(int k) {
        return image.has(k) ? image.at(k) : NONE;
    }

    public boolean damage(int k, int v) {
        if (!image.has(k) || !isByte(v)) {
            return false;
        }
        image.put(k, 1, v);
        return true;
    }

    public boolean cut(int n) {
        return image.shorten(n);
    }

    public boolean export(int library, int address) {
        boolean done = exports.put(tape, library, address);
        tape.clear();
        return done;
    }

    public int load(int slide) {
        fault.clear();
        if (commands.hold() && fixups.hold()
                && fault.unless(commands.segments.fitWith(slide), BAD_SLIDE, 0)) {
            loaded.take(image, commands, slide);
            loaded.setPointers(fixups, slide);
        }
        return fault.kind;
    }

    public int place() {
        return fault.where;
    }

    public int memory(int address) {
        int at = loaded.segments.placeOf(address, 1);
        return at == NONE ? NONE : loaded.memory.at(at);
    }

    public long pointer(int address) throws NoSuchElementException {
        int at = loaded.segments.placeOf(address, POINTER_BYTES);
        if (at == NONE) {
            throw new NoSuchElementException();
        }
        return loaded.memory.number(at, POINTER_BYTES);
    }

    public long visit(int k, int what) throws NoSuchElementException {
        Visits visits = loaded.visits;
        if (!visits.has(k)) {
            throw new NoSuchElementException();
        }
        long bits = visits.bits[k];
        switch (what) {
            case 0: return visits.address[k];
            case 1: return Visits.isBind(bits) ? 1 : 0;
            case 2: return Visits.subjectOf(bits);
            case 3: return Visits.extraOf(bits);
            default: throw new NoSuchElementException();
        }
    }

    public int find() {
        int address = loaded.symbolAddress(tape);
        tape.clear();
        return address;
    }

    public int count(int what) {
        switch (what) {
            case 0: return told.segments.total;
            case 1: return told.sections.total;
            case 2: return told.symbols.total;
            case 3: return told.imports.total;
            case 4: return told.pointers;
            case 5: return image.size;
            case 6: return exports.names.total;
            case 7: return loaded.segments.total;
            case 8: return loaded.visits.total;
            case 9: return loaded.symbols;
            case 10: return tape.size;
            default: return NONE;
        }
    }

    private static boolean isByte(int number) {
        return number >= 0 && number <= 255;
    }

    private static boolean isLibrary(int library) {
        return library >= 1 && library <= LIBRARY_LIMIT;
    }

    private static boolean isPage(int page) {
        return page >= PAGE_LEAST && page <= PAGE_MOST && (page & (page - 1)) == 0;
    }

    private static int pagesIn(int span, int page) {
        return page < 1 ? 0 : (span + page - 1) / page;
    }

    private static int filledUp(int number, int powerOfTwo) {
        return (number + powerOfTwo - 1) & -powerOfTwo;
    }

    /** Bytes of which the first so many are there; all others read as 0. */
    private static final class Row {
        final byte[] bytes;
        int size;

        Row(int limit) {
            bytes = new byte[limit];
            size = 0;
        }

        void clear() {
            size = 0;
        }

        boolean has(int k) {
            return k >= 0 && k < size;
        }

        boolean shorten(int n) {
            if (n < 0 || n > size) {
                return false;
            }
            size = n;
            return true;
        }

        int at(int k) {
            return k >= 0 && k < size ? bytes[k] & 255 : 0;
        }

        long number(int k, int n) {
            long all = 0;
            for (int i = n - 1; i >= 0; i--) {
                int j = k + i;
                all = all << 8 | (j >= 0 && j < size ? bytes[j] & 255 : 0);
            }
            return all;
        }

        void put(int k, int n, long number) {
            for (int i = 0; i < n; i++) {
                if (has(k + i)) {
                    bytes[k + i] = (byte) (number >>> 8 * i);
                }
            }
        }

        void add(int n, long number) {
            if (n >= 0 && n <= bytes.length - size) {
                size += n;
                put(size - n, n, number);
            }
        }

        void addZeros(int n) {
            if (n >= 0 && n <= bytes.length - size) {
                Arrays.fill(bytes, size, size + n, (byte) 0);
                size += n;
            }
        }

        void addFrom(byte[] source, int from, int n) {
            if (from >= 0 && n >= 0 && n <= source.length - from && n <= bytes.length - size) {
                System.arraycopy(source, from, bytes, size, n);
                size += n;
            }
        }

        void fillUp(int powerOfTwo) {
            addZeros(filledUp(size, powerOfTwo) - size);
        }

        int lastZero(int from, int end) {
            for (int k = end - 1; k >= from; k--) {
                if (at(k) == 0) {
                    return k;
                }
            }
            return NONE;
        }

        boolean isName() {
            if (size < 1 || size > NAME_LIMIT) {
                return false;
            }
            for (int k = 0; k < size; k++) {
                if (bytes[k] < 33 || bytes[k] > 126) {
                    return false;
                }
            }
            return true;
        }

        /** Whether the text that begins at a place, and ends ahead of a 0, is that of another row. */
        boolean reads(int from, byte[] text, int begin, int n) {
            if (begin < 0 || n < 0 || n > text.length - begin) {
                return false;
            }
            for (int k = 0; k < n; k++) {
                // A 0 ends the text here, so it can't be a part of it there.
                if (text[begin + k] == 0 || at(from + k) != (text[begin + k] & 255)) {
                    return false;
                }
            }
            return at(from + n) == 0;
        }
    }

    /** Names in the order in which they were told, each filled up with 0. */
    private static final class Names {
        final byte[] bytes;
        final int[] sizes;
        int total;

        Names(int limit) {
            bytes = new byte[limit * NAME_LIMIT];
            sizes = new int[limit];
            total = 0;
        }

        void clear() {
            total = 0;
        }

        boolean has(int number) {
            return number >= 0 && number < total;
        }

        boolean takes(Row name) {
            return total < sizes.length && name.isName();
        }

        int add(Row name) {
            int number = total;
            if (number >= sizes.length) {
                return NONE;
            }
            for (int k = 0; k < NAME_LIMIT; k++) {
                bytes[number * NAME_LIMIT + k] = (byte) name.at(k);
            }
            sizes[number] = name.size;
            total++;
            return number;
        }

        int bytesWithZeros() {
            int all = 0;
            for (int i = 0; i < total; i++) {
                all += sizes[i] + 1;
            }
            return all;
        }

        void addFilledTo(Row row, int number) {
            row.addFrom(bytes, number * NAME_LIMIT, NAME_LIMIT);
        }

        void addAllTo(Row row) {
            for (int i = 0; i < total; i++) {
                row.addFrom(bytes, i * NAME_LIMIT, sizes[i]);
                row.addZeros(1);
            }
        }
    }

    /** What is told, of which an image is written. */
    private static final class Told {
        int base;
        int page;
        final Names segments;
        final int[] segmentBytes;
        final int[] segmentAllowed;
        final byte[] contents;
        final Names sections;
        final int[] sectionSegment;
        final int[] sectionPlace;
        final int[] sectionBytes;
        final Names symbols;
        final int[] symbolSection;
        final int[] symbolPlace;
        final Names imports;
        final int[] importLibrary;
        final boolean[] importWeak;
        // A pointer may begin at every fourth byte: one element for each such place.
        final boolean[] pointerThere;
        final long[] pointerBits;
        int pointers;

        Told() {
            base = NEW_BASE;
            page = PAGE_LEAST;
            segments = new Names(SEGMENT_LIMIT);
            segmentBytes = new int[SEGMENT_LIMIT];
            segmentAllowed = new int[SEGMENT_LIMIT];
            contents = new byte[SEGMENT_LIMIT * SEGMENT_BYTES];
            sections = new Names(SECTION_LIMIT);
            sectionSegment = new int[SECTION_LIMIT];
            sectionPlace = new int[SECTION_LIMIT];
            sectionBytes = new int[SECTION_LIMIT];
            symbols = new Names(SYMBOL_LIMIT);
            symbolSection = new int[SYMBOL_LIMIT];
            symbolPlace = new int[SYMBOL_LIMIT];
            imports = new Names(IMPORT_LIMIT);
            importLibrary = new int[IMPORT_LIMIT];
            importWeak = new boolean[IMPORT_LIMIT];
            pointerThere = new boolean[SEGMENT_LIMIT * SEGMENT_BYTES / 4];
            pointerBits = new long[SEGMENT_LIMIT * SEGMENT_BYTES / 4];
            pointers = 0;
        }

        void forget(int newBase, int newPage) {
            base = newBase;
            page = newPage;
            segments.clear();
            sections.clear();
            symbols.clear();
            imports.clear();
            for (int k = 0; k < pointerThere.length; k++) {
                pointerThere[k] = false;
            }
            pointers = 0;
        }

        int addSegment(Row name, int bytes, int allowed) {
            if (!segments.takes(name) || bytes < 1 || bytes > SEGMENT_BYTES || allowed < 0 || allowed > 7) {
                return NONE;
            }
            int s = segments.add(name);
            segmentBytes[s] = bytes;
            segmentAllowed[s] = allowed;
            Arrays.fill(contents, s * SEGMENT_BYTES, (s + 1) * SEGMENT_BYTES, (byte) 0);
            return s;
        }

        boolean setContents(Row row, int s, int place) {
            if (!segments.has(s) || place < 0 || place > segmentBytes[s] - row.size) {
                return false;
            }
            System.arraycopy(row.bytes, 0, contents, s * SEGMENT_BYTES + place, row.size);
            return true;
        }

        int addSection(Row name, int s, int place, int bytes) {
            if (!sections.takes(name) || !segments.has(s)) {
                return NONE;
            }
            if (place < 0 || bytes < 0 || (long) place + bytes > segmentBytes[s]) {
                return NONE;
            }
            int k = sections.add(name);
            sectionSegment[k] = s;
            sectionPlace[k] = place;
            sectionBytes[k] = bytes;
            return k + 1;
        }

        int addSymbol(Row name, int section, int place) {
            if (!symbols.takes(name) || section < 1 || !sections.has(section - 1)) {
                return NONE;
            }
            if (place < 0 || place > sectionBytes[section - 1]) {
                return NONE;
            }
            int k = symbols.add(name);
            symbolSection[k] = section;
            symbolPlace[k] = place;
            return k;
        }

        int addImport(Row name, int library, boolean weak) {
            if (!imports.takes(name) || !isLibrary(library)) {
                return NONE;
            }
            int k = imports.add(name);
            importLibrary[k] = library;
            importWeak[k] = weak;
            return k;
        }

        boolean setPointer(int s, int place, long bits) {
            if (!hasRoom(s, place) || hasPointer(s, place - 4) || hasPointer(s, place + 4)) {
                return false;
            }
            if (!hasPointer(s, place)) {
                if (pointers >= POINTER_LIMIT) {
                    return false;
                }
                pointers++;
            }
            pointerThere[slot(s, place)] = true;
            pointerBits[slot(s, place)] = bits;
            return true;
        }

        boolean removePointer(int s, int place) {
            if (!hasPointer(s, place)) {
                return false;
            }
            pointerThere[slot(s, place)] = false;
            pointers--;
            return true;
        }

        private boolean hasRoom(int s, int place) {
            return segments.has(s) && place >= 0 && place % 4 == 0
                && place <= segmentBytes[s] - POINTER_BYTES
                && (place & (page - 1)) + POINTER_BYTES <= page;
        }

        boolean hasPointer(int s, int place) {
            return segments.has(s) && place >= 0 && place < SEGMENT_BYTES && place % 4 == 0
                && pointerThere[slot(s, place)];
        }

        private static int slot(int s, int place) {
            return (s * SEGMENT_BYTES + place) / 4;
        }

        /** The bits of the pointer at a place, 0 without one. */
        long bitsAt(int s, int place) {
            return hasPointer(s, place) ? pointerBits[slot(s, place)] : 0;
        }

        int firstPointer(int s, int from, int end) {
            int last = Math.min(end, SEGMENT_BYTES) - 4;
            for (int place = from; place <= last; place += 4) {
                if (hasPointer(s, place)) {
                    return place;
                }
            }
            return NONE;
        }

        int spanOf(int s) {
            return segments.has(s) ? filledUp(segmentBytes[s], page) : 0;
        }

        int addressOf(int s) {
            int address = base;
            for (int i = 0; i < s; i++) {
                address += spanOf(i);
            }
            return address;
        }

        int sectionsOf(int s) {
            int many = 0;
            for (int k = 0; k < sections.total; k++) {
                if (sectionSegment[k] == s) {
                    many++;
                }
            }
            return many;
        }
    }

    /** Writes what is told as an image, front to back. */
    private static final class Writer {
        final Told told;
        final Row image;
        final int[] segmentPlace;
        // From the beginning of STARTS; 0 for a segment without pointers.
        final int[] pagesPlace;
        int commandBytes;
        int fixups;
        int fixupBytes;
        int importsPlace;
        int namesPlace;
        int symbols;
        int strings;

        Writer(Told told, Row image) {
            this.told = told;
            this.image = image;
            segmentPlace = new int[SEGMENT_LIMIT];
            pagesPlace = new int[SEGMENT_LIMIT];
        }

        void writeAll() {
            layOut();
            layOutFixups();
            symbols = filledUp(fixups + fixupBytes, 8);
            strings = filledUp(symbols + SYMBOL_BYTES * told.symbols.total, 8);
            image.clear();
            addHead();
            for (int s = 0; s < told.segments.total; s++) {
                addSegmentCommand(s);
                addSectionsOf(s);
            }
            addTableCommands();
            for (int s = 0; s < told.segments.total; s++) {
                addContents(s);
            }
            addFixups();
            addSymbols();
            addStrings();
        }

        private void layOut() {
            commandBytes = SEGMENT_HEAD * told.segments.total + SECTION_HEAD * told.sections.total
                + SYMTAB_BYTES + CHAINS_BYTES;
            int place = HEAD_BYTES + commandBytes;
            for (int s = 0; s < told.segments.total; s++) {
                segmentPlace[s] = filledUp(place, 8);
                place = segmentPlace[s] + told.segmentBytes[s];
            }
            fixups = filledUp(place, 8);
        }

        private void layOutFixups() {
            int place = FIXUPS_HEAD + 4 + 4 * told.segments.total;
            for (int s = 0; s < told.segments.total; s++) {
                pagesPlace[s] = 0;
                if (told.firstPointer(s, 0, SEGMENT_BYTES) != NONE) {
                    place = filledUp(place, 4);
                    pagesPlace[s] = place - FIXUPS_HEAD;
                    place += PAGES_HEAD + 2 * pagesIn(told.spanOf(s), told.page);
                }
            }
            importsPlace = filledUp(place, 4);
            namesPlace = importsPlace + 4 * told.imports.total;
            fixupBytes = namesPlace + told.imports.bytesWithZeros();
        }

        private void addHead() {
            image.add(4, MAGIC);
            image.add(4, 0x0100000CL);
            image.add(4, 0);
            image.add(4, 6);
            image.add(4, told.segments.total + 2);
            image.add(4, commandBytes);
            image.add(4, 0x85);
            image.add(4, 0);
        }

        private void addSegmentCommand(int s) {
            int sections = told.sectionsOf(s);
            image.add(4, SEGMENT_COMMAND);
            image.add(4, SEGMENT_HEAD + SECTION_HEAD * sections);
            told.segments.addFilledTo(image, s);
            image.add(8, told.addressOf(s));
            image.add(8, told.spanOf(s));
            image.add(8, segmentPlace[s]);
            image.add(8, told.segmentBytes[s]);
            image.add(4, 7);
            image.add(4, told.segmentAllowed[s]);
            image.add(4, sections);
            image.add(4, 0);
        }

        private void addSectionsOf(int s) {
            for (int k = 0; k < told.sections.total; k++) {
                if (told.sectionSegment[k] == s) {
                    told.sections.addFilledTo(image, k);
                    told.segments.addFilledTo(image, s);
                    image.add(8, told.addressOf(s) + told.sectionPlace[k]);
                    image.add(8, told.sectionBytes[k]);
                    image.add(4, segmentPlace[s] + told.sectionPlace[k]);
                    image.addZeros(28);
                }
            }
        }

        private void addTableCommands() {
            image.add(4, SYMTAB_COMMAND);
            image.add(4, SYMTAB_BYTES);
            image.add(4, symbols);
            image.add(4, told.symbols.total);
            image.add(4, strings);
            image.add(4, 1 + told.symbols.bytesWithZeros());
            image.add(4, CHAINS_COMMAND);
            image.add(4, CHAINS_BYTES);
            image.add(4, fixups);
            image.add(4, fixupBytes);
        }

        private void addContents(int s) {
            image.fillUp(8);
            image.addFrom(told.contents, s * SEGMENT_BYTES, told.segmentBytes[s]);
            for (int place = 0; place < told.segmentBytes[s]; place += 4) {
                if (told.hasPointer(s, place)) {
                    image.put(segmentPlace[s] + place, POINTER_BYTES, threaded(s, place));
                }
            }
        }

        private long threaded(int s, int place) {
            int pageEnd = filledUp(place + 1, told.page);
            int next = told.firstPointer(s, place + 4, pageEnd);
            long step = next == NONE ? 0 : (next - place) / 4;
            return told.bitsAt(s, place) | step << NEXT_SHIFT;
        }

        private void addFixups() {
            image.fillUp(8);
            image.add(4, 0);
            image.add(4, FIXUPS_HEAD);
            image.add(4, importsPlace);
            image.add(4, namesPlace);
            image.add(4, told.imports.total);
            image.add(4, 1);
            image.add(4, 0);
            image.add(4, told.segments.total);
            for (int s = 0; s < told.segments.total; s++) {
                image.add(4, pagesPlace[s]);
            }
            for (int s = 0; s < told.segments.total; s++) {
                if (pagesPlace[s] != 0) {
                    addPages(s);
                }
            }
            image.fillUp(4);
            addImports();
            told.imports.addAllTo(image);
        }

        private void addPages(int s) {
            int pages = pagesIn(told.spanOf(s), told.page);
            image.fillUp(4);
            image.add(4, PAGES_HEAD + 2 * pages);
            image.add(2, told.page);
            image.add(2, CHAIN_FORM);
            image.add(8, told.addressOf(s) - told.base);
            image.add(4, 0);
            image.add(2, pages);
            for (int k = 0; k < pages; k++) {
                int begin = k * told.page;
                int first = told.firstPointer(s, begin, begin + told.page);
                image.add(2, first == NONE ? NO_CHAIN : first - begin);
            }
        }

        private void addImports() {
            int nameAt = 0;
            for (int i = 0; i < told.imports.total; i++) {
                int weak = told.importWeak[i] ? 1 : 0;
                image.add(4, told.importLibrary[i] | weak << 8 | nameAt << 9);
                nameAt += told.imports.sizes[i] + 1;
            }
        }

        private void addSymbols() {
            image.fillUp(8);
            int nameAt = 1;
            for (int i = 0; i < told.symbols.total; i++) {
                int section = told.symbolSection[i];
                int inSegment = told.sectionPlace[section - 1] + told.symbolPlace[i];
                image.add(4, nameAt);
                image.add(1, 0x0F);
                image.add(1, section);
                image.add(2, 0);
                image.add(8, told.addressOf(told.sectionSegment[section - 1]) + inSegment);
                nameAt += told.symbols.sizes[i] + 1;
            }
        }

        private void addStrings() {
            image.fillUp(8);
            image.addZeros(1);
            told.symbols.addAllTo(image);
        }
    }

    /** What the libraries offer to an image that is loaded. */
    private static final class Exports {
        final Names names;
        final int[] libraries;
        final int[] addresses;

        Exports() {
            names = new Names(EXPORT_LIMIT);
            libraries = new int[EXPORT_LIMIT];
            addresses = new int[EXPORT_LIMIT];
        }

        boolean put(Row name, int library, int address) {
            if (!name.isName() || !isLibrary(library) || address < 0) {
                return false;
            }
            int k = indexOf(library, name, 0);
            if (k == NONE) {
                k = names.add(name);
            }
            if (k == NONE) {
                return false;
            }
            libraries[k] = library;
            addresses[k] = address;
            return true;
        }

        private int indexOf(int library, Row row, int from) {
            for (int k = 0; k < names.total; k++) {
                if (libraries[k] == library && row.reads(from, names.bytes, k * NAME_LIMIT, names.sizes[k])) {
                    return k;
                }
            }
            return NONE;
        }

        int addressOf(int library, Row row, int from) {
            int k = indexOf(library, row, from);
            return k == NONE ? NONE : addresses[k];
        }
    }

    /** The fault of the latest load, kind 0 without one. */
    private static final class Fault {
        int kind;
        int where;

        Fault() {
            clear();
        }

        void clear() {
            kind = 0;
            where = NONE;
        }

        boolean unless(boolean holds, int newKind, int newWhere) {
            if (!holds) {
                kind = newKind;
                where = newWhere;
            }
            return holds;
        }
    }

    /** Spans of addresses, each with the place from which its bytes come. */
    private static final class Segments {
        final int[] address;
        final int[] span;
        final int[] from;
        final int[] bytes;
        int total;

        Segments() {
            address = new int[SEGMENT_LIMIT];
            span = new int[SEGMENT_LIMIT];
            from = new int[SEGMENT_LIMIT];
            bytes = new int[SEGMENT_LIMIT];
            total = 0;
        }

        void clear() {
            total = 0;
        }

        void add(int newAddress, int newSpan, int newFrom, int newBytes) {
            if (total < SEGMENT_LIMIT) {
                address[total] = newAddress;
                span[total] = newSpan;
                from[total] = newFrom;
                bytes[total] = newBytes;
                total++;
            }
        }

        int spanOfAll() {
            int all = 0;
            for (int s = 0; s < total; s++) {
                all += span[s];
            }
            return all;
        }

        boolean shareByte(long begin, long size) {
            for (int s = 0; s < total; s++) {
                long end = Math.min(begin + size, (long) address[s] + span[s]);
                if (Math.max(begin, address[s]) < end) {
                    return true;
                }
            }
            return false;
        }

        boolean fitWith(int slide) {
            for (int s = 0; s < total; s++) {
                long begin = (long) address[s] + slide;
                if (span[s] > 0 && (begin < 0 || begin + span[s] - 1 > NUMBER_MOST)) {
                    return false;
                }
            }
            return true;
        }

        /** Where n bytes come from that are all in one segment, NONE if they are not. */
        int placeOf(int at, int n) {
            for (int s = 0; s < total; s++) {
                long inSegment = (long) at - address[s];
                if (inSegment >= 0 && inSegment + n <= span[s]) {
                    return from[s] + (int) inSegment;
                }
            }
            return NONE;
        }

        long pointerBits(Row image, int s, int place) {
            long all = 0;
            for (int k = place + POINTER_BYTES - 1; k >= place; k--) {
                all = all << 8 | (k < bytes[s] ? image.at(from[s] + k) : 0);
            }
            return all;
        }
    }

    /** Reads head, commands and symbols of an image up to their first fault. */
    private static final class Commands {
        final Row image;
        final Fault fault;
        final Segments segments;
        int sections;
        boolean hasSymtab;
        int symbols;
        int symbolsAt;
        int strings;
        int stringBytes;
        boolean hasChains;
        int fixups;
        int fixupBytes;

        Commands(Row image, Fault fault) {
            this.image = image;
            this.fault = fault;
            segments = new Segments();
        }

        boolean hold() {
            forget();
            return headHolds() && commandsHold() && symbolsHold();
        }

        private void forget() {
            segments.clear();
            sections = 0;
            hasSymtab = false;
            symbols = 0;
            symbolsAt = 0;
            strings = 0;
            stringBytes = 0;
            hasChains = false;
            fixups = 0;
            fixupBytes = 0;
        }

        private boolean headHolds() {
            return fault.unless(image.size >= HEAD_BYTES, TOO_SHORT, image.size)
                && fault.unless(u4(0) == MAGIC, NOT_MAGIC, 0)
                && fault.unless(u4(16) <= COMMANDS_READ, BAD_COMMAND, 16)
                && fault.unless(HEAD_BYTES + u4(20) <= image.size, TOO_SHORT, 20);
        }

        private boolean commandsHold() {
            int many = (int) u4(16);
            int end = HEAD_BYTES + (int) u4(20);
            int p = HEAD_BYTES;
            for (int i = 0; i < many; i++) {
                if (!sizeHolds(p, end) || !commandHolds(p)) {
                    return false;
                }
                p += (int) u4(p + 4);
            }
            return fault.unless(p == end, BAD_COMMAND, p);
        }

        private boolean sizeHolds(int p, int end) {
            long size = u4(p + 4);
            return fault.unless(end - p >= 8, BAD_COMMAND, p)
                && fault.unless(size >= 8 && size % 8 == 0 && p + size <= end, BAD_COMMAND, p + 4);
        }

        private boolean commandHolds(int p) {
            long kind = u4(p);
            if (kind == SEGMENT_COMMAND) {
                return segmentHolds(p) && spanHolds(p) && sectionsHold(p);
            }
            if (kind == SYMTAB_COMMAND) {
                return symtabHolds(p);
            }
            if (kind == CHAINS_COMMAND) {
                return chainsHold(p);
            }
            return fault.unless((kind & NEEDED_BIT) == 0, UNKNOWN_COMMAND, p);
        }

        private boolean segmentHolds(int p) {
            long size = u4(p + 4);
            return fault.unless(segments.total < SEGMENT_LIMIT, BAD_COMMAND, p)
                && fault.unless(size >= SEGMENT_HEAD, BAD_COMMAND, p + 4)
                && fault.unless(size == SEGMENT_HEAD + SECTION_HEAD * u4(p + 64), BAD_COMMAND, p + 4)
                && numberHolds(p + 24) && numberHolds(p + 32)
                && numberHolds(p + 40) && numberHolds(p + 48);
        }

        private boolean spanHolds(int p) {
            long address = u8(p + 24);
            long span = u8(p + 32);
            long from = u8(p + 40);
            long bytes = u8(p + 48);
            if (fault.unless(segments.spanOfAll() + span <= SPANS_READ, BAD_NUMBER, p + 32)
                    && fault.unless(address + span <= NUMBER_MOST, BAD_NUMBER, p + 24)
                    && fault.unless(from + bytes <= image.size, TOO_SHORT, p + 40)
                    && fault.unless(bytes <= span, BAD_SEGMENT, p + 48)
                    && fault.unless(!segments.shareByte(address, span), BAD_SEGMENT, p + 24)) {
                segments.add((int) address, (int) span, (int) from, (int) bytes);
                return true;
            }
            return false;
        }

        private boolean sectionsHold(int p) {
            long begin = u8(p + 24);
            long end = begin + u8(p + 32);
            int many = (int) u4(p + 64);
            for (int i = 0; i < many; i++) {
                int q = p + SEGMENT_HEAD + SECTION_HEAD * i;
                if (!fault.unless(sections < SECTIONS_READ, BAD_COMMAND, q)
                        || !numberHolds(q + 32) || !numberHolds(q + 40)) {
                    return false;
                }
                long address = u8(q + 32);
                boolean within = address >= begin && address + u8(q + 40) <= end;
                if (!fault.unless(within, BAD_SECTION, q)) {
                    return false;
                }
                sections++;
            }
            return true;
        }

        private boolean symtabHolds(int p) {
            long many = u4(p + 12);
            if (fault.unless(!hasSymtab, BAD_COMMAND, p)
                    && fault.unless(u4(p + 4) == SYMTAB_BYTES, BAD_COMMAND, p + 4)
                    && fault.unless(many <= SYMBOLS_READ, BAD_COMMAND, p + 12)
                    && fault.unless(u4(p + 8) + SYMBOL_BYTES * many <= image.size, TOO_SHORT, p + 8)
                    && fault.unless(u4(p + 16) + u4(p + 20) <= image.size, TOO_SHORT, p + 16)) {
                hasSymtab = true;
                symbolsAt = (int) u4(p + 8);
                symbols = (int) many;
                strings = (int) u4(p + 16);
                stringBytes = (int) u4(p + 20);
                return true;
            }
            return false;
        }

        private boolean chainsHold(int p) {
            if (fault.unless(!hasChains, BAD_COMMAND, p)
                    && fault.unless(u4(p + 4) == CHAINS_BYTES, BAD_COMMAND, p + 4)
                    && fault.unless(u4(p + 8) + u4(p + 12) <= image.size, TOO_SHORT, p + 8)) {
                hasChains = true;
                fixups = (int) u4(p + 8);
                fixupBytes = (int) u4(p + 12);
                return true;
            }
            return false;
        }

        private boolean symbolsHold() {
            // A name has its 0 just if it begins no later than the last 0 of all.
            int lastZero = image.lastZero(strings, strings + stringBytes);
            for (int i = 0; i < symbols; i++) {
                int q = symbolsAt + SYMBOL_BYTES * i;
                if (!fault.unless(strings + u4(q) <= lastZero, BAD_SYMBOL, q)
                        || !fault.unless(image.at(q + 5) <= sections, BAD_SYMBOL, q + 5)
                        || !numberHolds(q + 8)) {
                    return false;
                }
            }
            return true;
        }

        boolean numberHolds(int at) {
            long number = u8(at);
            return fault.unless(number >= 0 && number <= NUMBER_MOST, BAD_NUMBER, at);
        }

        private long u4(int at) {
            return image.number(at, 4);
        }

        private long u8(int at) {
            return image.number(at, 8);
        }
    }

    /** Reads the fixups of an image and walks its chains up to their first fault. */
    private static final class Fixups {
        final Row image;
        final Fault fault;
        final Exports exports;
        final Commands commands;
        final Segments segments;
        final Visits visits;
        final int[] pagesAt;
        final boolean[] importWeak;
        final int[] importAddress;
        int imports;
        int begin;
        int size;
        int starts;

        Fixups(Row image, Fault fault, Exports exports, Commands commands) {
            this.image = image;
            this.fault = fault;
            this.exports = exports;
            this.commands = commands;
            segments = commands.segments;
            visits = new Visits();
            pagesAt = new int[SEGMENT_LIMIT];
            importWeak = new boolean[IMPORTS_READ];
            importAddress = new int[IMPORTS_READ];
        }

        boolean hold() {
            visits.clear();
            imports = 0;
            if (!commands.hasChains) {
                return true;
            }
            begin = commands.fixups;
            size = commands.fixupBytes;
            return headHolds() && startsHold() && importsHold() && allPagesHold() && allChainsHold();
        }

        private boolean headHolds() {
            return needs(size >= FIXUPS_HEAD && u4(begin) == 0, begin)
                && needs(u4(begin + 20) == 1, begin + 20)
                && needs(u4(begin + 24) == 0, begin + 24);
        }

        private boolean startsHold() {
            long at = u4(begin + 4);
            if (!needs(at + 4 <= size, begin + 4)) {
                return false;
            }
            starts = (int) at;
            return needs(u4(begin + starts) == segments.total && at + 4 + 4 * segments.total <= size,
                begin + starts);
        }

        private boolean importsHold() {
            long many = u4(begin + 16);
            if (!needs(many <= IMPORTS_READ, begin + 16)
                    || !needs(u4(begin + 8) + 4 * many <= size, begin + 8)) {
                return false;
            }
            int first = begin + (int) u4(begin + 8);
            long names = begin + u4(begin + 12);
            int lastZero = image.lastZero(begin, begin + size);
            for (int i = 0; i < many; i++) {
                long bits = u4(first + 4 * i);
                long nameAt = names + (bits >>> 9);
                if (!needs(nameAt <= lastZero, first + 4 * i)) {
                    return false;
                }
                importWeak[i] = (bits & 256) != 0;
                importAddress[i] = exports.addressOf((int) (bits & 255), image, (int) nameAt);
            }
            imports = (int) many;
            return true;
        }

        private boolean allPagesHold() {
            for (int s = 0; s < segments.total; s++) {
                pagesAt[s] = NONE;
                int start = begin + starts + 4 + 4 * s;
                long inStarts = u4(start);
                if (inStarts != 0) {
                    if (!needs(starts + inStarts + PAGES_HEAD <= size, start)) {
                        return false;
                    }
                    pagesAt[s] = begin + starts + (int) inStarts;
                    if (!pagesHold(s, pagesAt[s])) {
                        return false;
                    }
                }
            }
            return true;
        }

        private boolean pagesHold(int s, int t) {
            int bytes = PAGES_HEAD + 2 * u2(t + 20);
            int page = u2(t + 4);
            int ahead = segments.address[s] - segments.address[0];
            return needs(u4(t) == bytes && t - begin + bytes <= size, t)
                && needs(isPage(page), t + 4)
                && needs(u2(t + 6) == CHAIN_FORM, t + 6)
                && commands.numberHolds(t + 8)
                && needs(image.number(t + 8, 8) == ahead, t + 8)
                && needs(u2(t + 20) <= pagesIn(segments.span[s], page), t + 20);
        }

        private boolean allChainsHold() {
            for (int s = 0; s < segments.total; s++) {
                if (pagesAt[s] != NONE && !chainsOfHold(s, pagesAt[s])) {
                    return false;
                }
            }
            return true;
        }

        private boolean chainsOfHold(int s, int t) {
            int page = u2(t + 4);
            int pages = u2(t + 20);
            for (int k = 0; k < pages; k++) {
                int start = t + PAGES_HEAD + 2 * k;
                int first = u2(start);
                int end = Math.min(page * (k + 1), segments.span[s]);
                if (first != NO_CHAIN) {
                    boolean fits = first % 4 == 0 && page * k + first + POINTER_BYTES <= end;
                    if (!fault.unless(fits, BAD_STEP, start) || !chainHolds(s, page * k + first, end)) {
                        return false;
                    }
                }
            }
            return true;
        }

        private boolean chainHolds(int s, int first, int end) {
            int place = first;
            for (int met = 0; met < VISIT_LIMIT; met++) {
                long bits = segments.pointerBits(image, s, place);
                int where = segments.address[s] - segments.address[0] + place;
                int step = Visits.nextOf(bits);
                boolean fits = step == 0 || step > 1 && place + 4 * step + POINTER_BYTES <= end;
                if (!pointerHolds(bits, where) || !fault.unless(fits, BAD_STEP, where)) {
                    return false;
                }
                visits.add(segments.address[s] + place, bits);
                if (step == 0) {
                    return true;
                }
                place += 4 * step;
            }
            return true;
        }

        private boolean pointerHolds(long bits, int where) {
            if (!Visits.isBind(bits)) {
                return fault.unless((bits & REBASE_SPARE) == 0, BAD_POINTER, where);
            }
            int number = (int) (bits & IMPORT_MASK);
            return fault.unless((bits & BIND_SPARE) == 0, BAD_POINTER, where)
                && fault.unless(number < imports, BAD_POINTER, where)
                && fault.unless(importWeak[number] || importAddress[number] != NONE, NOT_EXPORTED, where);
        }

        /** What stands in memory for a pointer that holds. */
        long valueOf(long bits, int slide) {
            long subject = Visits.subjectOf(bits);
            long extra = Visits.extraOf(bits);
            if (!Visits.isBind(bits)) {
                long rest = (1L << TOP_SHIFT) - 1;
                return (subject + slide) & rest | extra << TOP_SHIFT;
            }
            boolean bound = subject < imports && importAddress[(int) subject] != NONE;
            return (bound ? importAddress[(int) subject] : 0) + extra;
        }

        private boolean needs(boolean holds, int where) {
            return fault.unless(holds, BAD_FIXUPS, where);
        }

        private int u2(int at) {
            return (int) image.number(at, 2);
        }

        private long u4(int at) {
            return image.number(at, 4);
        }
    }

    /** Pointers in the order in which the chains came to them, as the image has them. */
    private static final class Visits {
        final int[] address;
        final long[] bits;
        int total;

        Visits() {
            address = new int[VISIT_LIMIT];
            bits = new long[VISIT_LIMIT];
            total = 0;
        }

        void clear() {
            total = 0;
        }

        boolean has(int k) {
            return k >= 0 && k < total;
        }

        void add(int newAddress, long newBits) {
            if (total < VISIT_LIMIT) {
                address[total] = newAddress;
                bits[total] = newBits;
                total++;
            }
        }

        static boolean isBind(long bits) {
            return bits < 0;
        }

        static int nextOf(long bits) {
            return (int) (bits >>> NEXT_SHIFT) & 0xFFF;
        }

        static long subjectOf(long bits) {
            return bits & (isBind(bits) ? IMPORT_MASK : TARGET_MASK);
        }

        static long extraOf(long bits) {
            return bits >>> (isBind(bits) ? ADDED_SHIFT : HIGH_SHIFT) & 255;
        }
    }

    /** What the latest load without a fault has left. */
    private static final class Loaded {
        final Segments segments;
        final Row memory;
        final Visits visits;
        // The image may change behind a load, so the names of its symbols are kept here.
        final Row strings;
        final int[] symbolNames;
        final int[] symbolAddresses;
        int symbols;

        Loaded() {
            segments = new Segments();
            memory = new Row(SPANS_READ);
            visits = new Visits();
            strings = new Row(IMAGE_LIMIT);
            symbolNames = new int[SYMBOLS_READ];
            symbolAddresses = new int[SYMBOLS_READ];
            symbols = 0;
        }

        void take(Row image, Commands read, int slide) {
            takeSegments(image, read.segments, slide);
            strings.clear();
            strings.addFrom(image.bytes, read.strings, read.stringBytes);
            symbols = read.symbols;
            for (int i = 0; i < symbols; i++) {
                int q = read.symbolsAt + SYMBOL_BYTES * i;
                symbolNames[i] = (int) image.number(q, 4);
                symbolAddresses[i] = (int) image.number(q + 8, 4) + slide;
            }
        }

        private void takeSegments(Row image, Segments read, int slide) {
            segments.clear();
            memory.clear();
            for (int s = 0; s < read.total; s++) {
                segments.add(read.address[s] + slide, read.span[s], memory.size, read.bytes[s]);
                memory.addFrom(image.bytes, read.from[s], read.bytes[s]);
                memory.addZeros(read.span[s] - read.bytes[s]);
            }
        }

        void setPointers(Fixups fixups, int slide) {
            visits.clear();
            for (int k = 0; k < fixups.visits.total; k++) {
                int address = fixups.visits.address[k] + slide;
                long bits = fixups.visits.bits[k];
                visits.add(address, bits);
                int at = segments.placeOf(address, POINTER_BYTES);
                if (at != NONE) {
                    memory.put(at, POINTER_BYTES, fixups.valueOf(bits, slide));
                }
            }
        }

        int symbolAddress(Row name) {
            for (int i = 0; i < symbols; i++) {
                if (strings.reads(symbolNames[i], name.bytes, 0, name.size)) {
                    return symbolAddresses[i];
                }
            }
            return NONE;
        }
    }
}
