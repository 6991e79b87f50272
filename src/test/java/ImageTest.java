/** Promises 13 to 16: the image, byte by byte where the document tells it. */
public final class ImageTest {
    private static final String LONGEST = "sixteen.bytes..!";
    private static final long BIND = 1L << 63;

    public static void main(String[] args) {
        empty();
        whole();
        namesFilledWithZero();
        spanFilledUp();
        addressBehindTheSpanAhead();
        placesFromMultiplesOf8();
        symbolsFromMultiplesOf8();
        bytesBetweenAreZero();
        commandSizes();
        sectionsInOrderOfTheirSegments();
        sectionEdges();
        startsWithoutPointers();
        pagesFromMultiplesOf4();
        importsFromAMultipleOf4();
        firstPlaces();
        pagesOfEverySize();
        steps();
        noStepToTheNextPage();
        importBits();
        symbolAddresses();
        largest();
        howManyBytes();
        writtenAgain();
        imageEdges();
        damagePlaces();
        damageValues();
        refusedDamage();
        cutEdges();
        cutBytesAreGone();
        Probe.finish();
    }

    private static void empty() {
        Written im = new Written("promise 13: an IMAGE of nothing told", t -> { });
        im.due("write()", im.size, 105);
        im.dueU4("u4", 0, 0xFEEDFACFL, 0x0100000C, 0, 6, 2, 40, 0x85, 0, 2, 24, 104, 0, 104, 1,
            0x80000034L, 16, 72, 32, 0, 28, 32, 32, 0, 1, 0, 0);
        im.dueZeros("STRINGS", 104, 105);
    }

    private static void tellSomeOfAll(Probe t) {
        t.x.anew(0x10000, 512);
        t.segment("code", 10, 5);
        t.segment("data", 1024, 3);
        t.segment("rest", 3, 1);
        t.fill("\1\2\3", 2, 0);
        t.section("text", 0, 2, 8);
        t.section(LONGEST, 1, 16, 1000);
        t.section("bss", 1, 1024, 0);
        t.symbol("main", 1, 1);
        t.symbol("end", 2, 1000);
        t.imports("puts", 2, false);
        t.imports("opt", 3, true);
        t.x.rebase(1, 504, 0xABCDEF012L, 0x5A);
        t.x.bind(1, 0, 1, 7);
        t.x.rebase(1, 512, 1, 0);
        t.x.bind(1, 1016, 0, 255);
    }

    private static void whole() {
        Written im = new Written("promise 13: an IMAGE of some of all", ImageTest::tellSomeOfAll);
        // 32 + 3 * 72 + 3 * 80 + 40 = 528: commands end there.
        im.dueU4("HEAD", 0, 0xFEEDFACFL, 0x0100000C, 0, 6, 5, 496, 0x85, 0);
        segmentAt(im, 32, 152, "code\0\0\0\0\0\0\0\0\0\0\0\0", new long[] {0x10000, 512, 528, 10}, 5, 1);
        sectionAt(im, 104, "text\0\0\0\0\0\0\0\0\0\0\0\0code\0\0\0\0\0\0\0\0\0\0\0\0", 0x10002, 8, 530);
        segmentAt(im, 184, 232, "data\0\0\0\0\0\0\0\0\0\0\0\0", new long[] {0x10200, 1024, 544, 1024}, 3, 2);
        sectionAt(im, 256, "sixteen.bytes..!data\0\0\0\0\0\0\0\0\0\0\0\0", 0x10210, 1000, 560);
        sectionAt(im, 336, "bss\0\0\0\0\0\0\0\0\0\0\0\0\0data\0\0\0\0\0\0\0\0\0\0\0\0", 0x10600, 0, 1568);
        segmentAt(im, 416, 72, "rest\0\0\0\0\0\0\0\0\0\0\0\0", new long[] {0x10600, 512, 1568, 3}, 1, 0);
        // FIXUPS from 1576 on: 28, STARTS 16, PAGES 26, filled to 72, IMPORTS 8, NAMES 9.
        im.dueU4("SYMTAB and CHAINS", 488, 2, 24, 1672, 2, 1704, 10, 0x80000034L, 16, 1576, 89);
        im.dueZeros("code, and bytes between", 528, 544);
        im.dueNumber("a BIND", 544, 8, BIND | 126L << 51 | 7L << 24 | 1);
        im.dueZeros("no POINTER", 552, 544 + 504);
        im.dueNumber("a REBASE, the page's last", 544 + 504, 8, 0x5AL << 36 | 0xABCDEF012L);
        im.dueNumber("a REBASE, the next page's first", 544 + 512, 8, 126L << 51 | 1);
        im.dueZeros("no POINTER", 544 + 520, 544 + 1016);
        im.dueNumber("a BIND, the last", 544 + 1016, 8, BIND | 255L << 24);
        im.dueText("the last segment", 1568, "\1\2\3\0\0\0\0\0");
        im.dueU4("FIXUPS", 1576, 0, 28, 72, 80, 2, 1, 0, 3, 0, 16, 0, 26);
        im.dueText("PAGES", 1624, "\0\2\2\0\0\2\0\0\0\0\0\0\0\0\0\0\2\0\0\0\0\0\0\0");
        im.dueU4("IMPORTS", 1648, 2, 3 | 256 | 5 << 9);
        im.dueText("NAMES", 1656, "puts\0opt\0\0\0\0\0\0\0\0");
        im.dueText("SYMBOLS", 1672, "\1\0\0\0\17\1\0\0\3\0\1\0\0\0\0\0\6\0\0\0\17\2\0\0\u00f8\5\1\0\0\0\0\0");
        im.dueText("STRINGS", 1704, "\0main\0end\0");
        im.due("write()", im.size, 1714);
    }

    private static void segmentAt(Written im, int p, int size, String name, long[] where, int allowed, int sections) {
        im.dueU4("SEGMENT", p, 0x19, size);
        im.dueText("its NAME", p + 8, name);
        for (int k = 0; k < 4; k++) {
            im.dueNumber("ADDRESS, SPAN, place, bytes", p + 24 + 8 * k, 8, where[k]);
        }
        im.dueU4("7, allowed, how many SECTIONS, 0", p + 56, 7, allowed, sections, 0);
    }

    private static void sectionAt(Written im, int q, String names, long address, long size, long place) {
        im.dueText("NAMES of a SECTION", q, names);
        im.dueNumber("its address", q + 32, 8, address);
        im.dueNumber("its size", q + 40, 8, size);
        im.dueU4("its place and seven of 0", q + 48, place, 0, 0, 0, 0, 0, 0, 0);
    }

    private static void namesFilledWithZero() {
        String[] names = {"a", "fifteen.bytes.!", LONGEST};
        for (String name : names) {
            Written im = new Written("promise 13: NAMES of 16 bytes are filled with 0", t -> {
                // A longer name was told at the same number ahead of this one.
                t.segment(LONGEST, 8, 0);
                t.section(LONGEST, 0, 0, 8);
                t.x.anew(0, 256);
                t.segment(name, 8, 0);
                t.section(name, 0, 0, 8);
            });
            String filled = name + "\0".repeat(16 - name.length());
            im.dueText("a SEGMENT's", 40, filled);
            im.dueText("a SECTION's", 104, filled);
            im.dueText("its SEGMENT's", 120, filled);
        }
    }

    private static void spanFilledUp() {
        for (int page = 256; page <= 4096; page *= 2) {
            for (int bytes : new int[] {1, 255, 256, 257, 511, 512, 513, 767, 768, 769, 1023, 1024}) {
                Probe t = new Probe("promise 13: SPAN, its bytes filled up to a multiple of PAGE");
                t.x.anew(0, page);
                t.segment("a", bytes, 0);
                t.x.write();
                int due = 0;
                while (due < bytes) {
                    due += page;
                }
                t.dueNumber("SPAN of " + bytes + " bytes, PAGE " + page, 64, 8, due);
                t.dueNumber("how many bytes are there", 80, 8, bytes);
            }
        }
    }

    private static void addressBehindTheSpanAhead() {
        Written im = new Written("promise 13: ADDRESS, BASE, or where the SPAN of the one ahead ends", t -> {
            t.x.anew(1 << 30, 256);
            t.segment("a", 256, 0);
            t.segment("b", 257, 0);
            t.segment("c", 1024, 0);
            t.segment("d", 1, 0);
        });
        int[] due = {0, 256, 768, 1792};
        for (int s = 0; s < 4; s++) {
            im.dueNumber("ADDRESS of SEGMENT " + s, 32 + 72 * s + 24, 8, (1 << 30) + due[s]);
        }
    }

    private static void placesFromMultiplesOf8() {
        for (int bytes = 1; bytes <= 17; bytes++) {
            int many = bytes;
            Written im = new Written("promise 13: each from a multiple of 8 on", t -> {
                t.segment("a", many, 0);
                t.segment("b", many, 0);
                t.fill("x".repeat(many), 0, 0);
                t.fill("y".repeat(many), 1, 0);
            });
            int up = (bytes + 7) / 8 * 8;
            int first = 32 + 144 + 40;
            im.dueNumber("the first SEGMENT's bytes", 32 + 40, 8, first);
            im.dueNumber("the second's", 104 + 40, 8, first + up);
            im.dueNumber("FIXUPS", 32 + 144 + 24 + 8, 4, first + 2 * up);
            String filled = "\0".repeat(up - bytes);
            im.dueText("the bytes", first, "x".repeat(bytes) + filled + "y".repeat(bytes) + filled);
            im.dueU4("FIXUPS", first + 2 * up, 0, 28);
        }
    }

    private static void symbolsFromMultiplesOf8() {
        for (int length = 1; length <= 16; length++) {
            String name = LONGEST.substring(0, length);
            Written im = new Written("promise 13: SYMBOLS from a multiple of 8 on; with STRINGS it ends", t -> {
                t.segment("a", 8, 0);
                t.section("s", 0, 0, 8);
                t.imports(name, 1, false);
                t.symbol(name, 1, 8);
            });
            int fixups = 32 + 152 + 40 + 8;
            // FIXUPS: 28, STARTS 8, an IMPORT 4, its NAME and a 0.
            int end = fixups + 40 + length + 1;
            int symbols = (end + 7) / 8 * 8;
            int symtab = im.command(1);
            im.dueU4("SYMTAB", symtab, 2, 24, symbols, 1, symbols + 16, length + 2);
            im.dueU4("CHAINS", symtab + 24, 0x80000034L, 16, fixups, 40 + length + 1);
            im.dueZeros("bytes between", end, symbols);
            im.dueText("STRINGS", symbols + 16, "\0" + name + "\0");
            im.due("write()", im.size, symbols + 16 + length + 2);
        }
    }

    private static void bytesBetweenAreZero() {
        Probe t = new Probe("promise 13: bytes between are 0, whatever was there");
        t.segment("a", 300, 0);
        t.segment("b", 300, 0);
        t.x.rebase(0, 0, 0, 0);
        t.x.rebase(1, 0, 0, 0);
        t.imports("i", 1, true);
        t.x.write();
        int end = 216 + 300;
        int pages = 216 + 304 + 304 + 28 + 12;
        int[] between = {end, end + 3, pages + 26, pages + 27, pages + 28 + 26, pages + 28 + 27};
        for (int k : between) {
            t.due("image(" + k + ")", t.x.image(k), 0);
            t.due("damage(" + k + ", 255)", t.x.damage(k, 255), true);
        }
        int names = pages + 28 + 28 + 4;
        t.dueText("NAMES and bytes between", names, "i\0\0\0\0");
        t.patch(names + 2, 2, -1);
        t.x.write();
        for (int k : between) {
            t.due("image(" + k + ") written again", t.x.image(k), 0);
        }
        t.dueText("NAMES and bytes between", names, "i\0\0\0\0");
    }

    private static void commandSizes() {
        for (int sections = 0; sections <= 8; sections++) {
            int many = sections;
            Written im = new Written("promise 13: a SEGMENT has 72 and 80 for each of its SECTIONS", t -> {
                t.segment("a", 8, 0);
                t.segment("b", 8, 0);
                for (int k = 0; k < many; k++) {
                    t.section("s", 1, 0, 8);
                }
            });
            im.dueU4("how many COMMANDS, their bytes", 16, 4, 144 + 80 * sections + 40);
            im.dueU4("the first SEGMENT", 32, 0x19, 72);
            im.dueU4("its SECTIONS", 32 + 64, 0);
            im.dueU4("the second SEGMENT", 104, 0x19, 72 + 80 * sections);
            im.dueU4("its SECTIONS", 104 + 64, sections);
            im.dueU4("SYMTAB", 176 + 80 * sections, 2, 24);
            im.dueU4("CHAINS", 200 + 80 * sections, 0x80000034L, 16);
        }
    }

    private static void sectionsInOrderOfTheirSegments() {
        Written im = new Written("promise 13: a SEGMENT's SECTIONS, in order; a SYMBOL's SECTION as told", t -> {
            t.segment("a", 8, 0);
            t.segment("b", 8, 0);
            t.section("of.b", 1, 0, 8);
            t.section("of.a", 0, 4, 4);
            t.section("of.b.too", 1, 8, 0);
            t.symbol("in.b", 1, 3);
            t.symbol("in.a", 2, 0);
        });
        im.dueText("the SECTION of the first SEGMENT", 32 + 72, "of.a\0");
        im.dueText("a SECTION of the second SEGMENT", 184 + 72, "of.b\0");
        im.dueText("the other SECTION of the second SEGMENT", 184 + 152, "of.b.too");
        int at = im.u4(im.command(2) + 8);
        im.dueNumber("a SYMBOL's SECTION", at + 5, 1, 1);
        im.dueNumber("its address", at + 8, 8, 65536 + 256 + 3);
        im.dueNumber("a SYMBOL's SECTION", at + 16 + 5, 1, 2);
        im.dueNumber("its address", at + 24, 8, 65536 + 4);
    }

    private static void sectionEdges() {
        Written im = new Written("promise 13: a SECTION's address, size, place in the IMAGE", t -> {
            t.segment("a", 9, 0);
            t.segment("b", 1024, 0);
            t.section("s", 1, 0, 1024);
            t.section("t", 1, 1024, 0);
            t.section("u", 1, 1023, 1);
        });
        int from = 32 + 144 + 240 + 40 + 16;
        int q = 104 + 72;
        int[][] rows = {{0, 1024}, {1024, 0}, {1023, 1}};
        for (int k = 0; k < 3; k++) {
            im.dueNumber("its address", q + 80 * k + 32, 8, 65536 + 256 + rows[k][0]);
            im.dueNumber("its size", q + 80 * k + 40, 8, rows[k][1]);
            im.dueNumber("its place", q + 80 * k + 48, 4, from + rows[k][0]);
        }
    }

    private static void startsWithoutPointers() {
        for (int mask = 0; mask < 16; mask++) {
            int with = mask;
            Written im = new Written("promise 13: where its PAGES are, 0 if it has no POINTERS", t -> {
                for (int s = 0; s < 4; s++) {
                    t.segment("s", 8, 0);
                    if ((with >> s & 1) == 1) {
                        t.x.rebase(s, 0, 0, 0);
                    } else {
                        // One that was there and is dropped is none.
                        t.x.rebase(s, 0, 0, 0);
                        t.x.drop(s, 0);
                    }
                }
            });
            int fixups = im.u4(im.command(5) + 8);
            int place = 20;
            im.dueU4("how many SEGMENTS", fixups + 28, 4);
            for (int s = 0; s < 4; s++) {
                boolean has = (mask >> s & 1) == 1;
                im.dueU4("where the PAGES of " + s + " are", fixups + 32 + 4 * s, has ? place : 0);
                if (has) {
                    im.dueU4("PAGES", fixups + 28 + place, 24, 256 | 2 << 16, 256 * s, 0, 0, 1);
                    place += 24;
                }
            }
            im.dueU4("how many bytes FIXUPS have", im.command(5) + 12, 28 + place);
        }
    }

    private static void pagesFromMultiplesOf4() {
        for (int pages = 1; pages <= 4; pages++) {
            int bytes = 256 * pages;
            Written im = new Written("promise 13: PAGES from a multiple of 4 on", t -> {
                t.segment("a", bytes, 0);
                t.segment("b", bytes, 0);
                t.x.rebase(0, 0, 0, 0);
                t.x.rebase(1, 0, 0, 0);
            });
            int chains = im.command(3);
            int fixups = im.u4(chains + 8);
            int up = (22 + 2 * pages + 3) / 4 * 4;
            im.dueU4("STARTS", fixups + 28, 2, 12, 12 + up);
            im.dueU4("the first's", fixups + 40, 22 + 2 * pages);
            im.dueZeros("bytes between", fixups + 40 + 22 + 2 * pages, fixups + 40 + up);
            im.dueU4("the second's", fixups + 40 + up, 22 + 2 * pages);
            im.dueNumber("ADDRESS less BASE", fixups + 40 + up + 8, 8, bytes);
            im.dueNumber("how many pages", fixups + 40 + up + 20, 2, pages);
            im.dueU4("how many bytes FIXUPS have", chains + 12, 40 + 2 * up);
        }
    }

    private static void importsFromAMultipleOf4() {
        for (int pages = 1; pages <= 4; pages++) {
            for (int imports = 0; imports <= 2; imports++) {
                int bytes = 256 * pages;
                int many = imports;
                Written im = new Written("promise 13: IMPORTS from a multiple of 4 on, NAMES behind them", t -> {
                    t.segment("a", bytes, 0);
                    t.x.rebase(0, 0, 0, 0);
                    for (int k = 0; k < many; k++) {
                        t.imports("name", 3, false);
                    }
                });
                int chains = im.command(2);
                int fixups = im.u4(chains + 8);
                int at = 36 + (22 + 2 * pages + 3) / 4 * 4;
                im.dueU4("where IMPORTS are, their NAMES, how many", fixups + 8, at, at + 4 * imports, imports);
                im.dueZeros("bytes between", fixups + 36 + 22 + 2 * pages, fixups + at);
                im.dueU4("how many bytes FIXUPS have", chains + 12, at + 9 * imports);
                for (int k = 0; k < imports; k++) {
                    im.dueU4("an IMPORT", fixups + at + 4 * k, 3 | 5 * k << 9);
                    im.dueText("its NAME", fixups + at + 4 * imports + 5 * k, "name\0");
                }
            }
        }
    }

    private static void firstPlaces() {
        Written im = new Written("promise 13: the place of the first POINTER, 0xFFFF without one", t -> {
            t.segment("a", 1024, 0);
            t.x.rebase(0, 248, 0, 0);
            t.x.rebase(0, 520, 0, 0);
            t.x.rebase(0, 512, 0, 0);
            t.x.rebase(0, 1016, 0, 0);
            t.x.rebase(0, 772, 0, 0);
        });
        int fixups = im.u4(im.command(2) + 8);
        int[] due = {248, 0xFFFF, 0, 4};
        im.dueNumber("how many pages", fixups + 36 + 20, 2, 4);
        for (int k = 0; k < 4; k++) {
            im.dueNumber("page " + k, fixups + 36 + 22 + 2 * k, 2, due[k]);
        }
    }

    private static void pagesOfEverySize() {
        for (int page = 256; page <= 4096; page *= 2) {
            int size = page;
            Written im = new Written("promise 13: how many pages, SPAN by PAGE", t -> {
                t.x.anew(4096, size);
                t.segment("a", 1, 0);
                t.segment("b", 520, 0);
                t.x.rebase(1, 512, 0, 0);
            });
            int fixups = im.u4(im.command(3) + 8);
            int pages = (520 + page - 1) / page;
            im.dueNumber("its u4", fixups + 40, 4, 22 + 2 * pages);
            im.dueNumber("PAGE", fixups + 44, 2, page);
            im.dueNumber("2", fixups + 46, 2, 2);
            im.dueNumber("ADDRESS less BASE", fixups + 48, 8, page);
            im.dueNumber("0", fixups + 56, 4, 0);
            im.dueNumber("how many pages", fixups + 60, 2, pages);
            for (int k = 0; k < pages; k++) {
                im.dueNumber("page " + k, fixups + 62 + 2 * k, 2, k == 512 / page ? 512 % page : 0xFFFF);
            }
        }
    }

    private static void steps() {
        int[][] rows = {{256, 0, 8}, {256, 0, 12}, {256, 0, 248}, {512, 0, 504}, {1024, 0, 1016}, {4096, 0, 1016},
            {256, 256, 264}, {256, 768, 1016}, {512, 512, 1016}, {4096, 252, 260}};
        for (int[] r : rows) {
            Probe t = new Probe("promise 13: how many fours it is to the next POINTER of its page");
            t.x.anew(0, r[0]);
            t.segment("a", 1024, 0);
            t.imports("i", 1, true);
            t.due("the second at " + r[2], t.x.rebase(0, r[2], 1, 1), true);
            t.due("the first at " + r[1], t.x.bind(0, r[1], 0, 255), true);
            t.x.write();
            t.dueNumber("the first", 144 + r[1], 8, BIND | 255L << 24 | (long) (r[2] - r[1]) / 4 << 51);
            t.dueNumber("the second", 144 + r[2], 8, 1 | 1L << 36);
        }
    }

    private static void noStepToTheNextPage() {
        int[][] rows = {{256, 248, 256}, {256, 0, 256}, {256, 248, 1016}, {512, 504, 512}, {512, 0, 1016}};
        for (int[] r : rows) {
            Probe t = new Probe("promise 13: 0: none in its page");
            t.x.anew(0, r[0]);
            t.segment("a", 1024, 0);
            t.segment("b", 1024, 0);
            t.x.rebase(0, r[1], 1, 1);
            t.x.rebase(0, r[2], 2, 2);
            t.x.rebase(1, 0, 3, 3);
            t.x.write();
            t.dueNumber("the one at " + r[1], 216 + r[1], 8, 1 | 1L << 36);
            t.dueNumber("the one at " + r[2], 216 + r[2], 8, 2 | 2L << 36);
            t.dueNumber("that of the next SEGMENT", 216 + 1024, 8, 3 | 3L << 36);
        }
    }

    private static void importBits() {
        Written im = new Written("promise 13: bits 0 - 7 its LIBRARY, 8 WEAK, 9 - 31 where its NAME is", t -> {
            for (int k = 0; k < 20; k++) {
                t.imports(LONGEST.substring(0, 16 - k % 2), 1 + k % 3, k % 4 > 1);
            }
        });
        int fixups = im.u4(im.command(1) + 8);
        int nameAt = 0;
        for (int k = 0; k < 20; k++) {
            im.dueU4("IMPORT " + k, fixups + 32 + 4 * k, 1 + k % 3 | (k % 4 > 1 ? 256 : 0) | nameAt << 9);
            nameAt += 17 - k % 2;
        }
        im.dueU4("how many bytes FIXUPS have", im.command(1) + 12, 32 + 80 + nameAt);
    }

    private static void symbolAddresses() {
        Written im = new Written("promise 13: a SYMBOL at 0 and at the end of its SECTION", t -> {
            t.x.anew(1 << 30, 4096);
            t.segment("a", 1024, 0);
            t.segment("b", 1024, 0);
            t.section("s", 0, 0, 1024);
            t.section("t", 1, 24, 1000);
            t.symbol("one", 1, 0);
            t.symbol(LONGEST, 2, 1000);
            t.symbol("three", 2, 0);
        });
        int at = im.u4(im.command(2) + 8);
        int[][] due = {{1, 1, 0}, {5, 2, 4096 + 1024}, {22, 2, 4096 + 24}};
        for (int k = 0; k < 3; k++) {
            im.dueU4("a SYMBOL", at + 16 * k, due[k][0], 0x0F | due[k][1] << 8, (1 << 30) + due[k][2], 0);
        }
        im.dueText("STRINGS", at + 48, "\0one\0sixteen.bytes..!\0three\0");
        im.due("write()", im.size, at + 48 + 28);
    }

    private static void tellAllThatCanBe(Probe t) {
        for (int k = 0; k < 4; k++) {
            t.segment(LONGEST, 1024, 7);
        }
        for (int k = 0; k < 8; k++) {
            t.section(LONGEST, k % 4, 0, 1024);
        }
        for (int k = 0; k < 20; k++) {
            t.symbol(LONGEST, 1 + k % 8, 1024);
            t.imports(LONGEST, 3, true);
        }
        for (int k = 0; k < 100; k++) {
            t.x.bind(k % 4, 8 * k, k % 20, 255);
        }
    }

    private static void largest() {
        Written im = new Written("promise 13: the largest IMAGE that can be told", ImageTest::tellAllThatCanBe);
        im.due("write()", im.size, 6357);
        im.dueText("STRINGS end", 6357 - 35, "\0" + LONGEST + "\0" + LONGEST + "\0");
        Probe t = new Probe("promises 13, 18: the largest IMAGE is loaded");
        tellAllThatCanBe(t);
        t.due("write()", t.x.write(), 6357);
        t.due("no byte behind", t.x.image(6357), -1);
        t.dueLoad(0, 0, -1);
        t.dueCounts(4, 8, 20, 20, 100, 6357, 0, 4, 100, 20, 0, -1);
        t.dueVisit(99, 65536 + 3 * 1024 + 792, true, 19, 255);
    }

    private static void howManyBytes() {
        Probe t = new Probe("promise 13: how many bytes");
        t.dueCount(5, 0);
        t.due("write()", t.x.write(), 105);
        t.dueCount(5, 105);
        t.segment("a", 8, 0);
        t.dueCount(5, 105);
        t.due("write()", t.x.write(), 193);
        t.dueCount(5, 193);
        t.x.anew(0, 256);
        t.due("write()", t.x.write(), 105);
        t.dueCount(5, 105);
        t.due("no byte behind", t.x.image(105), -1);
    }

    private static void writtenAgain() {
        Probe t = new Probe("promise 13: the IMAGE is written of what is told, whatever it was");
        t.segment("a", 8, 0);
        t.x.write();
        t.due("damage", t.x.damage(0, 1), true);
        t.due("damage", t.x.damage(150, 9), true);
        t.due("write()", t.x.write(), 193);
        t.due("image(0)", t.x.image(0), 0xCF);
        t.due("image(150)", t.x.image(150), 0);
        t.x.cut(3);
        t.due("write()", t.x.write(), 193);
        t.due("image(3)", t.x.image(3), 0xFE);
        t.due("image(192)", t.x.image(192), 0);
        t.dueLoad(0, 0, -1);
        t.fill("filled", 0, 0);
        t.dueLoad(0, 0, -1);
        t.dueMemory(65536, 0);
        t.x.write();
        t.dueLoad(0, 0, -1);
        t.dueMemory(65536, 'f');
    }

    private static void imageEdges() {
        Probe t = new Probe("promise 14: NONE: there is none such");
        t.due("image(0) of none", t.x.image(0), -1);
        t.due("image(-1) of none", t.x.image(-1), -1);
        t.x.write();
        t.due("image(-1)", t.x.image(-1), -1);
        t.due("image(0)", t.x.image(0), 0xCF);
        t.due("image(1)", t.x.image(1), 0xFA);
        t.due("image(103)", t.x.image(103), 0);
        t.due("image(104)", t.x.image(104), 0);
        t.due("image(105)", t.x.image(105), -1);
        t.due("image(MIN)", t.x.image(Probe.MIN), -1);
        t.due("image(MAX)", t.x.image(Probe.MAX), -1);
        t.x.damage(104, 255);
        t.due("a byte of 255", t.x.image(104), 255);
        t.x.damage(104, 128);
        t.due("a byte of 128", t.x.image(104), 128);
        t.x.damage(104, 127);
        t.due("a byte of 127", t.x.image(104), 127);
    }

    private static void damagePlaces() {
        int[][] rows = {{-1, 0}, {0, 1}, {1, 1}, {103, 1}, {104, 1}, {105, 0}, {106, 0}, {6399, 0}, {6400, 0},
            {Probe.MIN, 0}, {Probe.MAX, 0}};
        for (int[] r : rows) {
            Probe t = new Probe("promise 15: false, if there is none such");
            t.due("damage(" + r[0] + ", 77) of none", t.x.damage(r[0], 77), false);
            t.x.write();
            t.due("damage(" + r[0] + ", 77)", t.x.damage(r[0], 77), r[1] == 1);
            t.due("image(" + r[0] + ")", t.x.image(r[0]), r[1] == 1 ? 77 : -1);
            t.dueCount(5, 105);
        }
    }

    private static void damageValues() {
        int[][] rows = {{-1, 0}, {0, 1}, {1, 1}, {127, 1}, {128, 1}, {254, 1}, {255, 1}, {256, 0}, {257, 0},
            {Probe.MIN, 0}, {Probe.MAX, 0}};
        for (int[] r : rows) {
            Probe t = new Probe("promise 15: false, if v is not 0 to 255");
            t.x.write();
            t.due("damage(1, " + r[0] + ")", t.x.damage(1, r[0]), r[1] == 1);
            t.due("image(1)", t.x.image(1), r[1] == 1 ? r[0] : 0xFA);
            t.due("image(0)", t.x.image(0), 0xCF);
            t.due("image(2)", t.x.image(2), 0xED);
        }
    }

    private static void refusedDamage() {
        Probe t = new Probe("promise 15: a byte that was cut is none");
        t.x.write();
        t.x.cut(50);
        t.due("damage(50, 1)", t.x.damage(50, 1), false);
        t.due("damage(49, 1)", t.x.damage(49, 1), true);
        t.dueCount(5, 50);
        t.x.write();
        t.due("image(50)", t.x.image(50), 0);
    }

    private static void cutEdges() {
        int[][] rows = {{-1, 0}, {0, 1}, {1, 1}, {104, 1}, {105, 1}, {106, 0}, {Probe.MIN, 0}, {Probe.MAX, 0}};
        for (int[] r : rows) {
            Probe t = new Probe("promise 16: false, if it has fewer, or n is below 0");
            t.due("cut(" + r[0] + ") of none", t.x.cut(r[0]), r[0] == 0);
            t.x.write();
            t.due("cut(" + r[0] + ")", t.x.cut(r[0]), r[1] == 1);
            t.dueCount(5, r[1] == 1 ? r[0] : 105);
        }
    }

    private static void cutBytesAreGone() {
        Probe t = new Probe("promise 16: the IMAGE has its first n bytes alone");
        t.x.write();
        t.due("cut(37)", t.x.cut(37), true);
        t.due("image(36)", t.x.image(36), 24);
        t.due("image(37)", t.x.image(37), -1);
        t.due("cut(38)", t.x.cut(38), false);
        t.due("cut(37) again", t.x.cut(37), true);
        t.dueCount(5, 37);
        t.due("cut(0)", t.x.cut(0), true);
        t.due("image(0)", t.x.image(0), -1);
        t.due("cut(1)", t.x.cut(1), false);
    }
}
