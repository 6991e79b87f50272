/** Promises 18 and 19: FAULTS of FIXUPS, chains and the slide. One method for each sentence that names an edge. */
public final class FixupFaultTest {
    private static final long MOST = Integer.MAX_VALUE;
    private static final long ALL_ONES = 0xFFFFFFFFL;
    private static final long BIND = 1L << 63;

    public static void main(String[] args) {
        onlyWithChains();
        fewerThan28Bytes();
        firstNumber();
        sixthNumber();
        seventhNumber();
        startsHaveNoFourBytes();
        startsTellHowMany();
        startsGoBeyond();
        moreThan64Imports();
        importsGoBeyond();
        importWithoutZero();
        importNameBeyond();
        segmentsWithoutPages();
        fewerThan22BytesLeft();
        pagesSize();
        pagesGoBeyond();
        pageSize();
        chainForm();
        pagesAddressIsRead();
        pagesAddress();
        morePagesThanSpan();
        firstPlaceMultipleOf4();
        firstPlaceWithinPage();
        firstPlaceWithinSpan();
        noFirstPlace();
        rebaseOtherBits();
        bindOtherBits();
        bindNoImport();
        bindNoExport();
        bindExportOfItsLibrary();
        bindExportOfItsName();
        fourBytesOn();
        nextWithinPage();
        nextWithinSpan();
        readAsTheImageHasThem();
        behindTheBytes();
        whereAPointerIs();
        mostPointers();
        slideBelowZero();
        slideAboveMost();
        slideOfEverySegment();
        slideWithoutAByte();
        Probe.finish();
    }

    private static Faults.Change u1(int at, int v) {
        return Faults.u1(at, v);
    }

    private static Faults.Change u2(int at, int v) {
        return Faults.u2(at, v);
    }

    private static Faults.Change u4(int at, long v) {
        return Faults.u4(at, v);
    }

    private static Faults.Change u8(int at, long v) {
        return Faults.u8(at, v);
    }

    private static void onlyWithChains() {
        Faults f = new Faults("FAULT 9: FIXUPS, if CHAINS is there", Images::small);
        f.fault(9, 160, u4(160, 1));
        f.loads(u4(160, 1), u4(128, 1)).dueCount(8, 0);
        f.loads(u4(140, 0), u4(128, 1));
        f.fault(9, 160, u4(140, 0));
    }

    private static void fewerThan28Bytes() {
        // Without a SEGMENT FIXUPS of 32 bytes are enough: 28 and STARTS.
        Faults f = new Faults("FAULT 9: fewer than 28 bytes (at the beginning)", Images::empty);
        f.fault(9, 72, u4(68, 0));
        f.fault(9, 72, u4(68, 27));
        f.fault(9, 76, u4(68, 28));
        f.fault(9, 76, u4(68, 31), u4(80, 28), u4(84, 28));
        f.loads(u4(68, 32));
        // STARTS may lie in the 28 bytes themselves: here in the seventh number, which is 0.
        f.loads(u4(68, 28), u4(76, 24), u4(80, 28), u4(84, 28));
        f.fault(9, 72, u4(68, 27), u4(76, 20), u4(80, 27), u4(84, 27));
    }

    private static void firstNumber() {
        Faults f = new Faults("FAULT 9: the first u4 is not 0 (at the beginning)", Images::small);
        f.loads(u4(160, 0));
        for (long v : new long[] {1, 256, 1 << 16, 1 << 24, MOST + 1, ALL_ONES}) {
            f.fault(9, 160, u4(160, v));
        }
    }

    private static void sixthNumber() {
        Faults f = new Faults("FAULT 9: the sixth is not 1 (at it)", Images::small);
        f.loads(u4(180, 1));
        for (long v : new long[] {0, 2, 3, 257, 1 + (1 << 16), 1 + (1 << 24), MOST + 2, ALL_ONES}) {
            f.fault(9, 180, u4(180, v));
        }
    }

    private static void seventhNumber() {
        Faults f = new Faults("FAULT 9: the seventh is not 0 (at it)", Images::small);
        f.loads(u4(184, 0));
        for (long v : new long[] {1, 2, 256, 1 << 16, 1 << 24, MOST + 1, ALL_ONES}) {
            f.fault(9, 184, u4(184, v));
        }
        f.fault(9, 180, u4(180, 0), u4(184, 1));
    }

    private static void startsHaveNoFourBytes() {
        // FIXUPS have 60 bytes; the last four of them are 1 and the first place of the page.
        Faults f = new Faults("FAULT 9: STARTS have no four bytes there (at the second)", Images::small);
        f.fault(9, 216, u4(164, 56));
        f.fault(9, 164, u4(164, 57));
        f.fault(9, 164, u4(164, 60));
        f.fault(9, 164, u4(164, MOST));
        f.fault(9, 164, u4(164, MOST + 1));
        f.fault(9, 164, u4(164, ALL_ONES));
        f.fault(9, 164, u4(164, ALL_ONES - 3));
        f.fault(9, 164, u4(164, ALL_ONES - 31));
        Faults none = new Faults("FAULT 9: STARTS of four bytes at the end", Images::empty);
        none.loads();
        none.fault(9, 76, u4(76, 29));
        none.loads(u4(68, 33), u4(76, 29));
        none.loads(u4(76, 0));
    }

    private static void startsTellHowMany() {
        Faults f = new Faults("FAULT 9: STARTS do not tell how many SEGMENTS there are (at them)", Images::small);
        f.loads(u4(188, 1));
        for (long v : new long[] {0, 2, 257, 1 + (1 << 16), 1 + (1 << 24), MOST + 2, ALL_ONES}) {
            f.fault(9, 188, u4(188, v));
        }
        Faults two = new Faults("FAULT 9: STARTS do not tell of two SEGMENTS (at them)", Images::rich);
        for (int v : new int[] {0, 1, 3}) {
            two.fault(9, 1092, u4(1092, v));
        }
        Faults none = new Faults("FAULT 9: STARTS do not tell of none (at them)", Images::empty);
        none.fault(9, 100, u4(100, 1));
    }

    private static void startsGoBeyond() {
        // STARTS of one SEGMENT have eight bytes: from 28 on they end at 36.
        Faults f = new Faults("FAULT 9: STARTS go beyond (at them)", Images::small, u8(168, 0), u4(192, 0));
        f.fault(9, 164, u4(140, 31));
        f.fault(9, 188, u4(140, 32));
        f.fault(9, 188, u4(140, 35));
        f.loads(u4(140, 36));
        f.loads(u4(140, 37));
        Faults four = new Faults("FAULT 9: STARTS of four SEGMENTS go beyond (at them)", Images::four,
            t -> t.patch((int) t.read(352, 4) + 8, 8, 0));
        four.loads(u4(356, 48));
        Probe t = four.spoilt(u4(356, 47));
        t.dueLoad(0, 9, (int) t.read(352, 4) + 28);
    }

    private static void moreThan64Imports() {
        // FIXUPS lie in the first SEGMENT's bytes, all 0: IMPORTS of no LIBRARY, whose NAMES are empty.
        Faults f = new Faults("FAULT 9: more than 64 IMPORTS (at the fifth)", Images::wide, u8(208, 216 | 1024L << 32),
            u8(216, 28L << 32), u8(224, 40 | 40L << 32), u8(232, 1L << 32), u4(244, 2));
        for (int many : new int[] {0, 1, 63, 64}) {
            f.loads(u4(232, many));
        }
        for (long many : new long[] {65, 66, 256 + 1, MOST, MOST + 1, ALL_ONES, 1L << 30}) {
            f.fault(9, 232, u4(232, many));
        }
        f.fault(9, 232, u4(232, 65), u4(224, ALL_ONES));
    }

    private static void importsGoBeyond() {
        // FIXUPS have 114 bytes, two IMPORTS eight; with a 0 in the last byte any place is a NAME's.
        Faults f = new Faults("FAULT 9: IMPORTS go beyond (at the third)", Images::rich, u4(1076, 0),
            u8(1170, 0), u8(456, 0), u8(764, 0));
        f.loads(u4(1072, 105));
        f.loads(u4(1072, 106));
        f.fault(9, 1072, u4(1072, 107));
        f.fault(9, 1072, u4(1072, 114));
        f.fault(9, 1072, u4(1072, MOST));
        f.fault(9, 1072, u4(1072, MOST + 1));
        f.fault(9, 1072, u4(1072, ALL_ONES));
        f.fault(9, 1072, u4(1072, ALL_ONES - 7));
        Faults none = new Faults("FAULT 9: no IMPORTS at the end of FIXUPS, or behind it", Images::small);
        none.loads(u4(168, 60));
        none.fault(9, 168, u4(168, 61));
        Faults one = new Faults("FAULT 9: one IMPORT goes beyond (at the third)", Images::small, u4(172, 0), u4(176, 1),
            u4(192, 0), u4(216, 0));
        one.loads(u4(168, 56));
        one.fault(9, 168, u4(168, 57));
    }

    private static void importWithoutZero() {
        // NAMES at 1168: weak, a 0, firm, a 0; FIXUPS end behind it.
        Faults f = new Faults("FAULT 9: no 0 lies there, or behind, within FIXUPS (at the IMPORT)", Images::rich);
        f.fault(9, 1164, u1(1177, 'x'));
        f.fault(9, 1160, u1(1177, 'x'), u1(1172, 'x'));
        f.fault(9, 1164, u4(452, 113));
        f.fault(9, 1160, u4(452, 108));
        f.fault(9, 1164, u4(452, 109));
        f.loads(u1(1172, 'x'));
        f.loads(u1(1177, 'x'), u4(1164, 2 | 256), u1(1178, 'x'));
        // A 0 behind FIXUPS is none within them.
        f.fault(9, 1164, u1(1177, 'x'), u1(1178, 0));
    }

    private static void importNameBeyond() {
        Faults f = new Faults("FAULT 9: its NAME lies at the last byte of FIXUPS, or behind (at the IMPORT)",
            Images::rich);
        f.loads(u4(1160, 257 | 9 << 9));
        f.fault(9, 1160, u4(1160, 257 | 10 << 9));
        f.fault(9, 1160, u4(1160, 257 | 0x7FFFFFL << 9));
        f.fault(9, 1160, u4(1160, 257 | 0x400000L << 9));
        f.fault(9, 1160, u4(1076, 114));
        f.fault(9, 1164, u4(1076, 109));
        f.fault(9, 1160, u4(1076, MOST));
        f.fault(9, 1160, u4(1076, MOST + 1));
        f.fault(9, 1160, u4(1076, ALL_ONES));
        f.fault(9, 1160, u4(1076, ALL_ONES - 1063));
        f.loads(u4(1076, 108), u4(1164, 258)).duePointer(65536 + 8, 9);
        // Without IMPORTS nothing lies where their NAMES are told to be.
        new Faults("FAULT 9: no IMPORTS, so no NAMES", Images::small).loads(u4(172, ALL_ONES));
    }

    private static void segmentsWithoutPages() {
        Faults f = new Faults("FAULT 9: PAGES of each SEGMENT that has some", Images::rich);
        f.loads(u4(1096, 0)).dueCount(8, 2);
        f.loads(u4(1100, 0)).dueCount(8, 3);
        f.loads(u8(1096, 0)).dueCount(8, 0);
        f.loads(u4(1096, 0), u2(1110, 9)).dueCount(8, 2);
    }

    private static void fewerThan22BytesLeft() {
        // From the beginning of STARTS there are 32 bytes of FIXUPS: PAGES may begin at 10 of them.
        Faults f = new Faults("FAULT 9: fewer than 22 bytes are left (at its u4 in STARTS)", Images::small);
        f.fault(9, 198, u4(192, 10));
        f.fault(9, 192, u4(192, 11));
        f.fault(9, 192, u4(192, 32));
        f.fault(9, 192, u4(192, MOST));
        f.fault(9, 192, u4(192, MOST + 1));
        f.fault(9, 192, u4(192, ALL_ONES));
        f.fault(9, 192, u4(192, ALL_ONES - 21));
        f.fault(9, 192, u4(192, ALL_ONES - 27));
        // PAGES of no page have 22 bytes.
        Faults none = new Faults("FAULT 9: fewer than 22 bytes are left (at its u4 in STARTS)", Images::small,
            u8(168, 0), u4(196, 22), u2(216, 0));
        none.fault(9, 192, u4(140, 57));
        none.loads(u4(140, 58)).dueCount(8, 0);
        none.loads(u4(140, 59));
        new Faults("FAULT 9: fewer than 22 bytes for the second SEGMENT", Images::rich).fault(9, 1100, u4(1100, 65));
    }

    private static void pagesSize() {
        Faults f = new Faults("FAULT 9: its u4 is not 22 and 2 for each page (at t)", Images::small, u4(140, 64));
        long[] bad = {0, 20, 22, 23, 25, 26, 24 + 256, 24 + (1 << 16), 24 + (1 << 24), MOST + 25, ALL_ONES};
        for (long v : bad) {
            f.fault(9, 196, u4(196, v));
        }
        f.loads(u4(196, 24));
        f.fault(9, 196, u2(216, 0));
        f.fault(9, 196, u2(216, 2));
        f.fault(9, 196, u2(216, 0xFFFF));
        f.fault(9, 196, u2(216, 0x101));
        f.loads(u4(196, 22), u2(216, 0)).dueCount(8, 0);
        f.fault(9, 196, u4(196, 20), u2(216, 0xFFFF));
    }

    private static void pagesGoBeyond() {
        Faults f = new Faults("FAULT 9: PAGES go beyond (at t)", Images::small, u8(168, 0));
        f.fault(9, 196, u4(140, 58));
        f.fault(9, 196, u4(140, 59));
        f.loads(u4(140, 60)).dueCount(8, 1);
        f.loads(u4(140, 61));
        f.fault(9, 196, u2(216, 2), u4(196, 26));
        f.fault(9, 196, u2(216, 0xFFFF), u4(196, 22 + 2 * 0xFFFF));
        f.fault(9, 196, u4(140, 59), u2(200, 257));
    }

    private static void pageSize() {
        Faults f = new Faults("FAULT 9: PAGE no power of two from 256 to 4096 (at t + 4)", Images::small);
        for (int good = 256; good <= 4096; good *= 2) {
            f.loads(u2(200, good));
        }
        int[] bad = {0, 1, 128, 255, 257, 384, 511, 513, 1023, 1025, 3072, 4095, 4097, 8192, 0x8000, 0xFFFF};
        for (int v : bad) {
            f.fault(9, 200, u2(200, v));
        }
        f.fault(9, 200, u2(200, 0), u2(202, 3));
    }

    private static void chainForm() {
        Faults f = new Faults("FAULT 9: not 2 (at t + 6)", Images::small);
        f.loads(u2(202, 2));
        for (int v : new int[] {0, 1, 3, 258, 0x8002, 0xFFFF}) {
            f.fault(9, 202, u2(202, v));
        }
        f.fault(9, 202, u2(202, 3), u8(204, -1));
    }

    private static void pagesAddressIsRead() {
        Faults f = new Faults("FAULT 5: the u8 of PAGES is read (at t + 8)", Images::small);
        for (long v : new long[] {MOST + 1, MOST + 2, 1L << 32, 1L << 40, Long.MAX_VALUE, Long.MIN_VALUE, -1}) {
            f.fault(5, 204, u8(204, v));
        }
        f.fault(9, 204, u8(204, MOST));
        Faults second = new Faults("FAULT 5: the u8 of the second PAGES is read (at t + 8)", Images::rich);
        second.fault(5, 1140, u8(1140, 512 + (1L << 32)));
        second.fault(5, 1140, u8(1140, -512));
    }

    private static void pagesAddress() {
        Faults f = new Faults("FAULT 9: the u8 is not ADDRESS less the first SEGMENT's ADDRESS (at t + 8)",
            Images::rich);
        f.loads(u8(1112, 0), u8(1140, 512));
        f.fault(9, 1112, u8(1112, 1));
        f.fault(9, 1112, u8(1112, 65536));
        f.fault(9, 1140, u8(1140, 511));
        f.fault(9, 1140, u8(1140, 513));
        f.fault(9, 1140, u8(1140, 0));
        f.fault(9, 1140, u8(1140, 65536 + 512));
        // The second lies ahead of the first: no number that is read tells that.
        Faults ahead = new Faults("FAULT 9: a SEGMENT that lies ahead of the first", Images::rich, u8(208, 65536 - 512),
            u8(288, 65536 - 512), u8(368, 65536 - 412));
        ahead.fault(9, 1140);
        ahead.fault(5, 1140, u8(1140, -512));
        ahead.fault(9, 1140, u8(1140, 0));
        ahead.loads(u4(1100, 0)).dueCount(8, 3);
        Faults far = new Faults("FAULT 9: a SEGMENT that lies far behind the first", Images::rich, u8(208, MOST - 512),
            u8(288, MOST - 512), u8(368, MOST - 412));
        far.fault(9, 1140);
        far.loads(u8(1140, MOST - 512 - 65536)).dueVisit(3, MOST - 508, true, 1, 3);
    }

    private static void morePagesThanSpan() {
        String title = "FAULT 9: more pages than SPAN by PAGE, filled up (at t + 20)";
        // The second SEGMENT's PAGES at 1132 have room for a third page.
        Faults more = new Faults(title, Images::rich, u4(1132, 28), u2(1152, 3), u2(1158, 0xFFFF));
        more.fault(9, 1152);
        more.fault(9, 1152, u8(216, 511));
        more.loads(u8(216, 513)).dueCount(8, 5);
        more.loads(u8(216, 768)).dueCount(8, 5);
        more.loads(u8(216, 769)).dueCount(8, 5);
        Faults.Change one = t -> t.patch(1104, 4, 24).patch(1124, 2, 1);
        Faults f = new Faults(title, Images::rich);
        f.loads().dueCount(8, 5);
        f.loads(one).dueCount(8, 4);
        f.loads(u4(1104, 22), u2(1124, 0)).dueCount(8, 2);
        Faults fewer = new Faults(title, Images::rich, u8(80, 200), u8(144, 0));
        fewer.loads(u8(64, 512));
        fewer.fault(10, 1128, u8(64, 257));
        fewer.fault(9, 1124, u8(64, 256));
        fewer.loads(u8(64, 256), one).dueCount(8, 4);
        fewer.loads(u8(64, 200), one).dueCount(8, 4);
        fewer.fault(9, 1124, u2(1108, 512));
        fewer.loads(u2(1108, 512), one);
        fewer.fault(9, 1124, u2(1108, 4096));
        Faults empty = new Faults("FAULT 9: more pages than a SPAN of 0 has (at t + 20)", Images::small, u8(64, 0),
            u8(80, 0));
        empty.fault(9, 216);
        empty.loads(u4(196, 22), u2(216, 0)).dueCount(8, 0);
    }

    private static void firstPlaceMultipleOf4() {
        Faults f = new Faults("FAULT 10: its first place is no multiple of 4 (at its u2)", Images::small, u8(152, 0));
        for (int good : new int[] {0, 4, 8, 12, 16}) {
            f.loads(u2(218, good)).dueVisit(0, 0, 65536 + good);
        }
        for (int bad : new int[] {1, 2, 3, 5, 6, 7, 9, 10, 11, 247, 0xFFFD, 0xFFFE}) {
            f.fault(10, 218, u2(218, bad));
        }
    }

    private static void firstPlaceWithinPage() {
        Faults f = new Faults("FAULT 10: from it eight bytes are not within the page (at its u2)", Images::small);
        f.loads(u2(218, 244)).dueVisit(0, 0, 65536 + 244);
        f.loads(u2(218, 248)).dueVisit(0, 0, 65536 + 248);
        for (int bad : new int[] {252, 256, 260, 0x7FFC, 0x8000, 0xFFF8, 0xFFFC}) {
            f.fault(10, 218, u2(218, bad));
            // The SPAN goes on behind the page.
            f.fault(10, 218, u2(218, bad), u8(64, 16384));
        }
        Faults large = new Faults("FAULT 10: a page of 4096 bytes", Images::small, u8(64, 16384), u2(200, 4096));
        large.loads(u2(218, 252));
        large.loads(u2(218, 4088)).dueVisit(0, 0, 65536 + 4088);
        large.fault(10, 218, u2(218, 4092));
        Faults second = new Faults("FAULT 10: the first place of a page behind the first (at its u2)", Images::rich);
        second.loads(u2(1128, 248)).dueVisit(2, 0, 65536 + 256 + 248);
        second.fault(10, 1128, u2(1128, 252));
        second.fault(10, 1156, u2(1156, 252));
        second.fault(10, 1126, u2(1126, 2), u2(1128, 252));
    }

    private static void firstPlaceWithinSpan() {
        Faults f = new Faults("FAULT 10: from it eight bytes are not within the SPAN (at its u2)", Images::small);
        f.loads(u8(64, 24), u2(218, 16));
        f.fault(10, 218, u8(64, 23), u2(218, 16));
        f.loads(u8(64, 20), u2(218, 12));
        f.fault(10, 218, u8(64, 19), u2(218, 12));
        f.loads(u8(64, 8), u8(80, 8), u2(218, 0)).dueCount(8, 1);
        f.fault(10, 218, u8(64, 7), u8(80, 7), u2(218, 0));
        f.fault(10, 218, u8(64, 8), u8(80, 8), u2(218, 4));
        Faults second = new Faults("FAULT 10: the last page has less of the SPAN (at its u2)", Images::rich,
            u8(80, 256), u8(144, 0));
        second.loads(u8(64, 256 + 16));
        second.fault(10, 1128, u8(64, 256 + 15));
        second.loads(u8(64, 256 + 12), u2(1128, 4));
        second.fault(10, 1128, u8(64, 256 + 8), u2(1128, 4));
    }

    private static void noFirstPlace() {
        Faults f = new Faults("FAULT 10: 0xFFFF is no first place", Images::rich);
        f.loads(u2(1126, 0xFFFF)).dueCount(8, 3);
        f.loads(u2(1128, 0xFFFF)).dueCount(8, 4);
        f.loads(u4(1126, ALL_ONES), u4(1154, ALL_ONES)).dueCount(8, 0);
        f.fault(10, 1126, u2(1126, 0xFFFE));
    }

    private static void rebaseOtherBits() {
        Faults f = new Faults("FAULT 11: a REBASE's other bits are not 0 (at the POINTER)", Images::small);
        for (int bit = 0; bit < 63; bit++) {
            if (bit < 44) {
                f.loads(u8(152, 1L << bit));
            } else if (bit < 51) {
                f.fault(11, 8, u8(152, 1L << bit));
            }
        }
        f.loads(u8(152, (1L << 44) - 1)).dueVisit(0, 65544, false, (1L << 36) - 1, 255);
        f.fault(11, 8, u8(152, 0x7FL << 44));
    }

    private static void bindOtherBits() {
        Faults f = new Faults("FAULT 11: a BIND's other bits are not 0 (at the POINTER)", Images::rich);
        for (int bit = 24; bit < 51; bit++) {
            if (bit < 32) {
                f.loads(u8(464, BIND | 1L << bit));
            } else {
                f.fault(11, 8, u8(464, BIND | 1L << bit));
            }
        }
        f.loads(u8(464, BIND | 255L << 24)).dueVisit(1, 65544, true, 0, 255);
        f.fault(11, 8, u8(464, BIND | 1 | 1L << 44));
    }

    private static void bindNoImport() {
        Faults f = new Faults("FAULT 11: a BIND's IMPORT is none (at the POINTER)", Images::rich);
        f.loads(u8(464, BIND));
        f.loads(u8(464, BIND | 1)).dueVisit(1, 2, 1);
        for (int bad : new int[] {2, 3, 63, 64, 65, 256, 257, 1 << 16, 1 << 23, (1 << 24) - 1}) {
            f.fault(11, 8, u8(464, BIND | bad));
        }
        Faults none = new Faults("FAULT 11: a BIND without any IMPORT (at the POINTER)", Images::small);
        none.fault(11, 8, u8(152, BIND));
        Faults one = new Faults("FAULT 11: the last IMPORT there is", Images::rich, u8(764, 0), u4(1080, 1));
        one.loads(u8(464, BIND));
        one.fault(11, 8, u8(464, BIND | 1));
    }

    private static void bindNoExport() {
        Faults f = new Faults("FAULT 12: it is not WEAK and no EXPORT of its LIBRARY has its NAME (at the POINTER)",
            Images::rich);
        f.loads(u8(464, BIND)).duePointer(65544, 0);
        f.fault(12, 8, u1(1161, 0));
        f.loads(u1(1161, 0), Faults.export("weak", 1, 5)).duePointer(65544, 14);
        f.loads(Faults.export("weak", 1, 5)).duePointer(65544, 14);
        // An IMPORT that none is bound to needs no EXPORT.
        f.loads(u1(1161, 0), u8(464, 0));
        f.fault(12, 8, u1(1161, 0), u8(464, BIND | 1L << 51));
    }

    private static void bindExportOfItsLibrary() {
        Faults f = new Faults("FAULT 12: an EXPORT of its LIBRARY", Images::rich, u1(1161, 0));
        f.fault(12, 8, Faults.export("weak", 2, 5), Faults.export("weak", 3, 6));
        f.loads(Faults.export("weak", 2, 5), u1(1160, 2)).duePointer(65544, 14);
        f.loads(Faults.export("weak", 3, 5), u1(1160, 3)).duePointer(65544, 14);
        for (int library : new int[] {0, 4, 127, 128, 129, 255}) {
            f.fault(12, 8, Faults.export("weak", 1, 5), u1(1160, library));
        }
    }

    private static void bindExportOfItsName() {
        Faults f = new Faults("FAULT 12: an EXPORT that has its NAME", Images::rich, u1(1161, 0));
        for (String name : new String[] {"wea", "weakx", "eak", "Weak", "w"}) {
            f.fault(12, 8, Faults.export(name, 1, 5));
        }
        // A NAME is what lies ahead of the first 0, whatever that is.
        f.loads(Faults.export("eak", 1, 5), u4(1160, 1 | 1 << 9)).duePointer(65544, 14);
        f.loads(Faults.export("weakxfirm", 1, 5), u1(1172, 'x')).duePointer(65544, 14);
        f.fault(12, 8, Faults.export("weak", 1, 5), u1(1172, 'x'));
        f.fault(12, 8, Faults.export("weak", 1, 5), u1(1171, 0x6B | 128));
        f.fault(12, 8, Faults.export("weak", 1, 5), u1(1171, 0));
        f.fault(12, 8, Faults.export("weak", 1, 5), u4(1160, 1 | 4 << 9));
        f.fault(12, 8, Faults.export("weak", 1, 5), u1(1168, 0));
    }

    private static void fourBytesOn() {
        Faults f = new Faults("FAULT 10: the one behind it is 4 bytes on (at the POINTER)", Images::small);
        f.loads(u8(152, 0)).dueCount(8, 1);
        f.fault(10, 8, u8(152, 1L << 51));
        f.loads(u8(152, 2L << 51)).dueCount(8, 2);
        f.loads(u8(152, 3L << 51)).dueVisit(1, 0, 65536 + 20);
        Faults bind = new Faults("FAULT 10: the one behind a BIND is 4 bytes on (at the POINTER)", Images::rich);
        bind.fault(10, 8, u8(464, BIND | 1L << 51));
        bind.loads(u8(464, BIND | 2L << 51)).dueCount(8, 6);
    }

    private static void nextWithinPage() {
        Faults f = new Faults("FAULT 10: the one behind it has not its eight bytes within the page (at the POINTER)",
            Images::small, u8(64, 16384));
        f.loads(u8(152, 59L << 51)).dueVisit(1, 0, 65536 + 244);
        f.loads(u8(152, 60L << 51)).dueVisit(1, 0, 65536 + 248);
        f.fault(10, 8, u8(152, 61L << 51));
        f.fault(10, 8, u8(152, 62L << 51));
        f.fault(10, 8, u8(152, 0xFFFL << 51));
        f.loads(u8(152, 61L << 51), u2(200, 512)).dueVisit(1, 0, 65536 + 252);
        f.loads(u8(152, 1020L << 51), u2(200, 4096)).dueVisit(1, 0, 65536 + 4088);
        f.fault(10, 8, u8(152, 1021L << 51), u2(200, 4096));
        f.fault(10, 8, u8(152, 0xFFFL << 51), u2(200, 4096));
        Faults second = new Faults("FAULT 10: the one behind it, in a page behind the first", Images::rich);
        second.loads(u8(720, 60L << 51)).dueVisit(3, 0, 65536 + 504);
        second.fault(10, 264, u8(720, 61L << 51));
    }

    private static void nextWithinSpan() {
        Faults f = new Faults("FAULT 10: the one behind it has not its eight bytes within the SPAN (at the POINTER)",
            Images::small);
        f.loads(u8(152, 2L << 51), u8(64, 24)).dueCount(8, 2);
        f.fault(10, 8, u8(152, 2L << 51), u8(64, 23));
        f.loads(u8(152, 3L << 51), u8(64, 28));
        f.fault(10, 8, u8(152, 3L << 51), u8(64, 27));
        f.fault(10, 8, u8(152, 2L << 51), u8(64, 16));
        f.loads(u8(152, 60L << 51), u8(64, 256));
        f.fault(10, 8, u8(152, 60L << 51), u8(64, 255));
    }

    private static void readAsTheImageHasThem() {
        // Both SEGMENTS take the first one's bytes: what a POINTER of the one is set to is not what the other reads.
        Faults f = new Faults("POINTERS are read as the IMAGE has them", Images::rich, u8(224, 456), u2(1154, 0));
        Probe t = f.loads(u4(1156, 0xFFFF));
        t.dueCount(8, 5);
        t.dueVisit(3, 65536 + 512, false, 70000, 5);
        t.dueVisit(4, 65536 + 520, true, 0, 9);
        // A POINTER over the end of its SEGMENT's bytes: what lies behind them in the IMAGE is not its own.
        Faults over = new Faults("POINTERS are read as the IMAGE has them, behind its bytes 0", Images::small,
            u8(80, 12));
        over.loads(u8(152, (1L << 44) - 1)).dueVisit(0, 65544, false, ALL_ONES, 0);
        over.loads(u8(152, BIND | ALL_ONES)).dueVisit(0, 65544, false, ALL_ONES, 0);
    }

    private static void behindTheBytes() {
        Faults f = new Faults("a POINTER behind its SEGMENT's bytes reads as 0", Images::small);
        Probe t = f.loads(u2(218, 16));
        t.dueVisit(0, 65552, false, 0, 0);
        t.duePointer(65552, 0);
        Probe u = f.spoilt(u2(218, 248));
        u.dueLoad(9, 0, -1);
        u.dueVisit(0, 65536 + 9 + 248, false, 0, 0);
        u.duePointer(65536 + 9 + 248, 9);
    }

    private static void whereAPointerIs() {
        Faults f = new Faults("11, 12 and 10 at the POINTER's address less the first ADDRESS", Images::rich);
        f.fault(11, 0, u1(456 + 5, 16));
        f.fault(11, 8, u1(456 + 13, 16));
        f.fault(11, 264, u1(456 + 264 + 5, 16));
        f.fault(11, 512 + 4, u1(760 + 4 + 5, 16));
        f.fault(11, 512 + 256, u1(760 + 256 + 5, 16));
        f.fault(12, 512 + 4, u1(1164, 3));
        f.fault(10, 512 + 4, u8(764, BIND | 1 | 1L << 51));
        f.fault(10, 512 + 256, u8(760 + 256, 63L << 51));
        // Told with a slide, the place is the same.
        Probe t = f.spoilt(u1(760 + 4 + 5, 16));
        t.dueLoad(4096, 11, 516);
        t.dueLoad(-4096, 11, 516);
    }

    private static void mostPointers() {
        Probe t = new Probe("promise 18: as many POINTERS as 1024 bytes have");
        t.segment("a", 1024, 0);
        for (int k = 0; k < 100; k++) {
            t.x.rebase(0, 8 * k, k, 0);
        }
        t.x.write();
        for (int k = 99; k < 127; k++) {
            // The last of each page of 32 pointers ends its chain.
            t.x.damage(144 + 8 * k + 6, k % 32 == 31 ? 0 : 16);
        }
        t.dueLoad(0, 0, -1);
        t.dueCount(8, 128);
        t.dueVisit(127, 65536 + 1016, false, 0, 0);
        t.dueVisit(99, 65536 + 792, false, 99, 0);
        t.dueNoVisit(128, 0);
    }

    private static void slideBelowZero() {
        Faults f = new Faults("FAULT 13: with the slide a byte would be below 0 (at 0)", Images::small);
        int[][] rows = {{-65535, 0}, {-65536, 0}, {-65537, 13}, {-65538, 13}, {Probe.MIN, 13}, {Probe.MIN + 1, 13}};
        for (int[] r : rows) {
            f.spoilt().dueLoad(r[0], r[1], r[1] == 0 ? -1 : 0);
        }
        f.spoilt(u8(56, 0)).dueLoad(-1, 13, 0);
        f.spoilt(u8(56, 0)).dueLoad(0, 0, -1);
        f.spoilt(u8(56, 1)).dueLoad(-1, 0, -1);
        Probe t = f.spoilt(u8(56, MOST - 256));
        t.dueLoad(-(int) MOST + 256, 0, -1);
        t.dueMemory(0, 0);
        t.dueLoad(-(int) MOST + 255, 13, 0);
    }

    private static void slideAboveMost() {
        Faults f = new Faults("FAULT 13: with the slide a byte would be above 2^31 - 1 (at 0)", Images::small);
        int most = Probe.MAX - 65536 - 255;
        int[][] rows = {{most - 1, 0}, {most, 0}, {most + 1, 13}, {most + 2, 13}, {Probe.MAX, 13}};
        for (int[] r : rows) {
            f.spoilt().dueLoad(r[0], r[1], r[1] == 0 ? -1 : 0);
        }
        Probe t = f.spoilt(u8(56, MOST - 256));
        t.dueLoad(1, 0, -1);
        t.dueMemory(Probe.MAX, 0);
        t.dueLoad(2, 13, 0);
        Probe one = f.spoilt(u8(56, 0), u8(64, 1), u8(80, 1), u4(192, 0));
        one.dueLoad(Probe.MAX, 0, -1);
        one.dueMemory(Probe.MAX, 0);
        one.dueLoad(-1, 13, 0);
        one.dueLoad(0, 0, -1);
        Probe next = f.spoilt(u8(56, 1), u8(64, 1), u8(80, 1), u4(192, 0));
        next.dueLoad(Probe.MAX, 13, 0);
        next.dueLoad(Probe.MAX - 1, 0, -1);
        Probe two = f.spoilt(u8(56, 0), u8(64, 2), u8(80, 1), u4(192, 0));
        two.dueLoad(Probe.MAX, 13, 0);
        two.dueLoad(Probe.MAX - 1, 0, -1);
    }

    private static void slideOfEverySegment() {
        Faults f = new Faults("FAULT 13: a byte of any SEGMENT", Images::four);
        for (int s = 0; s < 4; s++) {
            Probe t = f.spoilt(u8(32 + 72 * s + 24, 4096));
            t.dueLoad(-4096, 0, -1);
            t.dueLoad(-4097, 13, 0);
            Probe u = f.spoilt(u8(32 + 72 * s + 24, 1 << 20));
            u.dueLoad(Probe.MAX - (1 << 20) - 255, 0, -1);
            u.dueLoad(Probe.MAX - (1 << 20) - 254, 13, 0);
        }
    }

    private static void slideWithoutAByte() {
        Faults f = new Faults("FAULT 13: without a byte none is out of range", Images::small, u8(64, 0),
            u8(80, 0), u4(192, 0));
        for (int slide : new int[] {-65537, Probe.MIN, Probe.MAX, 0}) {
            Probe t = f.spoilt();
            t.dueLoad(slide, 0, -1);
            t.dueCount(7, 1);
            t.dueMemory(65536 + slide, -1);
        }
        new Faults("FAULT 13: without a SEGMENT", Images::empty).spoilt().dueLoad(Probe.MIN, 0, -1);
    }
}
