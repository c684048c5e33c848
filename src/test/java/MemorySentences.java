/** Tests of the sentences about memory, registers, flags, and how a place is looked up. */
final class MemorySentences {
    private static final int READ = 0;
    private static final int WRITE = 1;
    private static final int FETCH = 2;
    private static final long NO_FETCH = 1L << 63;
    private static final long LARGE = 128;
    /** The entries through which place 0x5000 is looked up. */
    private static final int[] ENTRIES = {0x1000, 0x2000, 0x3000, Bench.LAST_TABLE + 8 * 5};
    private static final int[] SINGLE = {Bench.CARRY, Bench.PARITY, Bench.HALF, Bench.ZERO, Bench.SIGN, Bench.OVER};

    private MemorySentences() {
    }

    static void all() {
        Sentences.test("MEMORY has 32768 bytes; beyond them all bytes are 0, and what is stored there is lost.",
                MemorySentences::memory);
        Sentences.test("Numbers of more bytes have the lowest byte first.", MemorySentences::lowestFirst);
        Sentences.test("REGISTERS 0 .. 15 (0 A, 1 C, 2 D, 3 B, 4 the STACK's, 5 the FRAME's, 6 SOURCE, 7 GOAL) have 64 bits; "
                + "NEXT is the place of the next instruction; the LEVEL is 0 or 3; TABLE, FAULT, ENTRY, MASK have 64 bits.",
                MemorySentences::registers);
        Sentences.test("All is 0 at first.", MemorySentences::atFirst);
        Sentences.test("FLAGS, as a number: 1 CARRY, 4 PARITY, 16 HALF, 64 ZERO, 128 SIGN, 2048 OVER, and 1024 DOWN.",
                MemorySentences::flags);
        Sentences.test("UNDEFINED is a number: a flag that is said to be undefined becomes what it has for that flag.",
                MemorySentences::undefined);
        Sentences.test("PLACES have 64 bits; one whose bits 47 .. 63 aren't all alike is WRONG.", MemorySentences::wrongPlaces);
        Sentences.test("A place is LOOKED UP, for a read, a write or a FETCH: the table at TABLE's bits 12 .. 51 (times 4096) "
                + "has entries of 8 bytes; bits 39 .. 47 of the place tell which;", MemorySentences::firstTable);
        Sentences.test("its bits 12 .. 51 are the next table's, where bits 30 .. 38 tell the entry, then 21 .. 29, then 12 .. "
                + "20;", MemorySentences::nextTables);
        Sentences.test("the last entry's bits 12 .. 51 are those of the byte's place in memory, whose lowest 12 bits are the "
                + "place's;", MemorySentences::lastEntry);
        Sentences.test("but if the third entry has bit 7: its bits 21 .. 51, and the place's lowest 21.",
                MemorySentences::largePages);
        Sentences.test("Of an entry: bit 0 it is there, 1 may be written, 2 may be used at level 3, 63 nothing may be FETCHED.",
                MemorySentences::bitsOfAnEntry);
        Sentences.test("It is REFUSED at the first entry that isn't there (code 0), or that has bit 7 on the first or second "
                + "level, or bits 13 .. 20 on the third with bit 7 (code 9);", MemorySentences::firstRefusal);
        Sentences.test("else (code 1) if a write meets an entry that may not be written, or level 3 one that it may not use, "
                + "or a FETCH one with bit 63, on any level.", MemorySentences::forbidden);
        Sentences.test("The CODE has 2 more for a write, 4 at level 3, 16 for a FETCH.", MemorySentences::codes);
        Sentences.test("(Level 0 may use all, and doesn't write what may not be.)", MemorySentences::levelZero);
        Sentences.test("Of several bytes the lowest place is looked up first; all of an operand's before it is used, a place "
                + "that is read and written as for a write.", MemorySentences::severalBytes);
        Sentences.test("A place beyond the last one is place 0.", MemorySentences::aroundTheEnd);
    }

    private static void memory() {
        long[] beyond = {0x8000, 0xF000, 0x10000, 0x80000000L, 0x100000000L, 0x100005000L, 0x0008000000000000L,
            0x000FFFFFFFFFF000L};
        for (long place : beyond) {
            Bench bench = new Bench().store(0, 0x1111).store(0x5000, 0x5555).store(0x7FF8, 0x7777).map(5, place | 7);
            bench.set(3, 0x5000).set(0, -1).done("48 89 03").set(1, -1).done("48 8B 0B").has("beyond memory", 1, 0);
            bench.holds("not lost", 0, 0x1111).holds("not lost", 0x5000, 0x5555).holds("not lost", 0x7FF8, 0x7777);
            bench.set(4, 0x5008).done("50").done("5A").has("PUSH and POP beyond memory", 2, 0);
            bench.set(7, 0x5000).set(6, 0x5000).done("48 AB").done("48 AD").has("strings beyond memory", 0, 0);
            // Two bytes 0: ADD e b, g b.
            bench.set(0, Bench.TOP + 1).store(Bench.TOP, 0x500).set(Bench.NEXT, 0x5000).goesOn("code beyond memory", 0x5002);
            bench.holds("code beyond memory", Bench.TOP, 0x600);
            bench.set(Bench.TABLE, place);
            Bench.due("a table beyond memory", bench.look(0x5000, READ), -2);
        }
        Bench bench = new Bench().map(8, 0x8007).set(3, 0x7FFC).set(0, -1).set(1, -1);
        bench.done("48 89 03").holds("memory's last 4 bytes", 0x7FF8, 0xFFFFFFFF00000000L).done("48 8B 0B");
        bench.has("the 4 beyond are lost", 1, 0xFFFFFFFFL);
        bench.at(0x7FFF, 0x7FFF, "B8").goesOn("a number beyond memory", 0x8004).has("a number beyond memory", 0, 0);
        for (long more : new long[] {0x8000, 0x10000, 0x100000000L}) {
            bench = new Bench().set(Bench.TABLE, 0x1000 + more);
            Bench.due("a table beyond memory isn't one in it", bench.look(0x6000, READ), -2);
        }
        // Memory's last 8 bytes are a table's entry as good as any other.
        bench = new Bench().ends().store(0x7FF8, 0x2007).set(Bench.TABLE, 0x7000);
        Bench.due("memory's last entry", bench.look(-1L, READ), 0x7FFF);
        bench = new Bench().map(5, 7).store(0, 0x8877665544332211L).set(3, 0x5000);
        bench.done("48 8B 03").has("memory's first bytes", 0, 0x8877665544332211L);
        bench.done("C6 03 99").holds("memory's first byte", 0, 0x8877665544332299L);
        bench.at(0, 0x5000, "F9").goesOn("code in memory's first byte", 0x5001).has("its CARRY", Bench.FLAGS, Bench.CARRY);
    }

    private static void lowestFirst() {
        Bench bench = new Bench().bytes(Bench.DATA, "01 02 03 04 05 06 07 88").set(3, Bench.DATA);
        bench.done("48 8B 03").has("8 bytes", 0, 0x8807060504030201L).done("8B 03").has("4 bytes", 0, 0x04030201L);
        bench.set(0, 0).done("66 8B 03").has("2 bytes", 0, 0x0201);
        bench.done("48 B8 11 12 13 14 15 16 17 18").has("a number", 0, 0x1817161514131211L);
        bench.done("48 8D 80 01 02 00 00").has("a displacement", 0, 0x1817161514131412L);
        bench.set(0, 0x8877665544332211L).done("48 89 03").bytes(Bench.DATA, "00");
        bench.holds("a write", Bench.DATA, 0x8877665544332200L);
        bench.done("50").done("58").has("the stack's", 0, 0x8877665544332211L)
                .holds("the stack's", Bench.TOP - 7, 0x88776655443322L);
        bench.set(4, Bench.TOP).done("66 50").done("66 59").has("the stack's 2", 1, 0x2211);
        bench.goes("EB 10", Bench.CODE + 0x12).goes("E9 01 02 00 00", Bench.CODE + 5 + 0x201);
        bench.store(Bench.TOP, 0x123456).set(4, Bench.TOP).goes("C2 01 02", 0x123456)
                .has("C2's number", 4, Bench.TOP + 8 + 0x201);
    }

    private static void registers() {
        long[] numbers = {0, -1, 1, Long.MIN_VALUE, Long.MAX_VALUE, 0x80000000L, 0x100000000L};
        for (long number : numbers) {
            Bench bench = new Bench();
            for (int register = 0; register < 20; register++) {
                bench.set(register, number - register);
            }
            for (int register = 0; register < 20; register++) {
                bench.has("64 bits", register, number - register);
            }
        }
        for (int register = 0; register < 16; register++) {
            Bench bench = new Bench().set(register, -1);
            bench.done(Bench.hex(0x48 | register >> 3, 1) + "FF" + Bench.hex(0xC0 | register & 7, 1))
                    .has("-1 and 1", register, 0);
            bench.done(Bench.hex(0x48 | register >> 3, 1) + "FF" + Bench.hex(0xC8 | register & 7, 1))
                    .has("0 less 1", register, -1);
        }
        Bench bench = new Bench().set(3, -8).page("8B 03", -8, 0).set(3, Bench.FIRST_WRONG - 1)
                .page("8A 03", Bench.FIRST_WRONG - 1, 0);
        bench.set(0, 2).set(1, 3).set(2, 5).set(3, 7).set(5, Bench.DATA).store(Bench.DATA, 0x99).set(6, Bench.DATA)
                .set(7, Bench.DATA + 64);
        bench.done("F7 E3").has("0 is A", 0, 14).has("2 is D", 2, 0).done("D3 E0").has("1 is C", 0, 112);
        bench.done("48 A5").has("6 is SOURCE", 6, Bench.DATA + 8).has("7 is GOAL", 7, Bench.DATA + 72)
                .holds("GOAL", Bench.DATA + 64, 0x99);
        bench.done("53").has("4 is the STACK's", 4, Bench.TOP - 8).holds("3 is B", Bench.TOP - 8, 7);
        bench.done("C9").has("5 is the FRAME's", 5, 0x99).has("4 then", 4, Bench.DATA + 8);
        bench.code("90 90").goesOn("NEXT", Bench.CODE + 1).goesOn("NEXT", Bench.CODE + 2);
        bench.set(Bench.ENTRY, Bench.UPPER_HALF + 5).set(Bench.MASK, -1).goes("0F 05", Bench.UPPER_HALF + 5);
        bench.has("the LEVEL", Bench.LEVEL, 0).set(1, 0x123456).goes("0F 07", 0x123456).has("the LEVEL", Bench.LEVEL, 3);
    }

    private static void atFirst() {
        LongModeCore core = new LongModeCore();
        for (int register = 0; register <= 24; register++) {
            Bench.due("at first " + register, core.get(register), 0);
        }
        Bench.due("no table at first", core.look(0, 0, READ), -2);
        Bench.due("a step at first", core.step(), Bench.PAGE);
        Bench.due("FAULT", core.get(22), 0);
        Bench.due("the CODE: level 0, a FETCH", core.get(23), 16);
        Bench bench = new Bench().set(Bench.FLAGS, Bench.SEVEN).done("20 C0");
        bench.has("UNDEFINED at first, and a result of 0", Bench.FLAGS, Bench.DOWN | Bench.ZERO | Bench.PARITY);
        bench.goes("0F 05", 0).has("MASK at first", Bench.FLAGS, Bench.DOWN | Bench.ZERO | Bench.PARITY);
    }

    private static void flags() {
        Bench bench = new Bench().set(Bench.FLAGS, 0).done("F9").has("CARRY", Bench.FLAGS, 1);
        bench.set(Bench.FLAGS, 0).done("FD").has("DOWN", Bench.FLAGS, 1024);
        bench.set(Bench.FLAGS, 0).set(0, 3).done("08 C0").has("PARITY", Bench.FLAGS, 4);
        bench.set(0, 0x0F).done("04 01").has("HALF", Bench.FLAGS, 16);
        bench.set(0, 1).done("2C 01").has("ZERO and PARITY", Bench.FLAGS, 64 + 4);
        bench.set(0, 0x80).done("0C 00").has("SIGN", Bench.FLAGS, 128);
        bench.set(0, 0x40).done("04 40").has("OVER and SIGN", Bench.FLAGS, 2048 + 128);
        for (int bit = 0; bit < 32; bit++) {
            bench.set(Bench.FLAGS, 1L << bit).has("bit " + bit, Bench.FLAGS, 1L << bit & 3285);
        }
        bench.set(Bench.FLAGS, 0xFFFFFFFF00000000L).has("bits 32 .. 63", Bench.FLAGS, 0);
        bench.set(Bench.FLAGS, -1).has("all seven", Bench.FLAGS, 3285).set(4, Bench.TOP).done("9C")
                .holds("9C", Bench.TOP - 8, 3287);
    }

    private static void undefined() {
        long[] numbers = {0, -1, Bench.SIX, Bench.DOWN, ~Bench.SIX, 0xFFFFFFFF00000000L, 0x80000000L};
        for (long number : numbers) {
            for (int before : new int[] {0, Bench.SEVEN}) {
                openFlags(number, before);
            }
        }
        for (int flag : SINGLE) {
            openFlags(flag, 0);
            openFlags(~flag, Bench.SEVEN);
        }
    }

    private static void openFlags(long number, int before) {
        int down = before & Bench.DOWN;
        int six = (int) number & Bench.SIX;
        int both = Bench.CARRY | Bench.OVER;
        Bench bench = new Bench().set(Bench.UNDEFINED, number).set(3, 1);
        bench.set(Bench.FLAGS, before).done("F6 F3").has("all six", Bench.FLAGS, down | six);
        bench.set(Bench.FLAGS, before).done("F6 E3").has("all but CARRY and OVER", Bench.FLAGS, down | six & ~both);
        bench.set(Bench.FLAGS, before).done("0F BC CB").has("all but ZERO", Bench.FLAGS, down | six & ~Bench.ZERO);
        bench.set(Bench.FLAGS, before).done("08 DB").has("HALF alone", Bench.FLAGS, down | six & Bench.HALF);
        bench.set(Bench.FLAGS, before).done("0F BA E3 00").has("four", Bench.FLAGS,
                before & (Bench.DOWN | Bench.ZERO) | six & ~(Bench.CARRY | Bench.ZERO) | Bench.CARRY);
        bench.set(Bench.FLAGS, before).done("C0 C3 08").has("OVER alone", Bench.FLAGS,
                before & ~both | six & Bench.OVER | Bench.CARRY);
        bench.has("it stays", Bench.UNDEFINED, number);
    }

    private static void wrongPlaces() {
        Bench bench = new Bench().ends().set(5, 0);
        for (int bit = 47; bit < 64; bit++) {
            for (long place : new long[] {1L << bit, ~(1L << bit), 0x5000 | 1L << bit, -1L << bit ^ 1L << 63}) {
                long alike = place >> 47;
                boolean wrong = alike != 0 && alike != -1;
                for (int how = READ; how <= FETCH; how++) {
                    Bench.due("bit " + bit, bench.look(place, how) == -1 ? 1 : 0, wrong ? 1 : 0);
                }
                if (wrong) {
                    bench.set(3, place).refused("8A 03", Bench.WRONG).refused("88 03", Bench.WRONG);
                    bench.set(Bench.NEXT, place).stays("a FETCH", Bench.WRONG);
                }
            }
        }
        Bench.due("the lower half's last", bench.look(Bench.FIRST_WRONG - 1, READ), 0x7FFF);
        Bench.due("the first wrong", bench.look(Bench.FIRST_WRONG, READ), -1);
        Bench.due("the last wrong", bench.look(Bench.UPPER_HALF - 1, READ), -1);
        Bench.due("the upper half's first", bench.look(Bench.UPPER_HALF, READ), 0x5000);
        Bench.due("the first place", bench.look(0, READ), 0x5000);
        Bench.due("the last place", bench.look(-1, READ), 0x7FFF);
    }

    /** Entry number index of a table, all others of it being 0. */
    private static Bench oneEntry(int table, int index, long entry) {
        Bench bench = new Bench();
        for (int other = 0; other < 8; other++) {
            bench.store(table + 8 * other, 0);
        }
        return bench.store(table + 8 * index, entry);
    }

    private static void firstTable() {
        for (int bit = 0; bit <= 9; bit++) {
            // Each bit alone, then all of them.
            int index = bit == 9 ? 511 : 1 << bit;
            long place = (long) index << 39 | (index >= 256 ? 0xFFFF000000000000L : 0) | 0x6ABC;
            Bench bench = oneEntry(0x1000, index, 0x2007);
            for (int how = READ; how <= FETCH; how++) {
                Bench.due("entry " + index, bench.look(place, how), 0x6ABC);
            }
            Bench.due("entry 0", bench.look(0x6ABC, READ), -2);
            Bench.due("the entry before", bench.look(index == 256 ? 255L << 39 : place - (1L << 39), READ), -2);
        }
        Bench bench = new Bench();
        for (int bit = 0; bit < 64; bit++) {
            bench.set(Bench.TABLE, 0x1000 ^ 1L << bit);
            boolean same = bit < 12 || bit > 51;
            Bench.due("TABLE's bit " + bit, bench.look(0x6ABC, READ), same ? 0x6ABC : -2);
        }
        bench.set(Bench.TABLE, 0xFFF0000000001FFFL);
        Bench.due("TABLE's other bits", bench.look(0x6ABC, READ), 0x6ABC);
    }

    private static void nextTables() {
        int[] tables = {0x2000, 0x3000, Bench.LAST_TABLE};
        int[] shifts = {30, 21, 12};
        for (int depth = 0; depth < 3; depth++) {
            for (int bit = 0; bit <= 9; bit++) {
                int index = bit == 9 ? 511 : 1 << bit;
                long low = depth == 2 ? 0xABC : 0x6ABC;
                Bench bench = oneEntry(tables[depth], index, depth == 2 ? 0x6007 : tables[depth + 1] | 7);
                Bench.due("entry " + index, bench.look((long) index << shifts[depth] | low, READ), 0x6ABC);
                Bench.due("the entry before", bench.look((long) (index - 1) << shifts[depth] | low, READ), -2);
            }
        }
        for (int depth = 0; depth < 3; depth++) {
            for (int bit = 3; bit < 63; bit++) {
                Bench bench = new Bench();
                long entry = bench.core.stored(ENTRIES[depth]);
                bench.store(ENTRIES[depth], entry ^ 1L << bit);
                boolean same = bit < 12 || bit > 51;
                if (bit != 7) {
                    Bench.due("an entry's bit " + bit, bench.look(0x5ABC, READ), same ? 0x5ABC : -2);
                }
            }
        }
    }

    private static void lastEntry() {
        Bench bench = new Bench();
        for (int bit = 12; bit <= 51; bit++) {
            bench.map(5, 1L << bit | 7);
            Bench.due("bit " + bit, bench.look(0x5000, READ), 1L << bit);
            Bench.due("the page's last byte", bench.look(0x5FFF, WRITE), 1L << bit | 0xFFF);
        }
        bench.map(5, 0x000FFFFFFFFFF007L);
        Bench.due("all of them", bench.look(0x5000, READ), 0x000FFFFFFFFFF000L);
        bench.map(5, 7);
        Bench.due("none of them", bench.look(0x5FFF, READ), 0xFFF);
        for (int bit = 0; bit < 12; bit++) {
            Bench.due("the place's bit " + bit, bench.look(0x5000 | 1L << bit, READ), 1L << bit);
        }
        bench.map(5, 0x7FF0000000005FFFL);
        Bench.due("the entry's other bits, 7 among them", bench.look(0x5123, WRITE), 0x5123);
    }

    private static void largePages() {
        Bench bench = new Bench();
        for (int bit = 21; bit <= 51; bit++) {
            bench.store(0x3000, 1L << bit | LARGE | 7);
            Bench.due("bit " + bit, bench.look(0, READ), 1L << bit);
            Bench.due("its last byte", bench.look(0x1FFFFF, WRITE), 1L << bit | 0x1FFFFF);
        }
        bench.store(0x3000, 0x7FFFFFFFFFE00000L | LARGE | 0xE7F).store(0x3000 + 8, LARGE | 7);
        Bench.due("all of them", bench.look(0x12345, READ), 0x000FFFFFFFE12345L);
        Bench.due("the next 2097152 places", bench.look(0x212345, READ), 0x12345);
        for (int bit = 0; bit < 21; bit++) {
            Bench.due("the place's bit " + bit, bench.look(0x200000 | 1L << bit, FETCH), 1L << bit);
        }
        bench.store(0x3000, LARGE | 0x1007);
        Bench.due("the entry's bit 12", bench.look(0x12345, READ), 0x12345);
        bench.code("90").goesOn("a step by it", Bench.CODE + 1);
        bench = new Bench().map(5, 0x5007 | LARGE);
        Bench.due("bit 7 of the last entry", bench.look(0x5FFF, READ), 0x5FFF);
    }

    private static void bitsOfAnEntry() {
        for (int entry : ENTRIES) {
            Bench bench = new Bench();
            long old = bench.core.stored(entry);
            bench.store(entry, old & ~1L);
            Bench.due("not there", bench.look(0x5123, READ), -2);
            bench.store(entry, old & ~2L);
            Bench.due("not for a write", bench.look(0x5123, WRITE), -5);
            Bench.due("but for a read", bench.look(0x5123, READ), 0x5123);
            Bench.due("and a FETCH", bench.look(0x5123, FETCH), 0x5123);
            bench.store(entry, old | NO_FETCH);
            Bench.due("not for a FETCH", bench.look(0x5123, FETCH), -19);
            Bench.due("but for a write", bench.look(0x5123, WRITE), 0x5123);
            bench.store(entry, old & ~4L);
            Bench.due("for level 0", bench.look(0x5123, READ), 0x5123);
            bench.core.level(true);
            Bench.due("not for level 3", bench.look(0x5123, READ), -7);
            bench.store(entry, old);
            Bench.due("for level 3", bench.look(0x5123, READ), 0x5123);
        }
    }

    private static void firstRefusal() {
        for (int depth = 0; depth < 4; depth++) {
            Bench bench = new Bench();
            bench.store(ENTRIES[depth], NO_FETCH | 0x1FE000 | LARGE | 6);
            Bench.due("not there, whatever else it has", bench.look(0x5000, READ), -2);
            bench.store(ENTRIES[depth], 0);
            Bench.due("not there, all 0", bench.look(0x5000, READ), -2);
            if (depth < 2) {
                bench.store(ENTRIES[depth], LARGE | 1 | NO_FETCH);
                Bench.due("bit 7, whatever else it has", bench.look(0x5000, WRITE), -13);
                bench.store(ENTRIES[depth + 1], 0);
                Bench.due("bit 7 before one that isn't there", bench.look(0x5000, READ), -11);
                bench.store(ENTRIES[depth], 0).store(ENTRIES[depth + 1], LARGE | 7);
                Bench.due("one that isn't there before bit 7", bench.look(0x5000, READ), -2);
            }
        }
        for (int bit = 12; bit <= 21; bit++) {
            Bench bench = new Bench().store(0x3000, 1L << bit | LARGE | 7);
            boolean refused = bit > 12 && bit < 21;
            Bench.due("bit " + bit, bench.look(0x5123, READ), refused ? -11 : bit == 21 ? 0x205123 : 0x5123);
            bench.store(0x3000, 1L << bit | LARGE | 1 | NO_FETCH);
            Bench.due("code 9 before code 1", bench.look(0x5123, WRITE), refused ? -13 : -5);
            bench.store(0x3000, 1L << bit | 7);
            Bench.due("without bit 7", bench.look(0x5123, READ), bit == 14 ? 0x5123 : -2);
        }
        // Above it all may be forbidden: one that isn't there comes first.
        Bench bench = new Bench().store(0x1000, 0x2001 | NO_FETCH).map(5, 0);
        bench.core.level(true);
        Bench.due("code 0 before code 1", bench.look(0x5000, WRITE), -8);
        bench.store(0x2000, 0x3001 | LARGE);
        Bench.due("code 9 before code 1", bench.look(0x5000, FETCH), -31);
        bench.set(3, 0x5000).store(0x2000, 0x3007).page("8B 03", Bench.CODE, 21);
    }

    private static void forbidden() {
        for (int depth = 0; depth < 4; depth++) {
            for (int user = 0; user < 2; user++) {
                int more = 4 * user;
                Bench bench = new Bench();
                long old = bench.core.stored(ENTRIES[depth]);
                bench.core.level(user == 1);
                bench.store(ENTRIES[depth], old & ~2L);
                Bench.due("may not be written", bench.look(0x5123, WRITE), -5 - more);
                Bench.due("may be read", bench.look(0x5123, READ), 0x5123);
                bench.store(ENTRIES[depth], old | NO_FETCH);
                Bench.due("may not be FETCHED", bench.look(0x5123, FETCH), -19 - more);
                Bench.due("may be written", bench.look(0x5123, WRITE), 0x5123);
                bench.store(ENTRIES[depth], old & ~4L);
                Bench.due("may be used", bench.look(0x5123, READ), user == 1 ? -7 : 0x5123);
                Bench.due("may be used", bench.look(0x5123, WRITE), user == 1 ? -9 : 0x5123);
                Bench.due("may be used", bench.look(0x5123, FETCH), user == 1 ? -23 : 0x5123);
                bench.store(ENTRIES[depth], old & ~6L | NO_FETCH);
                Bench.due("no more for all at once", bench.look(0x5123, WRITE), -5 - more);
            }
        }
        Bench bench = new Bench().store(0x3000, 0x81 | NO_FETCH);
        Bench.due("a large page that may not be written", bench.look(0x5123, WRITE), -5);
        Bench.due("a large page that may not be FETCHED", bench.look(0x5123, FETCH), -19);
        bench.core.level(true);
        Bench.due("a large page that may not be used", bench.look(0x5123, READ), -7);
    }

    private static void codes() {
        long[] entries = {0, 0x5001 | NO_FETCH};
        int[] codes = {0, 1};
        for (int i = 0; i < 2; i++) {
            for (int user = 0; user < 2; user++) {
                Bench bench = new Bench().map(5, entries[i]).set(3, 0x5123).code("8A 03");
                bench.core.level(user == 1);
                int code = codes[i] + 4 * user;
                if (i == 0 || user == 1) {
                    Bench.due("a read", bench.look(0x5123, READ), -2 - code);
                    bench.page("8A 03", 0x5123, code);
                }
                Bench.due("a write", bench.look(0x5123, WRITE), -4 - code);
                Bench.due("a FETCH", bench.look(0x5123, FETCH), -18 - code);
                bench.page("88 03", 0x5123, code + 2).page("00 03", 0x5123, code + 2);
                bench.set(Bench.NEXT, 0x5123).pageHere("a FETCH", 0x5123, code + 16);
            }
        }
        for (int user = 0; user < 2; user++) {
            Bench bench = new Bench().store(0x2000 + 8, 0x3087).set(3, 0x40000000);
            bench.core.level(user == 1);
            bench.page("8A 03", 0x40000000, 9 + 4 * user).page("88 03", 0x40000000, 11 + 4 * user);
            bench.set(Bench.NEXT, 0x40000000).pageHere("a FETCH", 0x40000000, 25 + 4 * user);
        }
    }

    private static void levelZero() {
        Bench bench = new Bench().store(0x1000, 0x2003).store(0x2000, 0x3003).store(0x3000, 0x4003);
        bench.map(5, 0x5003).map(6, 0x6003).map(7, 0x7003).set(3, 0x5008).set(0, 0x77);
        bench.done("48 89 03").holds("level 0 writes what level 3 may not use", 0x5008, 0x77).done("48 8B 0B").done("50")
                .done("5A");
        bench.map(5, 0x5001).done("48 8B 0B").page("48 89 03", 0x5008, 3).map(5, 0x5005).page("48 89 03", 0x5008, 3);
        bench.map(7, 0x7001).page("50", Bench.TOP - 8, 3).done("5A");
        bench.core.level(true);
        bench.page("90", Bench.CODE, 21);
    }

    private static void severalBytes() {
        Bench bench = new Bench().set(3, 0x8FFC).set(0, -1);
        // Neither page is there: the lower one's first byte tells.
        bench.page("48 8B 03", 0x8FFC, 0).page("48 89 03", 0x8FFC, 2);
        bench.set(3, 0x7FFD).page("48 89 03", 0x8000, 2).holds("not a byte is written", 0x7FF8, 0);
        bench.page("48 01 03", 0x8000, 2).page("48 F7 13", 0x8000, 2).page("48 8B 03", 0x8000, 0);
        bench.set(3, 0x7FFF).page("66 89 03", 0x8000, 2).done("88 03").holds("the last byte alone", 0x7FF8, 0xFFL << 56);
        bench.set(3, 0x4FFF).page("66 8B 03", 0x4FFF, 0);
        bench = new Bench().map(5, 0x5005).set(3, 0x5FFC).page("48 89 03", 0x5FFC, 3).done("48 8B 03");
        bench.map(5, 0x5007).map(6, 0x6005).page("48 89 03", 0x6000, 3).done("48 8B 03");
        bench = new Bench().map(5, 0x5005).set(3, 0x5010).set(0, 1).set(1, 0);
        String[] readAndWritten = {"00 03", "09 03", "10 03", "19 03", "20 03", "29 03", "30 03", "80 03 00", "81 03 00000000",
            "83 2B 00", "86 03", "87 03", "FE 03", "FF 0B", "F6 13", "F7 1B", "C0 03 00", "C1 2B 01", "D0 13", "D1 1B", "D2 23",
            "D3 3B", "0F C0 03", "0F C1 03", "0F B0 03", "0F B1 03", "0F AB 03", "0F B3 03", "0F BB 03", "0F BA 2B 00",
            "0F BA 33 00", "0F BA 3B 00", "88 03", "C7 03 00000000", "0F 90 03", "8F 03"};
        for (String text : readAndWritten) {
            bench.page(text, 0x5010, 3);
        }
        String[] readAlone = {"38 03", "39 03", "02 03", "3B 03", "80 3B 00", "83 3B 00", "84 03", "85 03", "8A 03", "63 03",
            "F6 03 00", "F7 23", "0F A3 03", "0F BA 23 00", "0F BC 03", "0F AF 03", "0F 40 03", "0F B6 03", "FF 33", "69 03 00000000"};
        for (String text : readAlone) {
            bench.set(0, 0).done(text);
        }
    }

    private static void aroundTheEnd() {
        Bench bench = new Bench().ends().store(0x7FF8, 0x8877665544332211L).store(0x5000, 0x0807060504030201L).set(3, -4);
        bench.done("48 8B 03").has("a read", 0, 0x0403020188776655L);
        bench.set(1, 0xA8A7A6A5A4A3A2A1L).done("48 89 0B").holds("a write", 0x7FF8, 0xA4A3A2A144332211L);
        bench.holds("a write", 0x5000, 0x08070605A8A7A6A5L);
        bench.set(3, -1).set(0, 0).done("66 8B 03").has("2 bytes", 0, 0xA5A4);
        bench.set(4, 4).set(0, -1).done("50").has("PUSH", 4, -4).holds("PUSH", 0x5000, 0x08070605FFFFFFFFL).done("5A");
        bench.has("POP", 4, 4).has("POP", 2, -1).set(4, 0).done("66 50").has("PUSH from 0", 4, -2);
        bench.set(4, -8).done("58").has("POP up to 0", 4, 0);
        bench.at(0x7FFE, -2, "B8 78").bytes(0x5000, "563412").goesOn("a FETCH", 3).has("a FETCH", 0, 0x12345678L);
        bench.at(0x7FFF, -1, "90").goesOn("the last byte", 0).at(0x7FFE, -2, "EB 10").goesOn("a jump", 0x10);
        bench.at(0x5000, 0, "EB F0").goesOn("a jump back", -14);
        bench.set(6, -1).set(7, 0x5100).done("A4").has("SOURCE", 6, 0).set(6, 0).set(Bench.FLAGS, Bench.DOWN).done("A4")
                .has("SOURCE", 6, -1);
        bench.set(3, 16).done("8A 43 EF").set(3, -1).set(1, 1).done("8A 04 0B");
        bench = new Bench().ends().map(0, 0).set(3, -4).page("48 8B 03", 0, 0).done("8B 03");
        bench.set(3, -1).page("66 89 03", 0, 2).map(511, 0).page("66 89 03", -1, 2);
    }
}
