/** Tests of the sentences about prefixes, sizes, registers, operands, numbers and the flags of a result. */
final class OperandSentences {
    private static final int[] SIZES = {1, 2, 4, 8};
    private static final long OLD = 0xFFEEDDCCBBAA9988L;

    private OperandSentences() {
    }

    static void all() {
        Sentences.test("AN INSTRUCTION begins with any PREFIXES 66, F2, F3 (all numbers of bytes are in base 16 here), 40 .. 4F "
                + "(REX: bits 3 W, 2 R, 1 X, 0 B); REX counts if it comes last; of F2, F3 the last one.",
                OperandSentences::prefixes);
        Sentences.test("Then the OPCODE, perhaps MODRM (bits 6, 7 MOD, 3 .. 5 REG, 0 .. 2 RM), perhaps a byte SIB and a "
                + "displacement, then a number.", OperandSentences::parts);
        Sentences.test("SIZE v is 8 bytes with W, else 2 with 66, else 4; size b is 1.", OperandSentences::sizes);
        Sentences.test("Registers g are REG and 8 with R; o those of an opcode's lowest three bits, and 8 with B.",
                OperandSentences::registersGAndO);
        Sentences.test("OPERAND e: MOD 3: register RM and 8 with B.", OperandSentences::registersE);
        Sentences.test("Else memory: RM 4: SIB: bits 0 .. 2 and 8 with B the base, 3 .. 5 and 8 with X the index (4: none), "
                + "times 1, 2, 4, 8 by bits 6, 7; base bits 5 with MOD 0: no base, a displacement of 4 bytes.",
                OperandSentences::sib);
        Sentences.test("RM 5 with MOD 0: a displacement of 4 bytes from the next instruction.", OperandSentences::fromNext);
        Sentences.test("Else the register is the base.", OperandSentences::base);
        Sentences.test("MOD 1: 1 byte, 2: 4 bytes of displacement, with their sign.", OperandSentences::displacements);
        Sentences.test("It is of the stack if its base is register 4 or 5.", OperandSentences::ofTheStack);
        Sentences.test("A register of size 1: without REX 4 .. 7 are bits 8 .. 15 of 0 .. 3; else its lowest 8 bits.",
                OperandSentences::oneByte);
        Sentences.test("What gets 1 or 2 bytes keeps the rest; of 4 bytes the upper half becomes 0.", OperandSentences::theRest);
        Sentences.test("Numbers i: b 1 byte, z as many as v, but at most 4; with their sign to the size.",
                OperandSentences::numbers);
        Sentences.test("s: i of 1 byte with its sign.", OperandSentences::shortNumbers);
        Sentences.test("FLAGS of a result: ZERO; SIGN, the highest bit of the size; PARITY: its lowest 8 bits have an even number "
                + "of 1s.", OperandSentences::flagsOfAResult);
        Sentences.test("A sum, a difference: CARRY out of the size, HALF out of bit 3, OVER if it is wrong as a signed one.",
                OperandSentences::flagsOfASum);
    }

    private static void prefixes() {
        Bench bench = new Bench();
        bench.set(0, OLD).done("B8 01000000").has("no prefix", 0, 1).set(0, OLD).done("66 B8 0100")
                .has("66", 0, Bench.kept(OLD, 1, 2));
        bench.set(0, OLD).done("66 66 F2 F3 66 B8 0100").has("any of them", 0, Bench.kept(OLD, 1, 2));
        bench.set(0, OLD).done("48 B8 0100000000000080").has("W", 0, 0x8000000000000001L);
        bench.set(0, OLD).done("48 66 B8 0100").has("REX before 66", 0, Bench.kept(OLD, 1, 2));
        bench.set(0, OLD).done("49 F3 B8 01000000").has("REX before F3", 0, 1);
        bench.set(0, OLD).done("49 F2 B8 01000000").has("REX before F2", 0, 1);
        bench.set(0, OLD).done("48 40 B8 01000000").has("REX before REX", 0, 1);
        bench.set(8, OLD).done("40 66 41 B8 0100").has("REX last", 8, Bench.kept(OLD, 1, 2));
        bench.set(3, 0).set(7, OLD).done("40 66 B7 7F").has("REX before 66 in size 1", 3, 0x7F00).has("7 stays", 7, OLD);
        for (int rex = 0x40; rex <= 0x4F; rex++) {
            bench = new Bench();
            for (int register = 0; register < 16; register++) {
                bench.set(register, 0x100000000L << register);
            }
            // 8D 34 0B: register 6 becomes the place of base 3 and index 1.
            int goal = (rex & 4) != 0 ? 14 : 6;
            long place = (0x100000000L << ((rex & 1) != 0 ? 11 : 3)) + (0x100000000L << ((rex & 2) != 0 ? 9 : 1)) + 5;
            bench.done(Bench.hex(rex, 1) + "8D 74 0B 05").has("REX " + rex, goal, (rex & 8) != 0 ? place : 5);
        }
        // F3 goes on while alike, F2 while not: of both the last one counts.
        String[] repeats = {"F3", "F2 F3", "F3 F2 F3", "F2 66 F3", "F2 F3 66", "F3 40", "F2 F2 F3"};
        for (String text : repeats) {
            bench = new Bench().set(6, Bench.DATA).set(7, Bench.DATA).set(1, 5).goes(text + "A6", Bench.CODE);
            bench = new Bench().set(6, Bench.DATA).set(7, Bench.DATA).set(1, 5);
            bench.done(text.replace("F2", "FX").replace("F3", "F2").replace("FX", "F3") + "A6");
        }
        for (String text : new String[] {"F0", "2E", "36", "3E", "26", "64", "65", "67", "9B"}) {
            new Bench().refused(text + "90", Bench.UNKNOWN).refused("66" + text + "90", Bench.UNKNOWN);
        }
    }

    private static void parts() {
        Bench bench = new Bench().store(Bench.DATA + 16, 0x1111111111111111L).set(3, Bench.DATA - 0x12345678).set(1, 2);
        bench.done("48 81 84 CB 78563412 04030201").holds("all parts", Bench.DATA + 16, 0x1111111112131415L);
        bench.set(3, Bench.DATA - 0x70).done("48 83 6C CB 70 11").holds("a short one", Bench.DATA + 16, 0x1111111112131404L);
        bench.set(3, Bench.DATA + 16).done("C6 03 55").holds("no SIB, no displacement", Bench.DATA + 16, 0x1111111112131455L);
        bench.done("8B 03").has("no number", 0, 0x12131455L).done("90");
        for (int modrm = 0xC0; modrm < 0x100; modrm++) {
            int g = modrm >> 3 & 7;
            int e = modrm & 7;
            bench = new Bench().set(e, 0x99).set(g, 0x77).done("48 89" + Bench.hex(modrm, 1)).has("REG and RM", e, 0x77);
        }
        long[] places = {Bench.DATA, Bench.DATA + 0x21, Bench.DATA + 0x4321};
        String[] modrms = {"8D 0B", "8D 4B 21", "8D 8B 21430000"};
        for (int mod = 0; mod < 3; mod++) {
            new Bench().set(3, Bench.DATA).done(modrms[mod]).has("MOD " + mod, 1, places[mod]);
        }
    }

    private static void sizes() {
        String[] prefixes = {"", "66", "48", "66 48", "4F", "47", "66 40", "F3", "48 66"};
        int[] sizes = {4, 2, 8, 8, 8, 4, 2, 4, 2};
        for (int i = 0; i < prefixes.length; i++) {
            Bench bench = new Bench().store(Bench.DATA, 0x1122334455667788L).set(3, Bench.DATA).set(11, Bench.DATA);
            String text = prefixes[i] + "C7 03" + Bench.hex(0, Math.min(sizes[i], 4));
            bench.done(text).holds(text, Bench.DATA, 0x1122334455667788L & ~Bench.mask(sizes[i]));
            bench.store(Bench.DATA, 0x1122334455667788L);
            text = prefixes[i] + "C6 03 00";
            bench.done(text).holds(text, Bench.DATA, 0x1122334455667700L);
        }
    }

    private static void registersGAndO() {
        for (int register = 0; register < 16; register++) {
            String r = Bench.hex(0x48 | register >> 3 << 2, 1);
            String b = Bench.hex(0x48 | register >> 3, 1);
            int low = register & 7;
            Bench bench = new Bench().store(Bench.DATA, 0x1122334455667788L).set(register == 3 ? 1 : 3, Bench.DATA);
            bench.done(r + "8B" + Bench.hex(low << 3 | (register == 3 ? 1 : 3), 1)).has("g", register, 0x1122334455667788L);
            bench = new Bench().done(b + Bench.hex(0xB8 | low, 1) + "8877665544332211");
            bench.has("o", register, 0x1122334455667788L);
            bench = new Bench().set(register, OLD).set(4, Bench.TOP);
            bench.done(Bench.hex(0x40 | register >> 3, 1) + Bench.hex(0x50 | low, 1));
            bench.holds("o of PUSH", Bench.TOP - 8, register == 4 ? Bench.TOP : OLD);
            // B is no matter for g, nor R for o.
            bench = new Bench().set(low, 5).set(8 | low, 6).done("49 89" + Bench.hex(0xC0 | low << 3 | (low ^ 1), 1));
            bench.has("g without R", 8 | low ^ 1, 5);
            bench = new Bench().done("4C" + Bench.hex(0xB8 | low, 1) + "0700000000000000").has("o without B", low, 7);
        }
    }

    private static void registersE() {
        for (int register = 0; register < 16; register++) {
            int low = register & 7;
            String rex = Bench.hex(0x48 | register >> 3, 1);
            Bench bench = new Bench().set(register, 0x123456789L).done(rex + "F7" + Bench.hex(0xD0 | low, 1));
            bench.has("e", register, ~0x123456789L);
            for (int other = 0; other < 16; other++) {
                if (other != register) {
                    bench.has("no other", other, other == 4 ? Bench.TOP : 0);
                }
            }
            // RM 4 and 5 are registers too, and a wrong place in one of them is no matter.
            bench.set(register, Bench.FIRST_WRONG).done(rex + "8B" + Bench.hex(0xC0 | low, 1))
                    .has("a value", 0, Bench.FIRST_WRONG);
            bench = new Bench().set(low, 1).set(8 | low, 2).done("4A F7" + Bench.hex(0xD0 | low, 1))
                    .has("X is no matter", low, ~1L);
        }
    }

    /** Register n has 2^(n + 40), so a sum tells what was added. */
    private static Bench weighted() {
        Bench bench = new Bench();
        for (int register = 0; register < 16; register++) {
            bench.set(register, 1L << register + 40);
        }
        return bench;
    }

    private static void sib() {
        for (int sib = 0; sib < 256; sib++) {
            for (int rex = 0; rex < 4; rex++) {
                int base = sib & 7 | (rex & 1) << 3;
                int index = sib >> 3 & 7 | (rex & 2) << 2;
                long scaled = index == 4 ? 0 : (1L << index + 40) << (sib >> 6);
                long full = (1L << base + 40) + scaled;
                String start = Bench.hex(0x4C | rex, 1) + "8D";
                String end = Bench.hex(sib, 1);
                Bench bench = weighted();
                boolean none = (sib & 7) == 5;
                bench.done(start + "3C" + end + (none ? "44332281" : ""))
                        .has("MOD 0", 15, none ? scaled + 0x81223344 : full);
                bench = weighted().done(start + "7C" + end + "81").has("MOD 1", 15, full - 127);
                weighted().done(start + "BC" + end + "44332281").has("MOD 2", 15, full + 0x81223344);
            }
        }
        // Index 4 is none, index 12 is one; a scaled index goes around the end.
        Bench bench = new Bench().set(4, Bench.TOP).set(12, 3).done("4A 8D 04 64").has("index 12", 0, Bench.TOP + 6);
        bench.done("48 8D 04 E4").has("no index", 0, Bench.TOP);
        bench.set(1, 1L << 61).set(3, 5).done("48 8D 04 CB").has("2^61 times 8", 0, 5).set(1, -1).done("48 8D 04 CB")
                .has("-1 times 8", 0, -3);
    }

    private static void fromNext() {
        Bench bench = new Bench().set(5, 1L << 40).set(13, 1L << 41);
        bench.done("48 8D 05 00000000").has("0", 0, Bench.CODE + 7).done("49 8D 05 01000000").has("with B", 0, Bench.CODE + 8);
        bench.done("4B 8D 05 FFFFFFFF").has("-1", 0, Bench.CODE + 6);
        bench.done("48 8D 05 FFFFFF7F").has("the greatest", 0, Bench.CODE + 7 + (long) Integer.MAX_VALUE);
        bench.done("48 8D 05 00000080").has("the least", 0, Bench.CODE + 7 + (long) Integer.MIN_VALUE);
        bench.done("48 8D 45 01").has("not with MOD 1", 0, (1L << 40) + 1).done("48 8D 85 01000000")
                .has("nor 2", 0, (1L << 40) + 1);
        // The next instruction begins behind the number.
        bench.store(Bench.CODE + 0x100, 0x50).done("80 05 F9000000 01").holds("a number of 1", Bench.CODE + 0x100, 0x51);
        bench.done("66 81 05 F7000000 0100").holds("a number of 2", Bench.CODE + 0x100, 0x52);
        bench.done("81 05 F6000000 01000000").holds("a number of 4", Bench.CODE + 0x100, 0x53);
        bench.done("F6 05 F9000000 FF").has("F6 0", Bench.FLAGS, Bench.PARITY).done("C0 25 F9000000 01");
        bench.holds("a count", Bench.CODE + 0x100, 0xA6).page("8B 05 FA1F0000", 0x8000, 0);
        // Not of the stack, though RM is 5.
        bench.ends().at(0x7FF0, Bench.FIRST_WRONG - 16, "8B 05 0A000000").stays("at a wrong place", Bench.WRONG);
        bench.at(0x7FFA, -6, "8B 05 00000000").store(0x5000, 0x77).goesOn("around the end", 0).has("around the end", 0, 0x77);
    }

    private static void base() {
        for (int register = 0; register < 16; register++) {
            int low = register & 7;
            if (low != 4) {
                String start = Bench.hex(0x4C | register >> 3, 1) + "8D";
                int g = register == 15 ? 14 : 15;
                int reg = (g & 7) << 3;
                long base = 1L << register + 40;
                if (low != 5) {
                    weighted().done(start + Bench.hex(reg | low, 1)).has("MOD 0", g, base);
                }
                weighted().done(start + Bench.hex(0x40 | reg | low, 1) + "00").has("MOD 1", g, base);
                weighted().done(start + Bench.hex(0x80 | reg | low, 1) + "00000000").has("MOD 2", g, base);
            }
        }
    }

    private static void displacements() {
        int[] shorts = {0, 1, 127, -128, -1};
        for (int number : shorts) {
            Bench bench = new Bench().set(3, 100).done("48 8D 43" + Bench.hex(number, 1))
                    .has("1 byte " + number, 0, 100 + number);
            bench.done("48 8D 44 23" + Bench.hex(number, 1)).has("1 byte behind SIB", 0, 100 + number);
        }
        int[] longs = {0, 1, 128, 255, -1, -129, Integer.MAX_VALUE, Integer.MIN_VALUE};
        for (int number : longs) {
            Bench bench = new Bench().set(3, 100).done("48 8D 83" + Bench.hex(number, 4))
                    .has("4 bytes " + number, 0, 100L + number);
            bench.done("48 8D 04 25" + Bench.hex(number, 4)).has("4 bytes without a base", 0, number);
            bench.set(3, -100).done("66 8D 83" + Bench.hex(number, 4));
        }
        new Bench().set(3, 0x80000000L).done("48 8D 83 FFFFFFFF").has("a sum of 64 bits", 0, 0x7FFFFFFFL);
        new Bench().set(3, -1).done("48 8D 43 02").has("around the end", 0, 1).set(3, 1).done("48 8D 43 FE").has("back", 0, -1);
        new Bench().set(3, Bench.DATA + 0x80).store(Bench.DATA, 0x99).done("8B 43 80").has("to memory", 0, 0x99);
    }

    private static void ofTheStack() {
        for (int base = 0; base < 16; base++) {
            int reason = base == 4 || base == 5 ? Bench.STACK : Bench.WRONG;
            String rex = Bench.hex(0x40 | base >> 3, 1);
            Bench bench = new Bench().set(base, Bench.FIRST_WRONG);
            bench.refused(rex + "8A 44" + Bench.hex(0x20 | base & 7, 1) + "00", reason);
            bench.refused(rex + "8A 84" + Bench.hex(0x20 | base & 7, 1) + "00000000", reason);
            if ((base & 7) != 4) {
                bench.refused(rex + "8A" + Bench.hex(0x40 | base & 7, 1) + "00", reason);
                bench.refused(rex + "88" + Bench.hex(0x80 | base & 7, 1) + "00000000", reason);
            }
            if ((base & 7) != 5) {
                bench.refused(rex + "8A 04" + Bench.hex(0x20 | base & 7, 1), reason);
            }
        }
        // An index isn't a base, nor is what only bears the number 5.
        Bench bench = new Bench().set(5, Bench.FIRST_WRONG).set(3, 0).refused("8A 04 2B", Bench.WRONG);
        bench.refused("8A 04 2D 00000000", Bench.WRONG).set(3, Bench.FIRST_WRONG).set(5, 0).refused("8A 44 1D 00", Bench.STACK);
        bench.refused("8A 04 1C", Bench.STACK).refused("8A 04 1D 00000000", Bench.WRONG);
        // It is no matter for a PAGE.
        bench.set(5, 0x9000).page("8A 45 00", 0x9000, 0);
    }

    private static void oneByte() {
        for (int register = 0; register < 8; register++) {
            int whole = register & 3;
            long old = 0x1111111111111111L * (whole + 1);
            Bench bench = new Bench();
            for (int i = 0; i < 16; i++) {
                bench.set(i, 0x1111111111111111L * (i + 1 & 15));
            }
            String modrm = Bench.hex(0xC0 | register, 1);
            bench.done("C6" + modrm + "FE")
                    .has("without REX", whole, register < 4 ? old & ~0xFFL | 0xFE : old & ~0xFF00L | 0xFE00);
            if (register >= 4) {
                bench.has("its own lowest bits stay", register, 0x1111111111111111L * (register + 1));
            }
            bench.set(register, old).done("40 C6" + modrm + "FD").has("with REX", register, old & ~0xFFL | 0xFD);
            bench.set(8 | register, old).done("41 C6" + modrm + "FC").has("with B", 8 | register, old & ~0xFFL | 0xFC);
            bench = new Bench().set(whole, 0x5566).set(register, whole == register ? 0x5566 : 0x7788).set(3 ^ whole, 0);
            int got = register < 4 ? 0x66 : whole == 3 - whole ? 0 : 0x55;
            bench.done("0F B6" + Bench.hex(0xC0 | (3 ^ whole) << 3 | register, 1)).has("read without REX", 3 ^ whole, got);
        }
        Bench bench = new Bench().set(0, 0xFF01).done("00 E0").has("e and g in one register", 0, 0xFF00);
        bench.set(0, 0x1234).done("86 C4").has("86 within one register", 0, 0x3412);
        bench.set(4, 0x7FF0).set(0, 0).done("40 88 E0").has("g with REX", 0, 0xF0).set(0, 0x9900).done("88 E0")
                .has("g without", 0, 0x9999);
        bench.set(0, 0x1200).done("84 E4").has("84", Bench.FLAGS, Bench.PARITY).set(3, 0).done("B7 7F").has("B7", 3, 0x7F00);
        bench.set(0, 0xFF).done("0F 9F C4").has("0F 9F to bits 8 .. 15", 0, 0x1FF);
    }

    private static void theRest() {
        for (int bytes : SIZES) {
            String prefix = Bench.prefix(bytes);
            String b = bytes == 1 ? "8A" : "8B";
            Bench bench = new Bench().set(0, OLD).set(3, 0x1122334455667711L).done(prefix + b + "C3");
            long want = bytes == 1 ? 0xFFEEDDCCBBAA9911L : bytes == 2 ? 0xFFEEDDCCBBAA7711L
                    : bytes == 4 ? 0x55667711L : 0x1122334455667711L;
            bench.has("a move of " + bytes, 0, want);
            bench.set(0, -1).set(3, 1).done(prefix + (bytes == 1 ? "00" : "01") + "D8");
            bench.has("no carry goes into the rest", 0, bytes == 1 ? -256 : bytes == 2 ? -65536 : 0);
            bench.set(0, -1).done(prefix + (bytes == 1 ? "B0" : "B8") + Bench.hex(0, bytes));
            bench.has("a number of " + bytes, 0, bytes == 1 ? -256 : bytes == 2 ? -65536 : 0);
            bench.set(3, Bench.DATA).store(Bench.DATA, -1).set(0, 0).done(prefix + (bytes == 1 ? "88" : "89") + "03");
            bench.holds("memory of " + bytes, Bench.DATA, bytes == 8 ? 0 : -1L << 8 * bytes);
            bench.set(0, -1).set(6, Bench.DATA + 64).done(prefix + (bytes == 1 ? "AC" : "AD"));
            bench.has("LODS of " + bytes, 0, bytes == 1 ? -256 : bytes == 2 ? -65536 : 0);
        }
        Bench bench = new Bench().set(3, -1).done("66 5B").has("POP of 2", 3, -65536).set(3, -1).done("21 DB")
                .has("4 bytes alike", 3, 0xFFFFFFFFL);
        bench.set(3, -1).done("87 DB").has("87 with itself", 3, 0xFFFFFFFFL).set(3, -1).done("66 0F B6 D8").set(3, -1)
                .done("89 DB");
        bench.has("89 to itself", 3, 0xFFFFFFFFL).set(3, -1).done("39 DB").has("CMP writes nothing", 3, -1);
        bench.done("85 DB").has("TEST writes nothing", 3, -1).done("66 FF C3").has("1 more of 2", 3, -65536);
    }

    private static void numbers() {
        for (int bytes : SIZES) {
            int z = Math.min(bytes, 4);
            for (long number : new long[] {0, 1, -1, 0x7F, -0x80, 0x7FFF, -0x8000, Integer.MAX_VALUE, Integer.MIN_VALUE}) {
                long value = Bench.signed(number, z);
                Bench bench = new Bench().set(3, 0)
                        .done(Bench.prefix(bytes) + (bytes == 1 ? "C6" : "C7") + "C3" + Bench.hex(number, z));
                bench.has("i of " + bytes, 3, value & Bench.mask(bytes));
                bench.set(0, 0).done(Bench.prefix(bytes) + (bytes == 1 ? "0C" : "0D") + Bench.hex(number, z));
                bench.has("with register 0", 0, value & Bench.mask(bytes));
            }
        }
        Bench bench = new Bench().set(0, 0).done("48 05 000000 80").has("8 bytes, with its sign", 0, 0xFFFFFFFF80000000L);
        bench.done("48 C7 C0 FFFFFF7F").has("8 bytes, without one", 0, 0x7FFFFFFF).set(0, -1).done("48 A9 00000080");
        bench.has("its sign is in TEST", Bench.FLAGS, Bench.SIGN | Bench.PARITY);
        bench.done("66 48 81 C8 01000000").done("68 00000080").holds("68", Bench.TOP - 8, 0xFFFFFFFF80000000L);
    }

    private static void shortNumbers() {
        for (int bytes = 2; bytes <= 8; bytes *= 2) {
            for (int number : new int[] {0, 1, 127, -128, -1}) {
                Bench bench = new Bench().set(3, 0).done(Bench.prefix(bytes) + "83 CB" + Bench.hex(number, 1));
                bench.has("83", 3, number & Bench.mask(bytes)).set(3, 3);
                bench.done(Bench.prefix(bytes) + "6B DB" + Bench.hex(number, 1)).has("6B", 3, 3L * number & Bench.mask(bytes));
            }
        }
        new Bench().done("6A 80").holds("6A", Bench.TOP - 8, -128).done("6A 7F").holds("6A", Bench.TOP - 16, 127);
        new Bench().done("66 6A FF").holds("6A of 2", Bench.TOP - 8, 0xFFFF000000000000L);
    }

    private static void flagsOfAResult() {
        for (int bytes : SIZES) {
            long top = 1L << 8 * bytes - 1;
            long beyond = bytes == 8 ? 0 : ~Bench.mask(bytes);
            flagsOf(bytes, beyond, Bench.ZERO | Bench.PARITY);
            flagsOf(bytes, beyond | 1, 0);
            flagsOf(bytes, beyond | 3, Bench.PARITY);
            flagsOf(bytes, beyond | top, bytes == 1 ? Bench.SIGN : Bench.SIGN | Bench.PARITY);
            flagsOf(bytes, top - 1, bytes == 1 ? 0 : Bench.PARITY);
            flagsOf(bytes, -1, Bench.SIGN | Bench.PARITY);
            flagsOf(bytes, beyond | top >>> 1, bytes == 1 ? 0 : Bench.PARITY);
            // What goes out of the size is no part of the result.
            Bench bench = new Bench().set(3, Bench.mask(bytes)).set(1, 1)
                    .done(Bench.prefix(bytes) + (bytes == 1 ? "00" : "01") + "CB");
            int three = Bench.ZERO | Bench.SIGN | Bench.PARITY;
            Bench.due("a result of 0", bench.get(Bench.FLAGS) & three, Bench.ZERO | Bench.PARITY);
            bench.set(3, 0).set(1, 1).done(Bench.prefix(bytes) + (bytes == 1 ? "28" : "29") + "CB");
            Bench.due("a result of 1s", bench.get(Bench.FLAGS) & three, Bench.SIGN | Bench.PARITY);
        }
        for (int value = 0; value < 256; value++) {
            int parity = Integer.bitCount(value) % 2 == 0 ? Bench.PARITY : 0;
            Bench bench = new Bench().set(3, 0x100 | value).done("66 09 DB");
            bench.has("the lowest 8 bits of " + value, Bench.FLAGS, parity).done("08 DB");
            bench.has("size 1 of " + value, Bench.FLAGS, parity | (value == 0 ? Bench.ZERO : 0) | (value > 127 ? Bench.SIGN : 0));
        }
    }

    private static void flagsOf(int bytes, long value, int want) {
        for (int before : new int[] {0, Bench.ZERO | Bench.SIGN | Bench.PARITY}) {
            Bench bench = new Bench().set(3, value).set(Bench.FLAGS, before);
            bench.done(Bench.prefix(bytes) + (bytes == 1 ? "08" : "09") + "DB");
            bench.has("size " + bytes + " of " + Long.toHexString(value), Bench.FLAGS, want);
        }
    }

    private static void flagsOfASum() {
        for (int bytes : SIZES) {
            long top = 1L << 8 * bytes - 1;
            int even = bytes == 1 ? 0 : Bench.PARITY;
            int zero = Bench.ZERO | Bench.PARITY;
            sum(bytes, -1, 1, Bench.CARRY | Bench.HALF | zero);
            sum(bytes, -1, -1, Bench.CARRY | Bench.HALF | Bench.SIGN);
            sum(bytes, top - 1, 1, Bench.OVER | Bench.HALF | Bench.SIGN | even);
            sum(bytes, top, top, Bench.OVER | Bench.CARRY | zero);
            sum(bytes, top, -1, Bench.OVER | Bench.CARRY | (bytes == 1 ? 0 : Bench.PARITY));
            sum(bytes, 0x0F, 1, Bench.HALF);
            sum(bytes, 0x0F, 0x10, 0);
            sum(bytes, 7, 8, Bench.PARITY);
            sum(bytes, 0, 0, zero);
            sum(bytes, 5, -10, Bench.SIGN);
            sum(bytes, -10, 5, Bench.SIGN);
            sum(bytes, 10, -5, Bench.CARRY | Bench.HALF | Bench.PARITY);
            sum(bytes, -5, 10, Bench.CARRY | Bench.HALF | Bench.PARITY);
            difference(bytes, 0, 1, Bench.CARRY | Bench.HALF | Bench.SIGN | Bench.PARITY);
            difference(bytes, top, 1, Bench.OVER | Bench.HALF | (bytes == 1 ? 0 : Bench.PARITY));
            difference(bytes, 0, top, Bench.OVER | Bench.CARRY | Bench.SIGN | even);
            difference(bytes, top - 1, -1, Bench.OVER | Bench.CARRY | Bench.SIGN | even);
            difference(bytes, 0x10, 1, Bench.HALF | Bench.PARITY);
            difference(bytes, 0x1F, 0x0F, 0);
            difference(bytes, 5, 5, zero);
            difference(bytes, 5, 10, Bench.CARRY | Bench.HALF | Bench.SIGN);
            difference(bytes, -10, 5, Bench.SIGN);
            difference(bytes, 10, -5, Bench.CARRY | Bench.HALF | Bench.PARITY);
            difference(bytes, -1, -1, zero);
            difference(bytes, top, top, zero);
        }
    }

    private static void sum(int bytes, long first, long second, int want) {
        String what = first + " and " + second + " of " + bytes;
        for (int before : new int[] {0, Bench.SEVEN}) {
            Bench bench = new Bench().set(3, first).set(1, second).set(Bench.FLAGS, before).set(Bench.UNDEFINED, ~before);
            bench.done(Bench.prefix(bytes) + (bytes == 1 ? "00" : "01") + "CB");
            bench.has(what, Bench.FLAGS, want | before & Bench.DOWN).has(what, 3, Bench.kept(first, first + second, bytes));
        }
    }

    private static void difference(int bytes, long first, long second, int want) {
        String what = first + " less " + second + " of " + bytes;
        for (int before : new int[] {0, Bench.SEVEN}) {
            Bench bench = new Bench().set(3, first).set(1, second).set(Bench.FLAGS, before).set(Bench.UNDEFINED, ~before);
            bench.done(Bench.prefix(bytes) + (bytes == 1 ? "38" : "39") + "CB")
                    .has(what, Bench.FLAGS, want | before & Bench.DOWN);
            bench.done(Bench.prefix(bytes) + (bytes == 1 ? "28" : "29") + "CB");
            bench.has(what, Bench.FLAGS, want | before & Bench.DOWN).has(what, 3, Bench.kept(first, first - second, bytes));
        }
    }
}
