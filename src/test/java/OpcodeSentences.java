/** Tests of the sentences about sums, moves, products and quotients. */
final class OpcodeSentences {
    private static final int[] SIZES = {1, 2, 4, 8};
    private static final long OLD = 0xFFEEDDCCBBAA9988L;
    private static final long OTHER = 0x1122334455667711L;
    /** Of 12 and 10, with CARRY: ADD, OR, ADC, SBB, AND, SUB, XOR, CMP. */
    private static final int[] RESULTS = {22, 14, 23, 1, 8, 2, 6, 12};

    private OpcodeSentences() {
    }

    static void all() {
        Sentences.test("OPCODES 8 k and 0: e b, g b; 1: e v, g v; 2: g b, e b; 3: g v, e v; 4: register 0 b, i b; 5: register 0 "
                + "v, i z; by k 0 .. 7 ADD, OR, ADC, SBB, AND, SUB, XOR, CMP; the first is changed, but by CMP.",
                OpcodeSentences::sums);
        Sentences.test("80: e b, i b; 81: e v, i z; 83: e v, s; by REG.", OpcodeSentences::sumsWithNumbers);
        Sentences.test("ADC and SBB with CARRY.", OpcodeSentences::withCarry);
        Sentences.test("OR, AND, XOR, TEST: CARRY, OVER 0, HALF undefined.", OpcodeSentences::logic);
        Sentences.test("84 TEST e b, g b; 85 e v, g v; A8 register 0 b, i b; A9 v, i z.", OpcodeSentences::tests);
        Sentences.test("86 b, 87 v: e and g change places.", OpcodeSentences::changePlaces);
        Sentences.test("88 e b becomes g, 89 e v g; 8A g b e, 8B g v e; C6 (REG 0) e b i b, C7 (0) e v i z; B0 .. B7 o b becomes "
                + "i b, B8 .. BF o v becomes a number of v's bytes (8 with W).", OpcodeSentences::moves);
        Sentences.test("8D: g v becomes e's place (MOD 3: UNKNOWN).", OpcodeSentences::placeOfE);
        Sentences.test("63: g v becomes the lowest 4 bytes (2 of size 2) of e with their sign.", OpcodeSentences::withSign);
        Sentences.test("90 .. 97: register 0 and o of v change places (90 without B: nothing).", OpcodeSentences::withRegister0);
        Sentences.test("98: of register 0 the lower half of v gets its sign into the whole; 99: register 2 of v becomes register "
                + "0's sign, in all bits.", OpcodeSentences::signs);
        Sentences.test("FE (0, 1) e b, FF (0, 1) e v: 1 more, 1 less; CARRY stays.", OpcodeSentences::neighbours);
        Sentences.test("F6 e b, F7 e v, by REG: 0 TEST i b, z; 2 all bits turned, no flags; 3 0 less e (CARRY if e isn't 0);",
                OpcodeSentences::byReg);
        Sentences.test("4 MUL, 5 IMUL: register 0 times e, without signs or with them: the lower half to register 0, the upper "
                + "one to 2 (size 1: both to register 0's 16 bits); CARRY, OVER: if the upper half isn't 0 (what the lower "
                + "half's sign makes); SIGN, ZERO, HALF, PARITY undefined.", OpcodeSentences::products);
        Sentences.test("6 DIV, 7 IDIV: of what MUL makes, by e: quotient (to 0) and rest to register 0 and 2 (size 1: bits 0 .. 7 "
                + "and 8 .. 15 of 0); DIVIDE if e is 0 or the quotient too great; signs as usual; all six flags undefined.",
                OpcodeSentences::quotients);
        Sentences.test("69 g v becomes e v times i z, 6B times s, 0F AF g v times e v: as IMUL, without the upper half.",
                OpcodeSentences::shortProducts);
    }

    private static String sized(int bytes, int opcode) {
        return Bench.prefix(bytes) + Bench.hex(opcode + (bytes == 1 ? 0 : 1), 1);
    }

    private static void sums() {
        for (int k = 0; k < 8; k++) {
            for (int bytes : SIZES) {
                String what = "k " + k + " of " + bytes;
                long beyond = bytes >= 4 ? 0 : 0x5555000000000000L;
                int want = RESULTS[k];
                Bench bench = new Bench().set(Bench.FLAGS, Bench.CARRY).set(3, beyond | 12).set(1, 10);
                bench.done(sized(bytes, 8 * k) + "CB").has(what, 3, beyond | want).has(what, 1, 10);
                bench = new Bench().set(Bench.FLAGS, Bench.CARRY).set(3, Bench.DATA).store(Bench.DATA, 12).set(1, 10);
                bench.done(sized(bytes, 8 * k) + "0B").holds(what, Bench.DATA, want).has(what, 1, 10);
                bench = new Bench().set(Bench.FLAGS, Bench.CARRY).set(3, 10).set(1, beyond | 12);
                bench.done(sized(bytes, 8 * k + 2) + "CB").has(what, 1, beyond | want).has(what, 3, 10);
                bench = new Bench().set(Bench.FLAGS, Bench.CARRY).set(3, Bench.DATA).store(Bench.DATA, 10).set(1, beyond | 12);
                bench.done(sized(bytes, 8 * k + 2) + "0B").has(what, 1, beyond | want).holds(what, Bench.DATA, 10);
                bench = new Bench().set(Bench.FLAGS, Bench.CARRY).set(0, beyond | 12);
                bench.done(sized(bytes, 8 * k + 4) + Bench.hex(10, Math.min(bytes, 4))).has(what, 0, beyond | want);
            }
            new Bench().refused(Bench.hex(8 * k + 6, 1) + "C0", Bench.UNKNOWN);
            if (k != 1) {
                new Bench().refused(Bench.hex(8 * k + 7, 1) + "C0", Bench.UNKNOWN);
            }
            // What CMP doesn't change needn't be written.
            Bench bench = new Bench().map(5, 0x5005).set(3, Bench.DATA);
            if (k == 7) {
                bench.done("38 0B").done("39 0B");
            } else {
                bench.page(Bench.hex(8 * k, 1) + "0B", Bench.DATA, 3).page(Bench.hex(8 * k + 1, 1) + "0B", Bench.DATA, 3);
            }
            bench.done(Bench.hex(8 * k + 2, 1) + "0B").done(Bench.hex(8 * k + 3, 1) + "0B");
        }
    }

    private static void sumsWithNumbers() {
        for (int k = 0; k < 8; k++) {
            String register = Bench.hex(0xC3 | k << 3, 1);
            String memory = Bench.hex(0x03 | k << 3, 1);
            for (int bytes : SIZES) {
                long beyond = bytes >= 4 ? 0 : 0x5555000000000000L;
                String number = Bench.hex(10, Math.min(bytes, 4));
                Bench bench = new Bench().set(Bench.FLAGS, Bench.CARRY).set(3, beyond | 12);
                bench.done(sized(bytes, 0x80) + register + number).has("80, 81 by REG " + k, 3, beyond | RESULTS[k]);
                bench = new Bench().set(Bench.FLAGS, Bench.CARRY).set(3, Bench.DATA).store(Bench.DATA, 12);
                bench.done(sized(bytes, 0x80) + memory + number).holds("80, 81 by REG " + k, Bench.DATA, RESULTS[k]);
                if (bytes > 1) {
                    bench = new Bench().set(Bench.FLAGS, Bench.CARRY).set(3, beyond | 12);
                    bench.done(Bench.prefix(bytes) + "83" + register + "0A").has("83 by REG " + k, 3, beyond | RESULTS[k]);
                }
            }
            new Bench().refused("82" + register + "0A", Bench.UNKNOWN);
            Bench bench = new Bench().map(5, 0x5005).set(3, Bench.DATA);
            if (k == 7) {
                bench.done("80 3B 00").done("81 3B 00000000").done("83 3B 00");
            } else {
                bench.page("80" + memory + "00", Bench.DATA, 3).page("81" + memory + "00000000", Bench.DATA, 3);
                bench.page("83" + memory + "00", Bench.DATA, 3);
            }
        }
        new Bench().set(3, 0).done("48 83 C3 80").has("83 has a sign", 3, -128).done("48 81 C3 80000000").has("81", 3, 0);
        new Bench().set(3, 0).done("80 C3 80").has("80 has size 1", 3, 0x80).done("66 83 EB FF").has("83 of 2", 3, 0x81);
    }

    private static void withCarry() {
        for (int bytes : SIZES) {
            long mask = Bench.mask(bytes);
            for (int carry = 0; carry < 2; carry++) {
                addWithCarry(bytes, mask, 0, carry, carry == 1 ? 0 : mask, carry);
                addWithCarry(bytes, mask, mask, carry, mask - 1 + carry, 1);
                addWithCarry(bytes, 0, 0, carry, carry, 0);
                addWithCarry(bytes, mask >>> 1, 0, carry, (mask >>> 1) + carry, 0);
                lessWithCarry(bytes, 0, 0, carry, -carry & mask, carry);
                lessWithCarry(bytes, 0, mask, carry, 1 - carry, 1);
                lessWithCarry(bytes, mask, mask, carry, -carry & mask, carry);
                lessWithCarry(bytes, 5, 4, carry, 1 - carry, 0);
            }
        }
        Bench bench = new Bench().set(0, 0x0F).set(Bench.FLAGS, Bench.CARRY).done("14 00")
                .has("HALF by CARRY", Bench.FLAGS, Bench.HALF);
        bench.set(0, 0x10).set(Bench.FLAGS, Bench.CARRY).done("1C 00")
                .has("HALF by CARRY", Bench.FLAGS, Bench.HALF | Bench.PARITY);
        bench.set(0, 0x7F).set(Bench.FLAGS, Bench.CARRY).done("14 00")
                .has("OVER by CARRY", Bench.FLAGS, Bench.OVER | Bench.SIGN | Bench.HALF);
        bench.set(0, 0x80).set(Bench.FLAGS, Bench.CARRY).done("1C 00").has("OVER by CARRY", Bench.FLAGS, Bench.OVER | Bench.HALF);
        // The others go without it.
        bench.set(Bench.FLAGS, Bench.CARRY).set(0, 1).done("04 01").has("ADD", 0, 2).set(Bench.FLAGS, Bench.CARRY).done("2C 01")
                .has("SUB", 0, 1);
        bench.set(Bench.FLAGS, Bench.CARRY).done("3C 01").has("CMP", Bench.FLAGS, Bench.ZERO | Bench.PARITY);
    }

    private static void addWithCarry(int bytes, long first, long second, int carry, long want, int out) {
        Bench bench = new Bench().set(3, first).set(1, second).set(Bench.FLAGS, carry);
        bench.done(sized(bytes, 0x10) + "CB").has("ADC of " + bytes, 3, want);
        bench.has("ADC of " + bytes, Bench.FLAGS, SumTest.sumFlags(false, first, second, carry, bytes));
        Bench.due("its CARRY", bench.get(Bench.FLAGS) & 1, out);
    }

    private static void lessWithCarry(int bytes, long first, long second, int carry, long want, int out) {
        Bench bench = new Bench().set(3, first).set(1, second).set(Bench.FLAGS, carry);
        bench.done(sized(bytes, 0x18) + "CB").has("SBB of " + bytes, 3, want);
        bench.has("SBB of " + bytes, Bench.FLAGS, SumTest.sumFlags(true, first, second, carry, bytes));
        Bench.due("its CARRY", bench.get(Bench.FLAGS) & 1, out);
    }

    private static void logic() {
        String[] texts = {"08 CB", "20 CB", "30 CB", "84 CB", "09 CB", "48 21 CB", "66 31 CB", "85 CB", "80 CB 80", "83 E3 FF",
            "81 F3 00000080", "F6 C3 80", "F7 C3 FFFFFFFF", "A8 80", "A9 FFFFFFFF", "0C FF", "25 FFFFFFFF", "35 00000080"};
        for (String text : texts) {
            for (int undefined : new int[] {0, -1}) {
                for (long value : new long[] {0, -1, 0x80, 0xFFFFFFFF80000000L}) {
                    Bench bench = new Bench().set(Bench.FLAGS, Bench.SEVEN).set(Bench.UNDEFINED, undefined);
                    bench.set(3, value).set(1, value).set(0, value).done(text);
                    long flags = bench.get(Bench.FLAGS);
                    Bench.due(text + " CARRY and OVER", flags & (Bench.CARRY | Bench.OVER), 0);
                    Bench.due(text + " HALF", flags & Bench.HALF, undefined & Bench.HALF);
                    Bench.due(text + " DOWN", flags & Bench.DOWN, Bench.DOWN);
                }
            }
        }
        new Bench().set(3, 0).set(1, 0).done("30 CB").has("0", Bench.FLAGS, Bench.ZERO | Bench.PARITY);
        new Bench().set(3, 0x80).set(1, 0x80).done("20 CB").has("SIGN", Bench.FLAGS, Bench.SIGN).done("30 CB").has("none", 3, 0);
    }

    private static void tests() {
        for (int bytes : SIZES) {
            long top = 1L << 8 * bytes - 1;
            int even = bytes == 1 ? 0 : Bench.PARITY;
            int zero = Bench.ZERO | Bench.PARITY;
            String number = Bench.hex(-1, Math.min(bytes, 4));
            Bench bench = new Bench().set(3, top | 1).set(1, top);
            bench.done(sized(bytes, 0x84) + "CB").has("84, 85", Bench.FLAGS, Bench.SIGN | even).has("e stays", 3, top | 1);
            bench.has("g stays", 1, top).set(1, top >>> 1 & ~1L).done(sized(bytes, 0x84) + "CB")
                    .has("nothing alike", Bench.FLAGS, zero);
            bench.set(0, top).done(sized(bytes, 0xA8) + number).has("A8, A9", Bench.FLAGS, Bench.SIGN | even)
                    .has("stays", 0, top);
            bench.set(0, bytes == 8 ? 0 : ~Bench.mask(bytes)).done(sized(bytes, 0xA8) + number)
                    .has("beyond it", Bench.FLAGS, zero);
            bench.set(0, -1).done(sized(bytes, 0xA8) + Bench.hex(5, Math.min(bytes, 4))).has("it changes nothing", 0, -1);
            bench.set(3, -1).set(1, 5).done(sized(bytes, 0x84) + "CB").has("nor e", 3, -1).has("nor g", 1, 5);
            bench.map(5, 0x5005).set(3, Bench.DATA).done(sized(bytes, 0x84) + "0B");
        }
        new Bench().set(0, 0x1200).done("84 E4").has("bits 8 .. 15", Bench.FLAGS, Bench.PARITY);
    }

    private static void changePlaces() {
        for (int bytes : SIZES) {
            Bench bench = new Bench().set(3, OLD).set(1, OTHER).set(Bench.FLAGS, Bench.SEVEN).done(sized(bytes, 0x86) + "CB");
            bench.has("e", 3, Bench.kept(OLD, OTHER, bytes)).has("g", 1, Bench.kept(OTHER, OLD, bytes));
            bench.set(3, Bench.DATA).store(Bench.DATA, OLD).set(1, OTHER).done(sized(bytes, 0x86) + "0B");
            bench.holds("e", Bench.DATA, OLD & ~Bench.mask(bytes) | OTHER & Bench.mask(bytes));
            bench.has("g", 1, Bench.kept(OTHER, OLD, bytes)).has("no flags", Bench.FLAGS, Bench.SEVEN);
            bench.set(3, OLD).done(sized(bytes, 0x86) + "DB").has("one register", 3, Bench.kept(OLD, OLD, bytes));
            bench.map(5, 0x5005).set(3, Bench.DATA).page(sized(bytes, 0x86) + "0B", Bench.DATA, 3);
            bench.set(3, Bench.FIRST_WRONG).refused(sized(bytes, 0x86) + "0B", Bench.WRONG);
        }
        new Bench().set(0, 0x1234).done("86 E0").has("two bytes of one register", 0, 0x3412);
    }

    private static void moves() {
        for (int bytes : SIZES) {
            Bench bench = new Bench().set(3, OLD).set(1, OTHER).set(Bench.FLAGS, Bench.SEVEN).done(sized(bytes, 0x88) + "CB");
            bench.has("88, 89", 3, Bench.kept(OLD, OTHER, bytes)).has("88, 89", 1, OTHER);
            bench.set(3, OLD).done(sized(bytes, 0x8A) + "CB").has("8A, 8B", 1, Bench.kept(OTHER, OLD, bytes))
                    .has("8A, 8B", 3, OLD);
            String number = Bench.hex(-2, Math.min(bytes, 4));
            bench.done(sized(bytes, 0xC6) + "C3" + number).has("C6, C7", 3, Bench.kept(OLD, -2, bytes));
            for (int o = 0; o < 8; o++) {
                int goal = bytes == 1 ? o & 3 : o;
                bench.set(goal, OLD)
                        .done(Bench.prefix(bytes) + Bench.hex((bytes == 1 ? 0xB0 : 0xB8) | o, 1) + Bench.hex(OTHER, bytes));
                long upper = OLD & ~0xFF00L | (OTHER & 255) << 8;
                bench.has("B0 .. BF", goal, bytes == 1 && o > 3 ? upper : Bench.kept(OLD, OTHER, bytes));
            }
            bench.has("no flags", Bench.FLAGS, Bench.SEVEN).set(3, 0x9000).page(sized(bytes, 0x88) + "0B", 0x9000, 2);
            bench.page(sized(bytes, 0x8A) + "0B", 0x9000, 0).page(sized(bytes, 0xC6) + "03" + number, 0x9000, 2);
            bench.set(3, Bench.DATA).map(5, 0x5005).done(sized(bytes, 0x8A) + "0B")
                    .page(sized(bytes, 0x88) + "0B", Bench.DATA, 3);
            for (int reg = 1; reg < 8; reg++) {
                bench.refused(sized(bytes, 0xC6) + Bench.hex(0xC3 | reg << 3, 1) + number, Bench.UNKNOWN);
            }
        }
        new Bench().done("48 B8 FFFFFFFFFFFFFF7F").has("8 bytes", 0, Long.MAX_VALUE).done("B8 FFFFFFFF")
                .has("4 bytes", 0, 0xFFFFFFFFL);
        new Bench().done("66 48 BB 0000000000000080").has("66 with W", 3, Long.MIN_VALUE);
    }

    private static void placeOfE() {
        Bench bench = new Bench().set(3, 0x123456789ABCDEF0L).set(1, -1).set(Bench.FLAGS, Bench.SEVEN);
        bench.done("8D 0B").has("of 4", 1, 0x9ABCDEF0L).set(1, -1).done("66 8D 0B").has("of 2", 1, 0xFFFFFFFFFFFFDEF0L);
        bench.done("48 8D 0B").has("of 8, a wrong place", 1, 0x123456789ABCDEF0L);
        bench.set(3, 0x9000).done("48 8D 0B").has("one that isn't there", 1, 0x9000).has("no flags", Bench.FLAGS, Bench.SEVEN);
        for (int modrm = 0xC0; modrm < 0x100; modrm++) {
            Bench.due("MOD 3", new Bench().step("48 8D" + Bench.hex(modrm, 1)), Bench.UNKNOWN);
        }
        bench.refused("8D C0", Bench.UNKNOWN).refused("66 8D FF", Bench.UNKNOWN);
        bench.set(4, Bench.FIRST_WRONG).done("48 8D 4C 24 F8").has("of the stack", 1, Bench.FIRST_WRONG - 8);
    }

    private static void withSign() {
        Bench bench = new Bench().set(3, 0x11111111_80008000L).set(Bench.FLAGS, Bench.SEVEN);
        bench.done("48 63 C3").has("of 8", 0, 0xFFFFFFFF80008000L).set(0, -1).done("63 C3").has("of 4", 0, 0x80008000L);
        bench.set(0, OLD).done("66 63 C3").has("of 2", 0, Bench.kept(OLD, 0x8000, 2));
        bench.set(3, 0xFFFFFFFF7FFFFFFFL).done("48 63 C3").has("without a sign", 0, 0x7FFFFFFF);
        bench.store(Bench.DATA, 0x80000000L).set(3, Bench.DATA).done("48 63 03").has("of memory", 0, 0xFFFFFFFF80000000L);
        // No more than these bytes are looked up.
        bench.set(3, 0x7FFC).done("48 63 03").done("63 03").set(3, 0x7FFD).page("48 63 03", 0x8000, 0);
        bench.set(3, 0x7FFE).done("66 63 03").page("63 03", 0x8000, 0).has("no flags", Bench.FLAGS, Bench.SEVEN);
    }

    private static void withRegister0() {
        for (int register = 1; register < 16; register++) {
            int low = register & 7;
            for (int bytes = 2; bytes <= 8; bytes *= 2) {
                String text = (bytes == 2 ? "66" : "") + Bench.hex(0x40 | (bytes == 8 ? 8 : 0) | register >> 3, 1) + Bench.hex(0x90 | low, 1);
                Bench bench = new Bench().set(0, OLD).set(register, OTHER).set(Bench.FLAGS, Bench.SEVEN).done(text);
                bench.has(text, 0, Bench.kept(OLD, OTHER, bytes)).has(text, register, Bench.kept(OTHER, OLD, bytes));
                bench.has("no flags", Bench.FLAGS, Bench.SEVEN);
            }
        }
        for (String text : new String[] {"90", "66 90", "48 90", "40 90", "4E 90", "F3 90", "F2 90", "41 66 90"}) {
            new Bench().set(0, OLD).set(8, OTHER).done(text).has(text, 0, OLD).has(text, 8, OTHER);
        }
    }

    private static void signs() {
        for (int bytes = 2; bytes <= 8; bytes *= 2) {
            long low = 1L << 4 * bytes - 1;
            long top = 1L << 8 * bytes - 1;
            long beyond = bytes == 8 ? 0 : 0x5555000000000000L;
            String prefix = Bench.prefix(bytes);
            for (long value : new long[] {low, low - 1, 0, -1, top, top - 1, beyond | low, beyond | top}) {
                Bench bench = new Bench().set(0, value).set(2, OLD).set(Bench.FLAGS, Bench.SEVEN);
                bench.done(prefix + "99").has("99 of " + bytes, 2, Bench.kept(OLD, (value & top) != 0 ? -1 : 0, bytes))
                        .has("stays", 0, value);
                long half = value & (low << 1) - 1;
                long whole = (value & low) != 0 ? half | -low : half;
                bench.done(prefix + "98").has("98 of " + bytes, 0, Bench.kept(value, whole, bytes))
                        .has("no flags", Bench.FLAGS, Bench.SEVEN);
            }
        }
    }

    private static void neighbours() {
        for (int bytes : SIZES) {
            long mask = Bench.mask(bytes);
            long top = 1L << 8 * bytes - 1;
            int even = bytes == 1 ? 0 : Bench.PARITY;
            int zero = Bench.ZERO | Bench.PARITY;
            for (int carry = 0; carry < 2; carry++) {
                neighbour(bytes, true, mask, 0, zero | Bench.HALF, carry);
                neighbour(bytes, true, top - 1, top, Bench.OVER | Bench.SIGN | Bench.HALF | even, carry);
                neighbour(bytes, true, 0, 1, 0, carry);
                neighbour(bytes, false, 0, mask, Bench.SIGN | Bench.PARITY | Bench.HALF, carry);
                neighbour(bytes, false, top, top - 1, Bench.OVER | Bench.HALF | even, carry);
                neighbour(bytes, false, 1, 0, zero, carry);
            }
            for (int reg = 2; reg < 8; reg++) {
                if (bytes == 1 || reg % 2 == 1) {
                    new Bench().refused(sized(bytes, 0xFE) + Bench.hex(0xC3 | reg << 3, 1), Bench.UNKNOWN);
                }
            }
        }
    }

    private static void neighbour(int bytes, boolean more, long value, long want, int flags, int carry) {
        String reg = more ? "C3" : "CB";
        Bench bench = new Bench().set(3, value).set(Bench.FLAGS, carry | Bench.DOWN).set(Bench.UNDEFINED, 1 - carry);
        bench.done(sized(bytes, 0xFE) + reg).has("register of " + bytes, 3, want)
                .has("flags", Bench.FLAGS, flags | carry | Bench.DOWN);
        bench.set(3, Bench.DATA).store(Bench.DATA, value).done(sized(bytes, 0xFE) + (more ? "03" : "0B"));
        long beyond = bytes == 8 ? 0 : 0x5500000000000000L;
        bench.holds("memory of " + bytes, Bench.DATA, want).store(Bench.DATA, beyond | value)
                .done(sized(bytes, 0xFE) + (more ? "03" : "0B"));
        bench.holds("what lies behind it", Bench.DATA, beyond | want).map(5, 0x5005)
                .page(sized(bytes, 0xFE) + (more ? "03" : "0B"), Bench.DATA, 3);
    }

    private static void byReg() {
        for (int bytes : SIZES) {
            long mask = Bench.mask(bytes);
            long top = 1L << 8 * bytes - 1;
            int even = bytes == 1 ? 0 : Bench.PARITY;
            String opcode = sized(bytes, 0xF6);
            String number = Bench.hex(-1, Math.min(bytes, 4));
            Bench bench = new Bench().set(3, top).set(Bench.FLAGS, Bench.SIX).done(opcode + "C3" + number);
            bench.has("TEST", Bench.FLAGS, Bench.SIGN | even).has("TEST", 3, top);
            bench.set(3, -1).done(opcode + "C3" + Bench.hex(5, Math.min(bytes, 4))).has("TEST changes nothing", 3, -1);
            bench.refused(opcode + "CB" + number, Bench.UNKNOWN).set(Bench.FLAGS, Bench.SEVEN);
            bench.set(3, 0).done(opcode + "D3").has("all bits of 0", 3, mask).done(opcode + "D3").has("all bits of 1s", 3, 0);
            bench.has("no flags", Bench.FLAGS, Bench.SEVEN).set(Bench.FLAGS, 0).done(opcode + "D3")
                    .has("no flags", Bench.FLAGS, 0);
            bench.set(3, 0).set(Bench.FLAGS, Bench.SIX).done(opcode + "DB").has("0 less 0", 3, 0);
            bench.has("0 less 0", Bench.FLAGS, Bench.ZERO | Bench.PARITY).set(3, 1).done(opcode + "DB").has("0 less 1", 3, mask);
            bench.has("0 less 1", Bench.FLAGS, Bench.CARRY | Bench.HALF | Bench.SIGN | Bench.PARITY);
            bench.set(3, top).done(opcode + "DB").has("0 less the least", 3, top);
            bench.has("0 less the least", Bench.FLAGS, Bench.CARRY | Bench.OVER | Bench.SIGN | even);
            bench.set(3, mask).done(opcode + "DB").has("0 less -1", 3, 1).has("0 less -1", Bench.FLAGS, Bench.CARRY | Bench.HALF);
            bench.map(5, 0x5005).set(3, Bench.DATA).done(opcode + "03" + number).page(opcode + "13", Bench.DATA, 3);
            bench.page(opcode + "1B", Bench.DATA, 3);
        }
    }

    /** Register 0, times or by the number in register 3, and what the two halves are then. */
    private static Bench twoHalves(Bench bench, String what, int bytes, long low, long high) {
        if (bytes == 1) {
            return bench.has(what, 0, OLD & ~0xFFFFL | high << 8 | low).has(what, 2, OTHER);
        }
        return bench.has(what, 0, Bench.kept(OLD, low, bytes)).has(what, 2, Bench.kept(OTHER, high, bytes));
    }

    private static void product(int bytes, boolean signs, long first, long second, long low, long high, boolean spills) {
        for (int open : new int[] {0, -1}) {
            Bench bench = new Bench().set(0, Bench.kept(OLD, first, bytes) | (bytes >= 4 ? 0 : OLD & ~Bench.mask(bytes)))
                    .set(2, OTHER);
            bench.set(3, second).set(Bench.FLAGS, Bench.DOWN | ~open & Bench.SIX).set(Bench.UNDEFINED, open);
            bench.done(sized(bytes, 0xF6) + (signs ? "EB" : "E3"));
            String what = (signs ? "IMUL of " : "MUL of ") + bytes + ": " + first + " times " + second;
            int both = Bench.CARRY | Bench.OVER;
            twoHalves(bench, what, bytes, low & Bench.mask(bytes), high & Bench.mask(bytes));
            bench.has(what, Bench.FLAGS, Bench.DOWN | (spills ? both : 0) | open & Bench.SIX & ~both);
        }
    }

    private static void products() {
        for (int bytes : SIZES) {
            long mask = Bench.mask(bytes);
            long top = 1L << 8 * bytes - 1;
            long root = 1L << 4 * bytes;
            product(bytes, false, 0, mask, 0, 0, false);
            product(bytes, false, 1, mask, mask, 0, false);
            product(bytes, false, mask, mask, 1, mask - 1, true);
            product(bytes, false, root, root, 0, 1, true);
            product(bytes, false, root - 1, root + 1, mask, 0, false);
            product(bytes, false, top, 2, 0, 1, true);
            product(bytes, true, 0, mask, 0, 0, false);
            product(bytes, true, mask, 0, 0, 0, false);
            product(bytes, true, top, 0, 0, 0, false);
            product(bytes, true, 1, mask, mask, mask, false);
            product(bytes, true, mask, mask, 1, 0, false);
            product(bytes, true, top, mask, top, 0, true);
            product(bytes, true, top, 1, top, mask, false);
            product(bytes, true, top, top, 0, top >>> 1, true);
            product(bytes, true, top - 1, 2, mask - 1, 0, true);
            product(bytes, true, top - 1, 1, top - 1, 0, false);
            product(bytes, true, root, root, 0, 1, true);
            Bench bench = new Bench().set(3, 0x9000).page(sized(bytes, 0xF6) + "23", 0x9000, 0)
                    .page(sized(bytes, 0xF6) + "2B", 0x9000, 0);
        }
    }

    private static Bench divided(int bytes, long high, long low, long divisor, int flags, int open) {
        Bench bench = new Bench().set(3, divisor).set(Bench.FLAGS, flags).set(Bench.UNDEFINED, open);
        if (bytes == 1) {
            return bench.set(0, OLD & ~0xFFFFL | (high & 255) << 8 | low & 255).set(2, OTHER);
        }
        long beyond = bytes == 2 ? ~0xFFFFL : 0;
        return bench.set(0, OLD & beyond | low & Bench.mask(bytes)).set(2, OTHER & beyond | high & Bench.mask(bytes));
    }

    private static void quotient(int bytes, boolean signs, long[] dividend, long divisor, long quotient, long rest) {
        String text = sized(bytes, 0xF6) + (signs ? "FB" : "F3");
        String what = text + ": " + dividend[0] + ", " + dividend[1] + " by " + divisor;
        for (int open : new int[] {0, -1}) {
            Bench bench = divided(bytes, dividend[0], dividend[1], divisor, ~open, open).done(text);
            twoHalves(bench, what, bytes, quotient & Bench.mask(bytes), rest & Bench.mask(bytes));
            bench.has(what, Bench.FLAGS, open & Bench.SIX | ~open & Bench.DOWN);
        }
    }

    private static void noQuotient(int bytes, boolean signs, long high, long low, long divisor) {
        divided(bytes, high, low, divisor, Bench.SEVEN, 0).refused(sized(bytes, 0xF6) + (signs ? "FB" : "F3"), Bench.DIVIDE);
    }

    private static void quotients() {
        for (int bytes : SIZES) {
            long mask = Bench.mask(bytes);
            long top = 1L << 8 * bytes - 1;
            noQuotient(bytes, false, 0, 0, 0);
            noQuotient(bytes, false, mask, mask, 0);
            noQuotient(bytes, true, 0, 5, 0);
            quotient(bytes, false, new long[] {0, 0}, 1, 0, 0);
            quotient(bytes, false, new long[] {0, mask}, 1, mask, 0);
            noQuotient(bytes, false, 1, 0, 1);
            quotient(bytes, false, new long[] {6, mask}, 7, mask, 6);
            noQuotient(bytes, false, 7, 0, 7);
            quotient(bytes, false, new long[] {mask - 1, mask}, mask, mask, mask - 1);
            noQuotient(bytes, false, mask, 0, mask);
            quotient(bytes, false, new long[] {0, 5}, mask, 0, 5);
            quotient(bytes, true, new long[] {-1, -7}, 2, -3, -1);
            quotient(bytes, true, new long[] {0, 7}, -2, -3, 1);
            quotient(bytes, true, new long[] {-1, -7}, -2, 3, -1);
            quotient(bytes, true, new long[] {0, 7}, 2, 3, 1);
            quotient(bytes, true, new long[] {0, top - 1}, 1, top - 1, 0);
            noQuotient(bytes, true, 0, top, 1);
            quotient(bytes, true, new long[] {-1, top}, 1, top, 0);
            noQuotient(bytes, true, -1, top, -1);
            noQuotient(bytes, true, -1, top - 1, 1);
            quotient(bytes, true, new long[] {0, top}, -1, top, 0);
            noQuotient(bytes, true, 0, top + 1, -1);
            quotient(bytes, true, new long[] {0, top + 1}, -2, -(top >>> 1), 1);
            quotient(bytes, true, new long[] {0, mask}, 2, top - 1, 1);
            noQuotient(bytes, true, 1, 0, 2);
            quotient(bytes, true, new long[] {-1, 0}, 2, top, 0);
            quotient(bytes, true, new long[] {-1, mask}, 2, 0, -1);
            quotient(bytes, true, new long[] {-2, mask}, 2, top, -1);
            noQuotient(bytes, true, -2, mask - 1, 2);
            noQuotient(bytes, true, top, 0, top);
            quotient(bytes, true, new long[] {0, 5}, top, 0, 5);
        }
    }

    private static void shortProduct(int bytes, long first, long second, long low, boolean spills) {
        for (int open : new int[] {0, -1}) {
            int both = Bench.CARRY | Bench.OVER;
            int flags = Bench.DOWN | (spills ? both : 0) | open & Bench.SIX & ~both;
            Bench bench = new Bench().set(Bench.FLAGS, Bench.SEVEN).set(Bench.UNDEFINED, open).set(3, first).set(1, second)
                    .set(2, OLD);
            bench.done(Bench.prefix(bytes) + "0F AF D9").has("0F AF of " + bytes, 3, Bench.kept(first, low, bytes))
                    .has("flags", Bench.FLAGS, flags);
            if (second == (int) second) {
                bench.set(Bench.FLAGS, Bench.SEVEN).set(3, first)
                        .done(Bench.prefix(bytes) + "69 D3" + Bench.hex(second, Math.min(bytes, 4)));
                bench.has("69 of " + bytes, 2, Bench.kept(OLD, low, bytes)).has("flags", Bench.FLAGS, flags)
                        .has("e stays", 3, first);
            }
            if (second == (byte) second) {
                bench.set(Bench.FLAGS, Bench.SEVEN).set(2, OLD).done(Bench.prefix(bytes) + "6B D3" + Bench.hex(second, 1));
                bench.has("6B of " + bytes, 2, Bench.kept(OLD, low, bytes)).has("flags", Bench.FLAGS, flags);
            }
            bench.has("no upper half", 0, 0);
        }
    }

    private static void shortProducts() {
        for (int bytes = 2; bytes <= 8; bytes *= 2) {
            long top = 1L << 8 * bytes - 1;
            long root = 1L << 4 * bytes;
            shortProduct(bytes, 0, -1, 0, false);
            shortProduct(bytes, -1, -1, 1, false);
            shortProduct(bytes, top, -1, top, true);
            shortProduct(bytes, top, 1, top, false);
            shortProduct(bytes, top - 1, 2, -2, true);
            shortProduct(bytes, top >>> 1, 2, top, true);
            shortProduct(bytes, top >>> 1, -2, top, false);
            shortProduct(bytes, root, root, 0, true);
            shortProduct(bytes, 127, -128, -16256, false);
            Bench bench = new Bench().set(3, 0x9000).page(Bench.prefix(bytes) + "0F AF 03", 0x9000, 0)
                    .page(Bench.prefix(bytes) + "6B 03 00", 0x9000, 0);
        }
    }
}
