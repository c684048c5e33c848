/** Tests of the sentences about rotations, shifts, conditions, single bits and single flags. */
final class BitSentences {
    private static final int[] SIZES = {1, 2, 4, 8};
    private static final long OLD = 0xFFEEDDCCBBAA9988L;
    private static final long OTHER = 0x1122334455667711L;

    private BitSentences() {
    }

    static void all() {
        Sentences.test("C0 e b, C1 e v: by i b; D0, D1: by 1; D2, D3: by register 1's lowest byte; of the count the lowest 5 bits "
                + "(6 of size 8) count; 0: nothing at all happens to flags (the operand is written).", BitSentences::counts);
        Sentences.test("REG 0 ROL, 1 ROR, 2 RCL, 3 RCR (through CARRY, by the count modulo 9, 17 of sizes 1, 2), 4 SHL, 5 SHR, 7 "
                + "SAR (6 UNKNOWN).", BitSentences::kinds);
        Sentences.test("Rotations: CARRY: ROL the lowest bit, ROR the highest of the result (RCL, RCR what is in it then); others "
                + "stay; but OVER: with count 1 (before the modulo) the result's highest bit xor CARRY (ROL, RCL), its two "
                + "highest bits xor (ROR, RCR); else undefined.", BitSentences::rotations);
        Sentences.test("Shifts: CARRY the last bit that went out (SHL, SHR by more than the size: undefined, SAR the sign); OVER "
                + "with count 1: SHL highest bit xor CARRY, SHR the highest bit before, SAR 0; else undefined; HALF undefined; "
                + "SIGN, ZERO, PARITY of the result.", BitSentences::shifts);
        Sentences.test("0F 40 .. 4F: g v becomes e v if the CONDITION holds (e is read anyway; of size 4 the upper half becomes 0 "
                + "anyway).", BitSentences::movesIf);
        Sentences.test("0F 90 .. 9F: e b becomes 1 or 0.", BitSentences::setsIf);
        Sentences.test("CONDITIONS by bits 1 .. 3: 0 OVER, 1 CARRY, 2 ZERO, 3 CARRY or ZERO, 4 SIGN, 5 PARITY, 6 SIGN isn't OVER, "
                + "7 that or ZERO; bit 0: not.", BitSentences::conditions);
        Sentences.test("0F B6, B7: g v becomes e of 1, 2 bytes; BE, BF: with its sign.", BitSentences::longer);
        Sentences.test("0F C0 b, C1 v: e and g: g becomes e, e their sum (ADD's flags; if both are one register, the sum).",
                BitSentences::changeAndAdd);
        Sentences.test("0F B0 b, B1 v: CMP register 0, e: if alike, e becomes g; else register 0 becomes e (which is written as it "
                + "was).", BitSentences::compareAndChange);
        Sentences.test("0F C8 .. CF: o of v (of size 2: UNKNOWN) with its bytes turned round.", BitSentences::bytesTurned);
        Sentences.test("0F A3, AB, B3, BB: bit number g of e v (a memory operand: g signed, divided by the bits of v downwards "
                + "tells how many v's farther on it is; else modulo v's bits): to CARRY; then stays, set, cleared, turned; 0F BA "
                + "(4 .. 7) i b: modulo v's bits.", BitSentences::singleBits);
        Sentences.test("OVER, SIGN, HALF, PARITY undefined; ZERO stays.", BitSentences::flagsOfSingleBits);
        Sentences.test("0F BC, BD: g v becomes the number of e's lowest, highest 1; without one ZERO, and g isn't written; the "
                + "other five flags undefined.", BitSentences::lowestAndHighest);
        Sentences.test("F5 turns CARRY, F8 clears, F9 sets it; FC clears, FD sets DOWN.", BitSentences::singleFlags);
    }

    private static String sized(int bytes, int opcode) {
        return Bench.prefix(bytes) + Bench.hex(opcode + (bytes == 1 ? 0 : 1), 1);
    }

    /** Kind by count, with UNDEFINED open; the operand is register 3. */
    private static Bench shift(int kind, int bytes, long value, int count, int flags, int open) {
        Bench bench = new Bench().set(3, value).set(Bench.FLAGS, flags).set(Bench.UNDEFINED, open);
        return bench.done(sized(bytes, 0xC0) + Bench.hex(0xC3 | kind << 3, 1) + Bench.hex(count, 1));
    }

    private static void counts() {
        for (int bytes : SIZES) {
            int bits = bytes == 8 ? 64 : 32;
            for (int count : new int[] {0, 1, 2, 7, 31, 32, 33, 63, 64, 65, 95, 96, 127, 128, 192, 224, 255}) {
                int counts = count % bits;
                // Beyond the size all bits are gone.
                long want = counts >= 8 * bytes ? 0 : 1L << counts & Bench.mask(bytes);
                shift(4, bytes, 1, count, 0, 0).has("C0, C1 by " + count + " of " + bytes, 3, want);
                Bench bench = new Bench().set(3, 1).set(1, 0xFFFFFFFFFFFFFF00L | count).done(sized(bytes, 0xD2) + "E3");
                bench.has("D2, D3 by " + count + " of " + bytes, 3, want);
            }
            for (int kind = 0; kind < 8; kind++) {
                if (kind != 6) {
                    byZero(bytes, kind);
                }
            }
            new Bench().set(3, 1).set(1, 5).done(sized(bytes, 0xD0) + "E3").has("D0, D1", 3, 2);
        }
        new Bench().set(1, 0x100).set(3, 1).done("D3 E3").has("no more than the lowest byte", 3, 1);
    }

    private static void byZero(int bytes, int kind) {
        String reg = Bench.hex(0xC3 | kind << 3, 1);
        int[] zeros = bytes == 8 ? new int[] {0, 64, 128, 192} : new int[] {0, 32, 64, 224};
        for (int count : zeros) {
            for (int flags : new int[] {0, Bench.SEVEN}) {
                Bench bench = shift(kind, bytes, OLD, count, flags, ~flags).has("no flags", Bench.FLAGS, flags);
                bench.has("written", 3, Bench.kept(OLD, OLD, bytes)).set(3, OLD).set(1, count).done(sized(bytes, 0xD2) + reg);
                bench.has("no flags", Bench.FLAGS, flags).has("written", 3, Bench.kept(OLD, OLD, bytes));
            }
            String memory = Bench.hex(0x03 | kind << 3, 1);
            Bench bench = new Bench().map(5, 0x5005).set(3, Bench.DATA).set(1, count);
            bench.page(sized(bytes, 0xC0) + memory + Bench.hex(count, 1), Bench.DATA, 3)
                    .page(sized(bytes, 0xD2) + memory, Bench.DATA, 3);
            bench.map(5, 0x5007).store(Bench.DATA, OLD).done(sized(bytes, 0xD2) + memory).holds("as it was", Bench.DATA, OLD);
        }
    }

    private static void kinds() {
        int[] kinds = {0, 1, 2, 3, 4, 5, 7};
        // Of size 1, by 3, with CARRY: 96 is 10010110.
        long[] by3 = {0xB4, 0xD2, 0xB6, 0xB2, 0xB0, 0x12, 0xF2};
        for (int i = 0; i < kinds.length; i++) {
            shift(kinds[i], 1, 0x96, 3, Bench.CARRY, 0).has("kind " + kinds[i], 3, by3[i]);
        }
        for (String opcode : new String[] {"C0", "C1", "D0", "D1", "D2", "D3"}) {
            new Bench().refused(opcode + "F3 01", Bench.UNKNOWN).refused("48" + opcode + "33 01", Bench.UNKNOWN);
            new Bench().refused("66" + opcode + "74 23 01 01", Bench.UNKNOWN);
        }
        for (int left = 0; left < 2; left++) {
            int kind = left == 1 ? 2 : 3;
            for (int carry = 0; carry < 2; carry++) {
                // All bits come back where they were, CARRY too.
                for (int count : new int[] {9, 18, 27}) {
                    shift(kind, 1, 0x96, count, carry, 0).has("size 1 by " + count, 3, 0x96).has("CARRY", Bench.FLAGS, carry);
                }
                shift(kind, 2, 0x8196, 17, carry, 0).has("size 2 by 17", 3, 0x8196).has("CARRY", Bench.FLAGS, carry);
                shift(kind, 1, 0x96, 10, carry, 0).has("size 1 by 10", 3, left == 1 ? 0x2C | carry : 0x4B | carry << 7);
                shift(kind, 2, 0x8196, 18, carry, 0).has("size 2 by 18", 3, left == 1 ? 0x032C | carry : 0x40CB | carry << 15);
                shift(kind, 1, 0x96, 8, carry, 0).has("size 1 by 8", 3, left == 1 ? 0x4B | carry << 7 : 0x2C | carry);
                shift(kind, 2, 0x8196, 16, carry, 0).has("size 2 by 16", 3, left == 1 ? 0x40CB | carry << 15 : 0x032C | carry);
                // Of sizes 4 and 8 the count stays below what would need a modulo.
                shift(kind, 4, 1, 31, carry, 0).has("size 4 by 31", 3, left == 1 ? 0x80000000L | carry << 30 : 4 | carry << 1);
                shift(kind, 8, 1, 63, carry, 0)
                        .has("size 8 by 63", 3, left == 1 ? Long.MIN_VALUE | (long) carry << 62 : 4 | carry << 1);
                shift(kind, 4, 1, 32, carry, 0).has("size 4 by 32", 3, 1);
            }
        }
        shift(0, 1, 0x96, 8, 0, 0).has("ROL by the size", 3, 0x96);
        shift(1, 1, 0x96, 31, 0, 0).has("ROR by 31", 3, 0x2D);
        shift(0, 2, 0x8196, 16, 0, 0).has("ROL by the size", 3, 0x8196);
    }

    private static void rotation(int kind, int bytes, long value, int count, int carryBefore, int carry, int over) {
        for (int open : new int[] {0, Bench.OVER}) {
            for (int others : new int[] {0, Bench.SEVEN & ~Bench.CARRY}) {
                Bench bench = shift(kind, bytes, value, count, others | carryBefore, ~Bench.OVER | open);
                int overFlag = over < 0 ? open : over * Bench.OVER;
                bench.has("kind " + kind + " of " + bytes + " by " + count, Bench.FLAGS, others & ~Bench.OVER | carry | overFlag);
            }
        }
    }

    private static void rotations() {
        int open = -1;
        for (int bytes : SIZES) {
            long top = 1L << 8 * bytes - 1;
            int bits = 8 * bytes;
            int most = bytes == 8 ? 63 : 31;
            for (int before = 0; before < 2; before++) {
                rotation(0, bytes, top, 1, before, 1, 1);
                rotation(0, bytes, top >>> 1, 1, before, 0, 1);
                rotation(0, bytes, top | top >>> 1, 1, before, 1, 0);
                rotation(0, bytes, 0, 1, before, 0, 0);
                rotation(0, bytes, top >>> 1, 2, before, 1, open);
                rotation(1, bytes, 1, 1, before, 1, 1);
                rotation(1, bytes, top, 1, before, 0, 1);
                rotation(1, bytes, top | 1, 1, before, 1, 0);
                rotation(1, bytes, 2, 2, before, 1, open);
                rotation(2, bytes, top, 1, before, 1, 1);
                rotation(2, bytes, top >>> 1, 1, before, 0, 1);
                rotation(2, bytes, top | top >>> 1, 1, before, 1, 0);
                rotation(2, bytes, top >>> 1, 2, before, 1, open);
                rotation(3, bytes, 1, 1, before, 1, before);
                rotation(3, bytes, top, 1, before, 0, 1 - before);
                rotation(3, bytes, 2, 2, before, 1, open);
                rotation(0, bytes, -1, most, before, 1, open);
                rotation(3, bytes, 0, 2, before, 0, open);
                // The lowest bits of the count are 1: so it is 1.
                rotation(0, bytes, top, most + 2, before, 1, 1);
                rotation(3, bytes, 1, most + 2, before, 1, before);
                if (bits <= 16) {
                    rotation(0, bytes, 1, bits, before, 1, open);
                    rotation(1, bytes, top, bits, before, 1, open);
                    rotation(0, bytes, top, bits + 1, before, 1, open);
                    rotation(2, bytes, top, bits + 1, before, before, open);
                    rotation(3, bytes, 1, bits + 1, before, before, open);
                    rotation(2, bytes, top, bits + 2, before, 1, open);
                    rotation(3, bytes, 1, bits + 2, before, 1, open);
                }
            }
        }
    }

    /** A flag of -1 is undefined. */
    private static void shifted(int kind, int bytes, long value, int count, long want, int carry, int over) {
        for (int open : new int[] {0, -1}) {
            Bench bench = shift(kind, bytes, value, count, ~open, open);
            int told = (carry < 0 ? open & Bench.CARRY : carry) | (over < 0 ? open & Bench.OVER : over * Bench.OVER);
            int flags = told | open & Bench.HALF | ~open & Bench.DOWN | SumTest.flagsOf(want, bytes);
            String what = "kind " + kind + " of " + bytes + " by " + count;
            bench.has(what, Bench.FLAGS, flags).has(what, 3, Bench.kept(value, want, bytes));
        }
    }

    private static void shifts() {
        int open = -1;
        for (int bytes : SIZES) {
            long top = 1L << 8 * bytes - 1;
            int bits = 8 * bytes;
            int most = bytes == 8 ? 63 : 31;
            shifted(4, bytes, top, 1, 0, 1, 1);
            shifted(4, bytes, top >>> 1, 1, top, 0, 1);
            shifted(4, bytes, top | top >>> 1, 1, top, 1, 0);
            shifted(4, bytes, 1, 1, 2, 0, 0);
            shifted(4, bytes, top >>> 1, 2, 0, 1, open);
            shifted(4, bytes, 1, bits - 1, top, 0, open);
            shifted(5, bytes, top, 1, top >>> 1, 0, 1);
            shifted(5, bytes, 1, 1, 0, 1, 0);
            shifted(5, bytes, top | 1, 1, top >>> 1, 1, 1);
            shifted(5, bytes, 2, 2, 0, 1, open);
            shifted(5, bytes, top, bits - 1, 1, 0, open);
            shifted(7, bytes, top, 1, top | top >>> 1, 0, 0);
            shifted(7, bytes, top | 1, 1, top | top >>> 1, 1, 0);
            shifted(7, bytes, 1, 1, 0, 1, 0);
            shifted(7, bytes, 2, 2, 0, 1, open);
            shifted(7, bytes, top, bits - 1, -1, 0, open);
            shifted(7, bytes, top, most, -1, bits > most ? 0 : 1, open);
            shifted(7, bytes, top - 1, most, 0, bits > most ? 1 : 0, open);
            // The lowest bits of the count are 1: so it is 1.
            shifted(4, bytes, top >>> 1, most + 2, top, 0, 1);
            if (bits <= 16) {
                shifted(4, bytes, 1, bits, 0, 1, open);
                shifted(4, bytes, -2 & Bench.mask(bytes), bits, 0, 0, open);
                shifted(4, bytes, -1 & Bench.mask(bytes), bits + 1, 0, open, open);
                shifted(5, bytes, top, bits, 0, 1, open);
                shifted(5, bytes, top - 1, bits, 0, 0, open);
                shifted(5, bytes, -1 & Bench.mask(bytes), bits + 1, 0, open, open);
                shifted(7, bytes, top, bits, -1, 1, open);
                shifted(7, bytes, top - 1, bits, 0, 0, open);
                shifted(7, bytes, top, bits + 1, -1, 1, open);
                shifted(7, bytes, top - 1, bits + 1, 0, 0, open);
                shifted(4, bytes, 1, 31, 0, open, open);
                shifted(5, bytes, 1, 31, 0, open, open);
            }
        }
    }

    private static boolean holds(int condition, int flags) {
        boolean over = (flags & Bench.OVER) != 0;
        boolean carry = (flags & Bench.CARRY) != 0;
        boolean zero = (flags & Bench.ZERO) != 0;
        boolean sign = (flags & Bench.SIGN) != 0;
        boolean parity = (flags & Bench.PARITY) != 0;
        boolean[] all = {over, carry, zero, carry || zero, sign, parity, sign != over, zero || sign != over};
        return all[condition / 2] == (condition % 2 == 0);
    }

    private static void movesIf() {
        for (int condition = 0; condition < 16; condition++) {
            String opcode = "0F" + Bench.hex(0x40 | condition, 1);
            for (int flags : new int[] {0, Bench.SEVEN, Bench.SIGN, Bench.SEVEN & ~Bench.OVER}) {
                boolean holds = holds(condition, flags);
                for (int bytes = 2; bytes <= 8; bytes *= 2) {
                    Bench bench = new Bench().set(Bench.FLAGS, flags).set(1, OLD).set(3, OTHER)
                            .done(Bench.prefix(bytes) + opcode + "CB");
                    long stays = bytes == 4 ? OLD & 0xFFFFFFFFL : OLD;
                    bench.has(opcode + " of " + bytes, 1, holds ? Bench.kept(OLD, OTHER, bytes) : stays).has("e stays", 3, OTHER);
                    bench.has("no flags", Bench.FLAGS, flags);
                }
                Bench bench = new Bench().set(Bench.FLAGS, flags).set(3, 0x9000).set(1, OLD).page(opcode + "0B", 0x9000, 0);
                bench.set(3, Bench.FIRST_WRONG).refused("48" + opcode + "0B", Bench.WRONG).set(3, 0x7FFC)
                        .page("48" + opcode + "0B", 0x8000, 0);
                bench.map(5, 0x5005).set(3, Bench.DATA).done(opcode + "0B").has("of memory", 1, holds ? 0 : OLD & 0xFFFFFFFFL);
            }
        }
    }

    private static void setsIf() {
        for (int condition = 0; condition < 16; condition++) {
            String opcode = "0F" + Bench.hex(0x90 | condition, 1);
            for (int flags : new int[] {0, Bench.SEVEN, Bench.OVER}) {
                long want = holds(condition, flags) ? 1 : 0;
                Bench bench = new Bench().set(Bench.FLAGS, flags).set(3, OLD).done(opcode + "C3")
                        .has(opcode, 3, OLD & ~255L | want);
                bench.set(3, OLD).done("48" + opcode + "C3").has("W is no matter", 3, OLD & ~255L | want);
                bench.set(3, OLD).done("66" + opcode + "C7").has("bits 8 .. 15", 3, OLD & ~0xFF00L | want << 8);
                bench.set(3, 0x7FFF).bytes(0x7FFF, "FF").done("48" + opcode + "03").holds("1 byte of memory", 0x7FF8, want << 56);
                bench.has("no flags", Bench.FLAGS, flags).map(5, 0x5005).set(3, Bench.DATA).page(opcode + "03", Bench.DATA, 3);
            }
        }
        for (int reg = 0; reg < 8; reg++) {
            new Bench().set(3, 5).done("0F 94" + Bench.hex(0xC3 | reg << 3, 1)).has("any REG", 3, 0);
        }
    }

    private static void conditions() {
        int[] single = {Bench.CARRY, Bench.PARITY, Bench.HALF, Bench.ZERO, Bench.SIGN, Bench.OVER, Bench.DOWN};
        for (int set = 0; set < 128; set++) {
            int flags = 0;
            for (int i = 0; i < 7; i++) {
                flags |= (set >> i & 1) * single[i];
            }
            for (int condition = 0; condition < 16; condition++) {
                boolean holds = holds(condition, flags);
                String what = "condition " + condition + " with flags " + flags;
                Bench bench = new Bench().set(Bench.FLAGS, flags).set(3, 7).set(1, 5);
                bench.done("0F" + Bench.hex(0x40 | condition, 1) + "CB").has(what, 1, holds ? 7 : 5);
                bench.done("0F" + Bench.hex(0x90 | condition, 1) + "C3").has(what, 3, holds ? 1 : 0);
                bench.goes(Bench.hex(0x70 | condition, 1) + "10", Bench.CODE + (holds ? 0x12 : 2));
                bench.goes("0F" + Bench.hex(0x80 | condition, 1) + "10000000", Bench.CODE + (holds ? 0x16 : 6));
            }
        }
    }

    private static void longer() {
        for (int bytes = 2; bytes <= 8; bytes *= 2) {
            String prefix = Bench.prefix(bytes) + "0F";
            for (long value : new long[] {0x7F, 0x80, 0xFF, 0x7FFF, 0x8000, 0xFFFF, 0, 0x5555555555558080L, 0x5555555555557F7FL}) {
                Bench bench = new Bench().set(3, value).set(1, OLD).set(Bench.FLAGS, Bench.SEVEN);
                bench.done(prefix + "B6 CB").has("B6", 1, Bench.kept(OLD, value & 255, bytes)).set(1, OLD);
                bench.done(prefix + "B7 CB").has("B7", 1, Bench.kept(OLD, value & 65535, bytes)).set(1, OLD);
                bench.done(prefix + "BE CB").has("BE", 1, Bench.kept(OLD, (byte) value, bytes)).set(1, OLD);
                bench.done(prefix + "BF CB").has("BF", 1, Bench.kept(OLD, (short) value, bytes))
                        .has("no flags", Bench.FLAGS, Bench.SEVEN);
            }
            Bench bench = new Bench().set(3, 0x7FFF).bytes(0x7FFF, "FE").done(prefix + "B6 0B").has("1 byte alone", 1, 0xFE);
            bench.set(1, 0).done(prefix + "BE 0B").has("1 byte alone", 1, -2 & Bench.mask(bytes));
            bench.page(prefix + "B7 0B", 0x8000, 0).page(prefix + "BF 0B", 0x8000, 0).set(3, 0x7FFE).done(prefix + "B7 0B");
        }
        new Bench().set(3, 0x8000).done("0F B6 CF").has("bits 8 .. 15", 1, 0x80).done("0F BE CF")
                .has("with their sign", 1, 0xFFFFFF80L);
    }

    private static void changeAndAdd() {
        for (int bytes : SIZES) {
            String opcode = Bench.prefix(bytes) + "0F" + (bytes == 1 ? "C0" : "C1");
            long mask = Bench.mask(bytes);
            long top = 1L << 8 * bytes - 1;
            long[][] pairs = {{mask, 1}, {0, 0}, {top, top}, {top - 1, 1}, {5, 6}, {mask, mask}};
            for (long[] pair : pairs) {
                Bench bench = new Bench().set(3, pair[0]).set(1, pair[1]).set(Bench.FLAGS, Bench.SEVEN).done(opcode + "CB");
                bench.has("e", 3, pair[0] + pair[1] & mask).has("g", 1, pair[0]);
                bench.has("flags", Bench.FLAGS, Bench.DOWN | SumTest.sumFlags(false, pair[0], pair[1], 0, bytes));
                bench.set(3, Bench.DATA).store(Bench.DATA, pair[0]).set(1, pair[1]).done(opcode + "0B");
                bench.holds("e", Bench.DATA, pair[0] + pair[1] & mask).has("g", 1, pair[0]);
                bench.set(3, pair[0]).done(opcode + "DB").has("one register", 3, 2 * pair[0] & mask);
                bench.has("flags", Bench.FLAGS, Bench.DOWN | SumTest.sumFlags(false, pair[0], pair[0], 0, bytes));
            }
            Bench bench = new Bench().set(3, OLD).set(1, OTHER).done(opcode + "CB")
                    .has("the rest", 3, Bench.kept(OLD, OLD + OTHER, bytes));
            bench.has("the rest", 1, Bench.kept(OTHER, OLD, bytes)).set(3, Bench.DATA).map(5, 0x5005)
                    .page(opcode + "0B", Bench.DATA, 3);
        }
        new Bench().set(0, 0x0203).done("0F C0 E0").has("two bytes of one register", 0, 0x0305);
    }

    private static void compareAndChange() {
        for (int bytes : SIZES) {
            String opcode = Bench.prefix(bytes) + "0F" + (bytes == 1 ? "B0" : "B1");
            // Register 3 is e, 1 is g.
            long like = OLD & Bench.mask(bytes) | (bytes == 8 ? 0 : 0x7000000000000000L);
            Bench bench = new Bench().set(0, like).set(3, OLD).set(1, OTHER).set(Bench.FLAGS, Bench.SEVEN).done(opcode + "CB");
            bench.has("alike: e", 3, Bench.kept(OLD, OTHER, bytes)).has("alike: register 0", 0, like).has("alike: g", 1, OTHER);
            bench.has("alike: flags", Bench.FLAGS, Bench.DOWN | Bench.ZERO | Bench.PARITY);
            bench.set(0, like ^ 1).set(3, OLD).done(opcode + "CB").has("else: register 0", 0, Bench.kept(like, OLD, bytes));
            bench.has("else: e is written", 3, Bench.kept(OLD, OLD, bytes)).has("else: g", 1, OTHER);
            bench.has("else: flags", Bench.FLAGS, Bench.DOWN | SumTest.sumFlags(true, like ^ 1, OLD, 0, bytes));
            bench.set(3, Bench.DATA).store(Bench.DATA, OLD).set(0, like).done(opcode + "0B");
            bench.holds("alike: memory", Bench.DATA, OLD & ~Bench.mask(bytes) | OTHER & Bench.mask(bytes));
            bench.store(Bench.DATA, OLD).set(0, like ^ 1).done(opcode + "0B").holds("else: memory as it was", Bench.DATA, OLD);
            bench.has("else: register 0", 0, Bench.kept(like, OLD, bytes));
            // Written in both cases: a place that may not be written is refused.
            bench.map(5, 0x5005).set(0, like).page(opcode + "0B", Bench.DATA, 3).set(0, like ^ 1)
                    .page(opcode + "0B", Bench.DATA, 3);
            bench.set(0, OLD).done(opcode + "C8").has("e is register 0", 0, Bench.kept(OLD, OTHER, bytes));
        }
        new Bench().set(0, 0).set(3, 1).done("0F B0 CB")
                .has("0 less 1", Bench.FLAGS, Bench.CARRY | Bench.HALF | Bench.SIGN | Bench.PARITY);
        new Bench().set(0, 0x0705).set(3, 9).done("0F B0 DC").has("two bytes of one register", 0, 0x0707);
    }

    private static void bytesTurned() {
        for (int register = 0; register < 16; register++) {
            String opcode = "0F" + Bench.hex(0xC8 | register & 7, 1);
            String b = Bench.hex(0x40 | register >> 3, 1);
            String wb = Bench.hex(0x48 | register >> 3, 1);
            Bench bench = new Bench().set(Bench.FLAGS, Bench.SEVEN).set(register, 0x0102030405060788L).done(b + opcode);
            bench.has("of 4", register, 0x88070605L).set(register, 0x0102030405060788L).done(wb + opcode);
            bench.has("of 8", register, 0x8807060504030201L).refused("66" + b + opcode, Bench.UNKNOWN);
            bench.done("66" + wb + opcode).has("of 8 with 66", register, 0x0102030405060788L)
                    .has("no flags", Bench.FLAGS, Bench.SEVEN);
        }
        new Bench().refused("66 0F C8", Bench.UNKNOWN).refused("48 66 0F CF", Bench.UNKNOWN);
    }

    private static long changed(int kind, long value, long bit) {
        return kind == 0 ? value : kind == 1 ? value | bit : kind == 2 ? value & ~bit : value ^ bit;
    }

    private static void singleBits() {
        String[] opcodes = {"0F A3", "0F AB", "0F B3", "0F BB"};
        for (int kind = 0; kind < 4; kind++) {
            for (int bytes = 2; bytes <= 8; bytes *= 2) {
                int bits = 8 * bytes;
                for (int number : new int[] {0, 1, bits - 1, bits, bits + 1, 2 * bits - 1, 127, 255, -1, -bits, -bits - 1}) {
                    bitOfRegister(opcodes[kind], kind, bytes, number);
                    bitOfMemory(opcodes[kind], kind, bytes, number);
                }
            }
        }
        for (int reg = 0; reg < 4; reg++) {
            new Bench().refused("0F BA" + Bench.hex(0xC3 | reg << 3, 1) + "00", Bench.UNKNOWN);
        }
        Bench bench = new Bench().set(3, Bench.DATA).set(1, 0x80000000L);
        bench.page("0F A3 0B", Bench.DATA - 0x10000000L, 0).page("0F BB 0B", Bench.DATA - 0x10000000L, 2);
        bench.set(1, 0x7FFFFFFF).page("0F A3 0B", Bench.DATA + 0xFFFFFFCL, 0).page("48 0F A3 0B", Bench.DATA + 0xFFFFFF8L, 0);
        bench.set(1, 0x8000).page("66 0F A3 0B", Bench.DATA - 0x1000, 0).set(1, Long.MIN_VALUE)
                .refused("48 0F A3 0B", Bench.WRONG);
        bench.set(1, Long.MAX_VALUE).refused("48 0F A3 0B", Bench.WRONG).set(5, Bench.DATA)
                .refused("48 0F A3 4D 00", Bench.STACK);
        bench.set(1, -1).page("0F A3 0B", Bench.DATA - 4, 0).page("66 0F AB 0B", Bench.DATA - 2, 2);
        // The place that is used counts, not e's own.
        bench.set(3, 0x8000).set(1, -1).done("0F A3 0B").set(1, 0).page("0F A3 0B", 0x8000, 0);
        bench.set(3, Bench.FIRST_WRONG).set(1, -32).page("0F A3 0B", Bench.FIRST_WRONG - 4, 0);
    }

    private static void bitOfRegister(String opcode, int kind, int bytes, int number) {
        int at = Math.floorMod(number, 8 * bytes);
        String what = opcode + " of " + bytes + ", bit " + number;
        Bench bench = new Bench().set(3, OLD).set(1, number).done(Bench.prefix(bytes) + opcode + "CB");
        long want = kind == 0 ? OLD : Bench.kept(OLD, changed(kind, OLD, 1L << at), bytes);
        bench.has(what, 3, want).has(what, Bench.FLAGS, OLD >>> at & 1).has(what, 1, number);
        at = (number & 255) % (8 * bytes);
        want = kind == 0 ? OLD : Bench.kept(OLD, changed(kind, OLD, 1L << at), bytes);
        bench.set(3, OLD).done(Bench.prefix(bytes) + "0F BA" + Bench.hex(0xE3 | kind << 3, 1) + Bench.hex(number, 1));
        bench.has("BA " + what, 3, want).has("BA " + what, Bench.FLAGS, OLD >>> at & 1);
    }

    private static void bitOfMemory(String opcode, int kind, int bytes, int number) {
        int at = Math.floorMod(number, 8 * bytes);
        int place = Bench.DATA + 0x400 + (number - at) / 8;
        String what = opcode + " of memory, " + bytes + ", bit " + number;
        Bench bench = new Bench().set(3, Bench.DATA + 0x400).set(1, number & Bench.mask(bytes)).store(place, OLD);
        bench.done(Bench.prefix(bytes) + opcode + "0B").holds(what, place, changed(kind, OLD, 1L << at));
        bench.has(what, Bench.FLAGS, OLD >>> at & 1);
        at = (number & 255) % (8 * bytes);
        bench.store(place, 0).store(Bench.DATA + 0x400, OLD);
        bench.done(Bench.prefix(bytes) + "0F BA" + Bench.hex(0x23 | kind << 3, 1) + Bench.hex(number, 1));
        bench.holds("BA " + what, Bench.DATA + 0x400, changed(kind, OLD, 1L << at))
                .has("BA " + what, Bench.FLAGS, OLD >>> at & 1);
    }

    private static void flagsOfSingleBits() {
        String[] texts = {"0F A3 CB", "0F AB CB", "0F B3 CB", "0F BB CB", "0F BA E3 05", "0F BA EB 05", "0F BA F3 05", "0F BA FB 05"};
        for (String text : texts) {
            for (int zero : new int[] {0, Bench.ZERO}) {
                for (int open : new int[] {0, -1, Bench.OVER, Bench.SIGN, Bench.HALF, Bench.PARITY}) {
                    for (int bit = 0; bit < 2; bit++) {
                        int four = Bench.OVER | Bench.SIGN | Bench.HALF | Bench.PARITY;
                        Bench bench = new Bench().set(Bench.UNDEFINED, open ^ zero).set(1, 5).set(3, bit << 5);
                        bench.set(Bench.FLAGS, ~open & ~Bench.ZERO | zero).done(text);
                        bench.has(text, Bench.FLAGS, open & four | zero | bit | ~open & Bench.DOWN);
                    }
                }
            }
        }
    }

    private static void lowestAndHighest() {
        for (int bytes = 2; bytes <= 8; bytes *= 2) {
            String prefix = Bench.prefix(bytes);
            int bits = 8 * bytes;
            long beyond = bytes == 8 ? 0 : ~Bench.mask(bytes);
            for (int low : new int[] {0, 1, bits / 2, bits - 2, bits - 1}) {
                for (int high : new int[] {low, bits - 1}) {
                    for (int open : new int[] {0, -1}) {
                        Bench bench = new Bench().set(3, beyond | 1L << low | 1L << high).set(1, OLD).set(Bench.UNDEFINED, open);
                        int flags = open & Bench.SIX & ~Bench.ZERO | ~open & Bench.DOWN;
                        bench.set(Bench.FLAGS, ~open | Bench.ZERO).done(prefix + "0F BC CB")
                                .has("lowest", 1, Bench.kept(OLD, low, bytes));
                        bench.has("lowest", Bench.FLAGS, flags).set(1, OLD).set(Bench.FLAGS, ~open | Bench.ZERO)
                                .done(prefix + "0F BD CB");
                        bench.has("highest", 1, Bench.kept(OLD, high, bytes)).has("highest", Bench.FLAGS, flags);
                    }
                }
            }
            for (int open : new int[] {0, -1}) {
                Bench bench = new Bench().set(3, beyond).set(1, OLD).set(Bench.UNDEFINED, open)
                        .set(Bench.FLAGS, ~open & ~Bench.ZERO);
                int flags = open & Bench.SIX | Bench.ZERO | ~open & Bench.DOWN;
                bench.done(prefix + "0F BC CB").has("without one", 1, OLD).has("without one", Bench.FLAGS, flags);
                bench.set(Bench.FLAGS, ~open & ~Bench.ZERO).done(prefix + "0F BD CB").has("without one", 1, OLD)
                        .has("without one", Bench.FLAGS, flags);
            }
            new Bench().set(3, 0x9000).page(prefix + "0F BC 0B", 0x9000, 0).page(prefix + "0F BD 0B", 0x9000, 0);
        }
        new Bench().set(1, 8).done("F3 0F BC C1").has("F3 means nothing", 0, 3).done("F3 0F BD C1").has("F3 means nothing", 0, 3);
    }

    private static void singleFlags() {
        for (int flags : new int[] {0, Bench.SEVEN, Bench.CARRY, Bench.DOWN, Bench.SEVEN & ~Bench.CARRY, Bench.SEVEN & ~Bench.DOWN}) {
            Bench bench = new Bench().set(Bench.UNDEFINED, ~flags);
            bench.set(Bench.FLAGS, flags).done("F5").has("F5", Bench.FLAGS, flags ^ Bench.CARRY);
            bench.set(Bench.FLAGS, flags).done("F8").has("F8", Bench.FLAGS, flags & ~Bench.CARRY);
            bench.set(Bench.FLAGS, flags).done("F9").has("F9", Bench.FLAGS, flags | Bench.CARRY);
            bench.set(Bench.FLAGS, flags).done("FC").has("FC", Bench.FLAGS, flags & ~Bench.DOWN);
            bench.set(Bench.FLAGS, flags).done("FD").has("FD", Bench.FLAGS, flags | Bench.DOWN);
        }
        for (String text : new String[] {"F4", "F1", "F0", "FA", "FB"}) {
            new Bench().refused(text, Bench.UNKNOWN);
        }
    }
}
