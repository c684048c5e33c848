/** Promise 7: moves, conditions, single bits and the instructions for one flag. */
final class MoveTest {
    private static final int[] SIZES = {1, 2, 4, 8};
    private static final long OLD = 0xFFEEDDCCBBAA9988L;

    public static void main(String[] args) {
        changePlaces();
        numbers();
        signsAndZeros();
        halves();
        conditions();
        bytesTurned();
        bitsOfRegisters();
        bitsOfMemory();
        lowestAndHighest();
        flagsAlone();
        Bench.finish("MoveTest");
    }

    private static void changePlaces() {
        for (int bytes : SIZES) {
            String opcode = Bench.prefix(bytes) + (bytes == 1 ? "86" : "87");
            long other = 0x1122334455667788L;
            Bench bench = new Bench().set(3, OLD).set(1, other).done(opcode + "CB");
            bench.has("86, 87 e", 3, Bench.kept(OLD, other, bytes)).has("86, 87 g", 1, Bench.kept(other, OLD, bytes));
            bench.set(3, Bench.DATA).store(Bench.DATA, OLD).set(1, other).done(opcode + "0B");
            bench.holds("86, 87 memory", Bench.DATA, OLD & ~Bench.mask(bytes) | other & Bench.mask(bytes));
            bench.has("86, 87 g", 1, Bench.kept(other, OLD, bytes)).has("no flags", Bench.FLAGS, 0);
            if (bytes > 1) {
                bench.set(0, OLD).set(6, other).done(Bench.prefix(bytes) + "96");
                bench.has("96", 0, Bench.kept(OLD, other, bytes)).has("96", 6, Bench.kept(other, OLD, bytes));
            }
        }
        Bench bench = new Bench().set(0, OLD).set(8, 0x1122334455667788L);
        bench.done("90").done("66 90").done("48 90").done("40 90").done("46 90").has("90 without B", 0, OLD);
        bench.done("41 90").has("90 with B", 0, 0x55667788L).has("90 with B", 8, 0xBBAA9988L);
        bench.set(0, OLD).done("87 C0").has("87 of one register", 0, 0xBBAA9988L);
        bench.set(0, OLD).set(15, 5).done("49 97").has("97 with B", 15, OLD).has("97 with B", 0, 5);
    }

    private static void numbers() {
        Bench bench = new Bench().set(3, OLD).done("C6 C3 7F").has("C6", 3, Bench.kept(OLD, 0x7F, 1));
        bench.set(3, OLD).done("66 C7 C3 3412").has("C7 of 2", 3, Bench.kept(OLD, 0x1234, 2));
        bench.set(3, OLD).done("C7 C3 000000F0").has("C7 of 4", 3, 0xF0000000L);
        bench.set(3, OLD).done("48 C7 C3 000000F0").has("C7 of 8, with its sign", 3, 0xFFFFFFFFF0000000L);
        bench.set(3, Bench.DATA).store(Bench.DATA, OLD).done("C7 03 01020304");
        bench.holds("C7 to memory", Bench.DATA, 0xFFEEDDCC04030201L).done("48 C7 03 FFFFFFFF").holds("C7 of 8", Bench.DATA, -1);
        bench.set(11, OLD).done("41 B3 12").has("B3 with B", 11, Bench.kept(OLD, 0x12, 1));
        bench.set(11, OLD).done("41 BB 04030281").has("BB with B", 11, 0x81020304L);
        bench.set(11, OLD).done("49 BB 0807060504030281").has("BB with W, B", 11, 0x8102030405060708L);
        bench.has("no flags", Bench.FLAGS, 0);
    }

    private static void signsAndZeros() {
        Bench bench = new Bench().set(3, 0x11111111F2F3F4F5L);
        bench.set(0, OLD).done("0F B6 C3").has("B6", 0, 0xF5);
        bench.set(0, OLD).done("66 0F B6 C3").has("B6 of 2", 0, Bench.kept(OLD, 0xF5, 2));
        bench.set(0, OLD).done("48 0F B6 C3").has("B6 of 8", 0, 0xF5);
        bench.set(0, OLD).done("0F B7 C3").has("B7", 0, 0xF4F5);
        bench.set(0, OLD).done("66 0F B7 C3").has("B7 of 2", 0, Bench.kept(OLD, 0xF4F5, 2));
        bench.set(0, OLD).done("0F BE C3").has("BE", 0, 0xFFFFFFF5L);
        bench.set(0, OLD).done("66 0F BE C3").has("BE of 2", 0, Bench.kept(OLD, 0xFFF5, 2));
        bench.set(0, OLD).done("48 0F BE C3").has("BE of 8", 0, -11);
        bench.set(0, OLD).done("48 0F BF C3").has("BF of 8", 0, 0xFFFFFFFFFFFFF4F5L);
        bench.set(0, OLD).done("0F BF C3").has("BF", 0, 0xFFFFF4F5L);
        bench.set(0, OLD).done("66 0F BF C3").has("BF of 2", 0, Bench.kept(OLD, 0xF4F5, 2));
        bench.set(0, OLD).done("48 63 C3").has("63 of 8", 0, 0xFFFFFFFFF2F3F4F5L);
        bench.set(0, OLD).done("63 C3").has("63 of 4", 0, 0xF2F3F4F5L);
        bench.set(0, OLD).done("66 63 C3").has("63 of 2", 0, Bench.kept(OLD, 0xF4F5, 2));
        // No more bytes are looked up than are used.
        bench.bytes(0x7FFF, "81").set(3, 0x7FFF).done("48 0F B6 03").has("B6 at the end", 0, 0x81);
        bench.done("48 0F BE 03").has("BE at the end", 0, -127).page("0F B7 03", 0x8000, 0);
        bench.bytes(0x7FFE, "0180").set(3, 0x7FFE).done("48 0F BF 03").has("BF at the end", 0, -32767);
        bench.done("66 63 03").page("63 03", 0x8000, 0).set(3, 0x7FFC).done("48 63 03").has("no flags", Bench.FLAGS, 0);
    }

    private static void halves() {
        Bench bench = new Bench().set(Bench.FLAGS, Bench.SEVEN);
        bench.set(0, 0x1111222233338084L).done("66 98").has("98 of 2", 0, 0x111122223333FF84L);
        bench.done("98").has("98 of 4", 0, 0xFFFFFF84L).done("48 98").has("98 of 8", 0, -124);
        bench.set(0, 0x7FFF8000).done("98").has("98 of 4, from 2", 0, 0xFFFF8000L);
        bench.set(0, 0x80007FFFL).done("98").has("98 of 4, no sign", 0, 0x7FFF);
        bench.set(2, OLD).set(0, 0x8000).done("66 99").has("99 of 2", 2, Bench.kept(OLD, -1, 2));
        bench.set(2, OLD).done("99").has("99 of 4, no sign", 2, 0);
        bench.set(2, OLD).set(0, 0).done("48 99").has("99 of 0", 2, 0);
        bench.set(2, OLD).set(0, 0x80000000L).done("99").has("99 of 4", 2, 0xFFFFFFFFL);
        bench.done("48 99").has("99 of 8, no sign", 2, 0).set(0, -5).done("48 99").has("99 of 8", 2, -1);
        bench.has("register 0 stays", 0, -5).has("flags stay", Bench.FLAGS, Bench.SEVEN);
    }

    private static boolean holds(int condition, int flags) {
        boolean over = (flags & Bench.OVER) != 0;
        boolean carry = (flags & Bench.CARRY) != 0;
        boolean zero = (flags & Bench.ZERO) != 0;
        boolean sign = (flags & Bench.SIGN) != 0;
        boolean parity = (flags & Bench.PARITY) != 0;
        boolean[] all = {over, carry, zero, carry || zero, sign, parity, sign != over, zero || sign != over};
        return all[condition / 2] == (condition % 2 == 0);
    }

    private static void conditions() {
        int[] single = {Bench.CARRY, Bench.PARITY, Bench.HALF, Bench.ZERO, Bench.SIGN, Bench.OVER};
        for (int set = 0; set < 64; set++) {
            int flags = 0;
            for (int i = 0; i < 6; i++) {
                flags |= (set >> i & 1) * single[i];
            }
            for (int condition = 0; condition < 16; condition++) {
                condition(condition, flags);
            }
        }
        Bench bench = new Bench().set(3, 0x9000).page("0F 44 03", 0x9000, 0).page("0F 45 03", 0x9000, 0);
    }

    private static void condition(int condition, int flags) {
        boolean holds = holds(condition, flags);
        String what = "condition " + condition + " with flags " + flags;
        Bench bench = new Bench().set(Bench.FLAGS, flags).set(3, 0x1122334455667788L).set(0, OLD);
        bench.done("0F" + Bench.hex(0x40 + condition, 1) + "C3").has(what, 0, holds ? 0x55667788L : 0xBBAA9988L);
        bench.set(0, OLD).done("66 0F" + Bench.hex(0x40 + condition, 1) + "C3");
        bench.has(what, 0, holds ? Bench.kept(OLD, 0x7788, 2) : OLD);
        bench.set(0, OLD).done("48 0F" + Bench.hex(0x40 + condition, 1) + "C3").has(what, 0, holds ? 0x1122334455667788L : OLD);
        bench.set(0, OLD).done("0F" + Bench.hex(0x90 + condition, 1) + "C4");
        bench.has(what, 0, holds ? 0xFFEEDDCCBBAA0188L : 0xFFEEDDCCBBAA0088L);
        bench.set(3, Bench.DATA).store(Bench.DATA, OLD).done("48 0F" + Bench.hex(0x90 + condition, 1) + "03");
        bench.holds(what, Bench.DATA, Bench.kept(OLD, holds ? 1 : 0, 1)).has(what, Bench.FLAGS, flags);
        Bench.due(what, bench.step(Bench.hex(0x70 + condition, 1) + "10"), Bench.NONE);
        bench.has(what, Bench.NEXT, Bench.CODE + (holds ? 0x12 : 2));
        Bench.due(what, bench.step("0F" + Bench.hex(0x80 + condition, 1) + "F0FFFFFF"), Bench.NONE);
        bench.has(what, Bench.NEXT, Bench.CODE + (holds ? -10 : 6)).has(what, Bench.FLAGS, flags);
    }

    private static void bytesTurned() {
        Bench bench = new Bench().set(0, 0x0102030405060708L).done("0F C8").has("C8 of 4", 0, 0x08070605L);
        bench.set(15, 0x0102030405060788L).done("49 0F CF").has("CF of 8", 15, 0x8807060504030201L);
        bench.refused("66 0F C8", Bench.UNKNOWN).done("66 48 0F C8").has("66 with W", 0, 0x0506070800000000L);
        bench.has("no flags", Bench.FLAGS, 0);
    }

    private static long changed(int kind, long value, long bit) {
        return kind == 0 ? value : kind == 1 ? value | bit : kind == 2 ? value & ~bit : value ^ bit;
    }

    /** A3, AB, B3, BB and BA 4 .. 7 of a register: modulo the bits of v. */
    private static void bitsOfRegisters() {
        int[] opcodes = {0xA3, 0xAB, 0xB3, 0xBB};
        long[] numbers = {0, 1, 7, 15, 16, 31, 32, 33, 63, 64, 127, 255, -1, -16, 0x123456789AL};
        for (int kind = 0; kind < 4; kind++) {
            for (int bytes = 2; bytes <= 8; bytes *= 2) {
                for (long number : numbers) {
                    int at = (int) Math.floorMod(number, 8L * bytes);
                    long want = changed(kind, OLD, 1L << at);
                    boolean found = (OLD >>> at & 1) != 0;
                    Bench bench = new Bench().set(Bench.FLAGS, Bench.ZERO | Bench.DOWN).set(Bench.UNDEFINED, -1);
                    int flags = Bench.SEVEN & ~Bench.CARRY | (found ? Bench.CARRY : 0);
                    bench.set(3, OLD).set(1, number).done(Bench.prefix(bytes) + "0F" + Bench.hex(opcodes[kind], 1) + "CB");
                    String what = "bit " + number + " kind " + kind + " size " + bytes;
                    bench.has(what, 3, kind == 0 ? OLD : Bench.kept(OLD, want, bytes)).has(what, Bench.FLAGS, flags);
                    bench.set(3, OLD).set(Bench.FLAGS, Bench.SIX).set(Bench.UNDEFINED, 0);
                    bench.done(Bench.prefix(bytes) + "0F BA" + Bench.hex(0xE3 | kind << 3, 1) + Bench.hex(number, 1));
                    at = (int) (number & 8L * bytes - 1);
                    want = changed(kind, OLD, 1L << at);
                    found = (OLD >>> at & 1) != 0;
                    bench.has(what, 3, kind == 0 ? OLD : Bench.kept(OLD, want, bytes));
                    bench.has(what, Bench.FLAGS, Bench.ZERO | (found ? Bench.CARRY : 0));
                }
            }
        }
    }

    /** Of memory the number goes as far as it says, with its sign. */
    private static void bitsOfMemory() {
        int[] opcodes = {0xA3, 0xAB, 0xB3, 0xBB};
        int[] numbers = {0, 15, 16, 31, 32, 63, 64, 100, 1000, 8191, -1, -16, -17, -32, -33, -64, -65, -1000};
        for (int kind = 0; kind < 4; kind++) {
            for (int bytes = 2; bytes <= 8; bytes *= 2) {
                for (int number : numbers) {
                    Bench bench = new Bench().set(3, Bench.DATA + 0x400).set(1, number & Bench.mask(bytes));
                    int place = Bench.DATA + 0x400 + Math.floorDiv(number, 8 * bytes) * bytes;
                    long bit = 1L << Math.floorMod(number, 8 * bytes);
                    bench.store(place, 0xA5A5A5A5A5A5A5A5L);
                    bench.done(Bench.prefix(bytes) + "0F" + Bench.hex(opcodes[kind], 1) + "0B");
                    String what = "bit of memory " + number + " kind " + kind + " size " + bytes;
                    bench.holds(what, place, changed(kind, 0xA5A5A5A5A5A5A5A5L, bit));
                    bench.has(what, Bench.FLAGS, (0xA5A5A5A5A5A5A5A5L & bit) != 0 ? Bench.CARRY : 0);
                }
            }
        }
        Bench bench = new Bench().set(3, Bench.DATA).set(1, 0x80000000L);
        bench.page("0F A3 0B", Bench.DATA - 0x10000000L, 0).page("0F AB 0B", Bench.DATA - 0x10000000L, 2);
        bench.page("48 0F A3 0B", Bench.DATA + 0x10000000L, 0);
        bench.set(1, Long.MIN_VALUE).refused("48 0F A3 0B", Bench.WRONG).set(5, Bench.DATA).refused("48 0F A3 4D 00", Bench.STACK);
        bench.set(1, -1).page("66 0F A3 0B", Bench.DATA - 2, 0).page("48 0F A3 0B", Bench.DATA - 8, 0);
        bench.done("0F BA 23 FF").done("0F BA 2B 3F").holds("BA stays within v", Bench.DATA, 0x80000000L);
    }

    private static void lowestAndHighest() {
        for (int bytes = 2; bytes <= 8; bytes *= 2) {
            for (int low = 0; low < 8 * bytes; low++) {
                int high = Math.min(8 * bytes - 1, low + 5);
                long value = 1L << low | 1L << high;
                value = bytes == 8 ? value : value | ~Bench.mask(bytes);
                Bench bench = new Bench().set(3, value).set(1, OLD).set(Bench.FLAGS, Bench.ZERO | Bench.DOWN).set(Bench.UNDEFINED, 0x9D);
                bench.done(Bench.prefix(bytes) + "0F BC CB").has("lowest 1", 1, Bench.kept(OLD, low, bytes));
                bench.has("lowest 1", Bench.FLAGS, Bench.DOWN | 0x9D & Bench.SIX & ~Bench.ZERO);
                bench.set(1, OLD).done(Bench.prefix(bytes) + "0F BD CB").has("highest 1", 1, Bench.kept(OLD, high, bytes));
                bench.set(3, bytes == 8 ? 0 : ~Bench.mask(bytes)).set(1, OLD).set(Bench.FLAGS, 0).set(Bench.UNDEFINED, 0x800);
                bench.done(Bench.prefix(bytes) + "0F BC CB").has("no 1", 1, OLD).has("no 1", Bench.FLAGS, Bench.ZERO | Bench.OVER);
                bench.done(Bench.prefix(bytes) + "0F BD CB").has("no 1", 1, OLD).has("no 1", Bench.FLAGS, Bench.ZERO | Bench.OVER);
            }
        }
    }

    private static void flagsAlone() {
        for (int flags : new int[] {0, Bench.SEVEN, Bench.CARRY, Bench.DOWN}) {
            Bench bench = new Bench().set(Bench.UNDEFINED, -1);
            bench.set(Bench.FLAGS, flags).done("F5").has("F5", Bench.FLAGS, flags ^ Bench.CARRY);
            bench.set(Bench.FLAGS, flags).done("F8").has("F8", Bench.FLAGS, flags & ~Bench.CARRY);
            bench.set(Bench.FLAGS, flags).done("F9").has("F9", Bench.FLAGS, flags | Bench.CARRY);
            bench.set(Bench.FLAGS, flags).done("FC").has("FC", Bench.FLAGS, flags & ~Bench.DOWN);
            bench.set(Bench.FLAGS, flags).done("FD").has("FD", Bench.FLAGS, flags | Bench.DOWN);
        }
    }
}
