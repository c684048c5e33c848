import java.math.BigInteger;
import java.util.Random;

/** Promise 7: sums, differences and logic with their flags, against sums of big integers. */
final class SumTest {
    private static final int[] SIZES = {1, 2, 4, 8};
    private static final Random RANDOM = new Random(1);

    public static void main(String[] args) {
        for (int kind = 0; kind < 8; kind++) {
            for (int bytes : SIZES) {
                for (int round = 0; round < 60; round++) {
                    oneSum(kind, bytes, round % 6);
                    withNumber(kind, bytes, round % 3);
                }
            }
        }
        for (int bytes : SIZES) {
            for (int round = 0; round < 60; round++) {
                neighbours(bytes);
                testsAndTurns(bytes);
                changeAndAdd(bytes, round % 3);
                compareAndChange(bytes, round);
            }
        }
        handMade();
        Bench.finish("SumTest");
    }

    /** Ordinary numbers and those at the edges of every size. */
    static long number() {
        long[] edges = {0, 1, -1, 0x7F, 0x80, 0xFF, 0x0F, 0x10, 0x7FFF, 0x8000, 0xFFFF, 0x7FFFFFFF, 0x80000000L,
            0xFFFFFFFFL, Long.MAX_VALUE, Long.MIN_VALUE, -128, -32768, Integer.MIN_VALUE};
        switch (RANDOM.nextInt(3)) {
            case 0:
                return edges[RANDOM.nextInt(edges.length)];
            case 1:
                return RANDOM.nextLong() >> RANDOM.nextInt(64);
            default:
                return RANDOM.nextLong();
        }
    }

    static BigInteger unsigned(long value, int bytes) {
        return new BigInteger(Long.toUnsignedString(value & Bench.mask(bytes)));
    }

    static int flagsOf(long result, int bytes) {
        return ((result & Bench.mask(bytes)) == 0 ? Bench.ZERO : 0)
                | (Bench.signed(result, bytes) < 0 ? Bench.SIGN : 0)
                | (Long.bitCount(result & 255) % 2 == 0 ? Bench.PARITY : 0);
    }

    /** Of first + second + carry, or first - second - carry. */
    static int sumFlags(boolean minus, long first, long second, int carry, int bytes) {
        BigInteger a = unsigned(first, bytes);
        BigInteger b = unsigned(second, bytes).add(BigInteger.valueOf(carry));
        BigInteger result = minus ? a.subtract(b) : a.add(b);
        long low = (first & 15) + (minus ? -1 : 1) * ((second & 15) + carry);
        BigInteger signedA = BigInteger.valueOf(Bench.signed(first, bytes));
        BigInteger signedB = BigInteger.valueOf(Bench.signed(second, bytes)).add(BigInteger.valueOf(carry));
        BigInteger signed = minus ? signedA.subtract(signedB) : signedA.add(signedB);
        long kept = result.longValue();
        return flagsOf(kept, bytes)
                | (result.signum() < 0 || result.bitLength() > 8 * bytes ? Bench.CARRY : 0)
                | (low < 0 || low > 15 ? Bench.HALF : 0)
                | (signed.bitLength() > 8 * bytes - 1 ? Bench.OVER : 0);
    }

    private static long result(int kind, long first, long second, int carry) {
        switch (kind) {
            case 0:
                return first + second;
            case 1:
                return first | second;
            case 2:
                return first + second + carry;
            case 3:
                return first - second - carry;
            case 4:
                return first & second;
            case 6:
                return first ^ second;
            default:
                return first - second;
        }
    }

    private static int flags(int kind, long first, long second, int before, int undefined, int bytes) {
        int carry = before & 1;
        int stays = before & Bench.DOWN;
        switch (kind) {
            case 0:
                return stays | sumFlags(false, first, second, 0, bytes);
            case 2:
                return stays | sumFlags(false, first, second, carry, bytes);
            case 3:
                return stays | sumFlags(true, first, second, carry, bytes);
            case 5: case 7:
                return stays | sumFlags(true, first, second, 0, bytes);
            default:
                return stays | flagsOf(result(kind, first, second, 0), bytes) | undefined & Bench.HALF;
        }
    }

    private static int anyFlags() {
        return RANDOM.nextInt() & Bench.SEVEN;
    }

    /** The opcodes 8 kind and 0 .. 5; registers 3 and 9, or memory for e. */
    private static void oneSum(int kind, int bytes, int form) {
        long first = number();
        long second = RANDOM.nextInt(5) == 0 ? first : number();
        int before = anyFlags();
        int undefined = anyFlags();
        Bench bench = new Bench().set(Bench.FLAGS, before).set(Bench.UNDEFINED, undefined);
        int opcode = 8 * kind + (bytes == 1 ? 0 : 1);
        long want = result(kind, first, second, before & 1);
        String what = "kind " + kind + " size " + bytes + " form " + form + " " + Long.toHexString(first) + " "
                + Long.toHexString(second);
        String rex = bytes == 2 ? "66 44" : bytes == 8 ? "4C" : "44";
        boolean kept = kind == 7;
        if (form == 0) {
            bench.set(3, first).set(9, second).done(rex + Bench.hex(opcode, 1) + "CB");
            bench.has(what, 3, kept ? first : Bench.kept(first, want, bytes)).has(what, 9, second);
        } else if (form == 1) {
            bench.store(Bench.DATA, first).set(3, Bench.DATA).set(9, second).done(rex + Bench.hex(opcode, 1) + "0B");
            bench.holds(what, Bench.DATA, kept ? first : first & ~Bench.mask(bytes) | want & Bench.mask(bytes));
        } else if (form == 2) {
            bench.set(9, first).set(3, second).done(rex + Bench.hex(opcode + 2, 1) + "CB");
            bench.has(what, 9, kept ? first : Bench.kept(first, want, bytes)).has(what, 3, second);
        } else if (form == 3) {
            bench.store(Bench.DATA, second).set(3, Bench.DATA).set(9, first).done(rex + Bench.hex(opcode + 2, 1) + "0B");
            bench.has(what, 9, kept ? first : Bench.kept(first, want, bytes)).holds(what, Bench.DATA, second);
        } else {
            long number = bytes == 8 ? (int) second : second;
            want = result(kind, first, number, before & 1);
            bench.set(0, first).done(Bench.prefix(bytes) + Bench.hex(opcode + 4, 1) + Bench.hex(number, Math.min(bytes, 4)));
            bench.has(what, 0, kept ? first : Bench.kept(first, want, bytes));
            second = number;
        }
        bench.has(what + " flags", Bench.FLAGS, flags(kind, first, second, before, undefined, bytes));
    }

    /** 80, 81 and 83 by REG. */
    private static void withNumber(int kind, int bytes, int form) {
        long first = number();
        boolean oneByte = bytes == 1 || form == 1;
        long second = oneByte ? (byte) number() : bytes == 8 ? (int) number() : number();
        int before = anyFlags();
        int undefined = anyFlags();
        Bench bench = new Bench().set(Bench.FLAGS, before).set(Bench.UNDEFINED, undefined);
        String opcode = bytes == 1 ? "80" : oneByte ? "83" : "81";
        String text = Bench.prefix(bytes) + opcode;
        String number = Bench.hex(second, oneByte ? 1 : Math.min(bytes, 4));
        long want = result(kind, first, second, before & 1);
        String what = opcode + " kind " + kind + " size " + bytes;
        if (form == 2) {
            bench.store(Bench.DATA, first).set(3, Bench.DATA).done(text + Bench.hex(0x03 | kind << 3, 1) + number);
            long changed = first & ~Bench.mask(bytes) | want & Bench.mask(bytes);
            bench.holds(what, Bench.DATA, kind == 7 ? first : changed);
        } else {
            bench.set(3, first).done(text + Bench.hex(0xC3 | kind << 3, 1) + number);
            bench.has(what, 3, kind == 7 ? first : Bench.kept(first, want, bytes));
        }
        bench.has(what + " flags", Bench.FLAGS, flags(kind, first, second, before, undefined, bytes));
    }

    /** FE, FF 0 and 1; F6, F7 3. */
    private static void neighbours(int bytes) {
        long first = number();
        int before = anyFlags();
        String opcode = Bench.prefix(bytes) + (bytes == 1 ? "FE" : "FF");
        int stays = before & (Bench.DOWN | Bench.CARRY);
        int more = sumFlags(false, first, 1, 0, bytes) & ~Bench.CARRY;
        int less = sumFlags(true, first, 1, 0, bytes) & ~Bench.CARRY;
        Bench bench = new Bench().set(Bench.FLAGS, before).set(Bench.UNDEFINED, ~before);
        bench.set(2, first).done(opcode + "C2").has("1 more", 2, Bench.kept(first, first + 1, bytes));
        bench.has("1 more, flags", Bench.FLAGS, stays | more);
        bench.set(2, first).done(opcode + "CA").has("1 less", 2, Bench.kept(first, first - 1, bytes));
        bench.has("1 less, flags", Bench.FLAGS, stays | less);
        bench.set(2, first).done(Bench.prefix(bytes) + (bytes == 1 ? "F6" : "F7") + "DA");
        bench.has("0 less e", 2, Bench.kept(first, -first, bytes));
        bench.has("0 less e, flags", Bench.FLAGS, before & Bench.DOWN | sumFlags(true, 0, first, 0, bytes));
    }

    /** TEST in its four forms, and F6, F7 2. */
    private static void testsAndTurns(int bytes) {
        long first = number();
        long second = number();
        int before = anyFlags();
        int undefined = anyFlags();
        Bench bench = new Bench().set(Bench.UNDEFINED, undefined).set(0, first).set(1, second);
        int want = before & Bench.DOWN | undefined & Bench.HALF | flagsOf(first & second, bytes);
        String prefix = Bench.prefix(bytes);
        bench.set(Bench.FLAGS, before).done(prefix + (bytes == 1 ? "84" : "85") + "C8").has("84, 85", Bench.FLAGS, want);
        long number = bytes == 8 ? (int) second : second;
        want = before & Bench.DOWN | undefined & Bench.HALF | flagsOf(first & number, bytes);
        String digits = Bench.hex(number, Math.min(bytes, 4));
        bench.set(Bench.FLAGS, before).done(prefix + (bytes == 1 ? "A8" : "A9") + digits).has("A8, A9", Bench.FLAGS, want);
        bench.set(Bench.FLAGS, before).done(prefix + (bytes == 1 ? "F6" : "F7") + "C0" + digits);
        bench.has("F6, F7 0", Bench.FLAGS, want).has("TEST changes nothing", 0, first).has("nor g", 1, second);
        bench.set(Bench.FLAGS, before).done(prefix + (bytes == 1 ? "F6" : "F7") + "D0");
        bench.has("F6, F7 2", 0, Bench.kept(first, ~first, bytes)).has("F6, F7 2 flags", Bench.FLAGS, before);
    }

    /** 0F C0, C1. */
    private static void changeAndAdd(int bytes, int form) {
        long first = number();
        long second = number();
        int before = anyFlags();
        Bench bench = new Bench().set(Bench.FLAGS, before);
        String text = Bench.prefix(bytes) + (bytes == 1 ? "0F C0" : "0F C1");
        int want = before & Bench.DOWN | sumFlags(false, first, form == 2 ? first : second, 0, bytes);
        if (form == 0) {
            bench.set(3, first).set(1, second).done(text + "CB");
            bench.has("XADD e", 3, Bench.kept(first, first + second, bytes)).has("XADD g", 1, Bench.kept(second, first, bytes));
        } else if (form == 1) {
            bench.set(3, Bench.DATA).store(Bench.DATA, first).set(1, second).done(text + "0B");
            bench.holds("XADD e", Bench.DATA, first & ~Bench.mask(bytes) | first + second & Bench.mask(bytes));
            bench.has("XADD g", 1, Bench.kept(second, first, bytes));
        } else {
            bench.set(3, first).done(text + "DB").has("XADD of one register", 3, Bench.kept(first, 2 * first, bytes));
        }
        bench.has("XADD flags", Bench.FLAGS, want);
    }

    /** 0F B0, B1. */
    private static void compareAndChange(int bytes, int round) {
        long e = number();
        long g = number();
        boolean alike = round % 2 == 0;
        long a = alike ? number() & ~Bench.mask(bytes) | e & Bench.mask(bytes) : e ^ 1L << RANDOM.nextInt(8 * bytes);
        int before = anyFlags();
        Bench bench = new Bench().set(Bench.FLAGS, before).set(0, a).set(1, g);
        String text = Bench.prefix(bytes) + (bytes == 1 ? "0F B0" : "0F B1");
        if (round % 4 < 2) {
            bench.set(3, e).done(text + "CB").has("CMPXCHG e", 3, Bench.kept(e, alike ? g : e, bytes));
        } else {
            bench.set(3, Bench.DATA).store(Bench.DATA, e).done(text + "0B");
            bench.holds("CMPXCHG e", Bench.DATA, e & ~Bench.mask(bytes) | (alike ? g : e) & Bench.mask(bytes));
        }
        bench.has("CMPXCHG register 0", 0, alike ? a : Bench.kept(a, e, bytes)).has("CMPXCHG g", 1, g);
        bench.has("CMPXCHG flags", Bench.FLAGS, before & Bench.DOWN | sumFlags(true, a, e, 0, bytes));
    }

    private static void handMade() {
        Bench bench = new Bench().set(0, 0x7F).done("04 01").has("7F + 1", 0, 0x80);
        bench.has("7F + 1", Bench.FLAGS, Bench.OVER | Bench.SIGN | Bench.HALF);
        bench.set(0, 0xFF).done("04 01").has("FF + 1", Bench.FLAGS, Bench.CARRY | Bench.ZERO | Bench.HALF | Bench.PARITY);
        bench.set(0, 0x80).done("2C 01").has("80 - 1", Bench.FLAGS, Bench.OVER | Bench.HALF);
        bench.set(0, 0).done("2C 01").has("0 - 1", Bench.FLAGS, Bench.CARRY | Bench.HALF | Bench.SIGN | Bench.PARITY);
        bench.set(0, -1).set(Bench.FLAGS, Bench.CARRY).done("48 15 FFFFFFFF").has("-1 + -1 + 1", 0, -1);
        bench.has("-1 + -1 + 1", Bench.FLAGS, Bench.CARRY | Bench.HALF | Bench.SIGN | Bench.PARITY);
        bench.set(0, 5).set(Bench.FLAGS, Bench.CARRY).done("48 83 D8 FF").has("5 - -1 - 1", 0, 5);
        bench.has("5 - -1 - 1", Bench.FLAGS, Bench.CARRY | Bench.HALF | Bench.PARITY);
    }
}
