import java.util.Random;

/** Promise 7: rotations and shifts, against a machine that moves bit by bit. */
final class ShiftTest {
    private static final int[] SIZES = {1, 2, 4, 8};
    private static final Random RANDOM = new Random(2);

    private static boolean[] bits;
    private static boolean carry;

    public static void main(String[] args) {
        for (int kind = 0; kind < 8; kind++) {
            if (kind != 6) {
                for (int bytes : SIZES) {
                    for (int count = 0; count < 72; count++) {
                        oneShift(kind, bytes, count, count % 4);
                        oneShift(kind, bytes, 248 + count % 8, 3);
                    }
                    for (int round = 0; round < 20; round++) {
                        oneShift(kind, bytes, 1, round % 5);
                    }
                }
            }
        }
        countInItself();
        Bench.finish("ShiftTest");
    }

    private static long joined() {
        long sum = 0;
        for (int i = 0; i < bits.length; i++) {
            sum |= (bits[i] ? 1L : 0L) << i;
        }
        return sum;
    }

    /** Moves all bits by one; what goes out and what comes in is by the kind. */
    private static void moveOnce(int kind) {
        boolean left = kind == 0 || kind == 2 || kind == 4;
        int last = bits.length - 1;
        boolean out = left ? bits[last] : bits[0];
        boolean in;
        switch (kind) {
            case 0: case 1:
                in = out;
                break;
            case 2: case 3:
                in = carry;
                break;
            case 7:
                in = bits[last];
                break;
            default:
                in = false;
                break;
        }
        if (left) {
            System.arraycopy(bits.clone(), 0, bits, 1, last);
            bits[0] = in;
        } else {
            System.arraycopy(bits.clone(), 1, bits, 0, last);
            bits[last] = in;
        }
        carry = out;
    }

    private static int wantedFlags(int kind, int count, int before, int undefined, boolean oldTop) {
        int size = bits.length;
        boolean top = bits[size - 1];
        boolean over;
        switch (kind) {
            case 0: case 2: case 4:
                over = top != carry;
                break;
            case 1: case 3:
                over = top != bits[size - 2];
                break;
            case 5:
                over = oldTop;
                break;
            default:
                over = false;
                break;
        }
        int overFlag = count == 1 ? over ? Bench.OVER : 0 : undefined & Bench.OVER;
        boolean carryOpen = (kind == 4 || kind == 5) && count > size;
        int carryFlag = carryOpen ? undefined & Bench.CARRY : carry ? Bench.CARRY : 0;
        if (kind < 4) {
            return before & ~(Bench.OVER | Bench.CARRY) | overFlag | carryFlag;
        }
        return before & Bench.DOWN | overFlag | carryFlag | undefined & Bench.HALF | SumTest.flagsOf(joined(), size / 8);
    }

    /** Forms: 0 by a number, 1 and 2 by register 1, 3 by a number in memory, 4 by 1. */
    private static void oneShift(int kind, int bytes, int byteOfCount, int form) {
        long value = SumTest.number();
        int before = RANDOM.nextInt() & Bench.SEVEN;
        int undefined = RANDOM.nextInt() & Bench.SEVEN;
        int count = (form == 4 ? 1 : byteOfCount) & (bytes == 8 ? 63 : 31);
        bits = new boolean[8 * bytes];
        for (int i = 0; i < bits.length; i++) {
            bits[i] = (value >>> i & 1) != 0;
        }
        carry = (before & Bench.CARRY) != 0;
        boolean oldTop = bits[bits.length - 1];
        for (int i = 0; i < count; i++) {
            moveOnce(kind);
        }
        int flags = count == 0 ? before : wantedFlags(kind, count, before, undefined, oldTop);
        Bench bench = new Bench().set(Bench.FLAGS, before).set(Bench.UNDEFINED, undefined);
        bench.set(1, 0xABCDEF00L | byteOfCount).set(3, form == 3 ? Bench.DATA : value).store(Bench.DATA, value);
        int opcode = (form == 0 || form == 3 ? 0xC0 : form == 4 ? 0xD0 : 0xD2) + (bytes == 1 ? 0 : 1);
        int modrm = (form == 3 ? 0x03 : 0xC3) | kind << 3;
        String text = Bench.prefix(bytes) + Bench.hex(opcode, 1) + Bench.hex(modrm, 1)
                + (form == 0 || form == 3 ? Bench.hex(byteOfCount, 1) : "");
        String what = text + " of " + Long.toHexString(value) + " by " + count;
        bench.done(text).has(what, Bench.FLAGS, flags);
        if (form == 3) {
            bench.holds(what, Bench.DATA, value & ~Bench.mask(bytes) | joined());
        } else {
            bench.has(what, 3, Bench.kept(value, joined(), bytes));
        }
    }

    private static void countInItself() {
        Bench bench = new Bench().set(1, 0xFFFFFFFF00000004L).done("D3 E1").has("register 1 by itself", 1, 0x40);
        bench.set(1, 0xFFFFFFFF00000020L).done("D3 E1").has("by 0 the upper half goes", 1, 0x20);
        bench.set(1, 0x0304).done("D2 E5").has("8 .. 15 by 0 .. 7", 1, 0x3004);
    }
}
