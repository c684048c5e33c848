import java.math.BigInteger;
import java.util.Random;

/** Promise 7: MUL, IMUL, DIV and IDIV, against big integers. */
final class ProductTest {
    private static final int[] SIZES = {1, 2, 4, 8};
    private static final Random RANDOM = new Random(3);

    public static void main(String[] args) {
        for (int bytes : SIZES) {
            for (int round = 0; round < 400; round++) {
                product(bytes, false);
                product(bytes, true);
                shortProduct(bytes, round % 3);
                quotient(bytes, false, round);
                quotient(bytes, true, round);
            }
        }
        edges();
        Bench.finish("ProductTest");
    }

    private static BigInteger number(long value, int bytes, boolean signs) {
        return signs ? BigInteger.valueOf(Bench.signed(value, bytes)) : SumTest.unsigned(value, bytes);
    }

    private static String group(int bytes) {
        return Bench.prefix(bytes) + (bytes == 1 ? "F6" : "F7");
    }

    private static void hasHalves(Bench bench, String what, long[] old, long low, long high, int bytes) {
        if (bytes == 1) {
            bench.has(what, 0, Bench.kept(old[0], (high & 255) << 8 | low & 255, 2)).has(what, 2, old[1]);
        } else {
            bench.has(what, 0, Bench.kept(old[0], low, bytes)).has(what, 2, Bench.kept(old[1], high, bytes));
        }
    }

    private static void product(int bytes, boolean signs) {
        long a = SumTest.number();
        long d = SumTest.number();
        long e = SumTest.number();
        int before = RANDOM.nextInt() & Bench.SEVEN;
        int undefined = RANDOM.nextInt() & Bench.SEVEN;
        Bench bench = new Bench().set(Bench.FLAGS, before).set(Bench.UNDEFINED, undefined).set(0, a).set(2, d);
        bench.set(3, Bench.DATA).store(Bench.DATA, e).done(group(bytes) + (signs ? "2B" : "23"));
        BigInteger product = number(a, bytes, signs).multiply(number(e, bytes, signs));
        String what = (signs ? "IMUL " : "MUL ") + bytes + " " + Long.toHexString(a) + " " + Long.toHexString(e);
        hasHalves(bench, what, new long[] {a, d}, product.longValue(), product.shiftRight(8 * bytes).longValue(), bytes);
        boolean spills = signs ? product.bitLength() > 8 * bytes - 1 : product.bitLength() > 8 * bytes;
        int both = Bench.CARRY | Bench.OVER;
        bench.has(what, Bench.FLAGS, before & Bench.DOWN | (spills ? both : 0) | undefined & Bench.SIX & ~both);
    }

    /** 69, 6B and 0F AF. */
    private static void shortProduct(int bytes, int form) {
        if (bytes == 1) {
            return;
        }
        long e = SumTest.number();
        long other = form == 0 ? (int) SumTest.number() : form == 1 ? (byte) SumTest.number() : SumTest.number();
        int before = RANDOM.nextInt() & Bench.SEVEN;
        int undefined = RANDOM.nextInt() & Bench.SEVEN;
        Bench bench = new Bench().set(Bench.FLAGS, before).set(Bench.UNDEFINED, undefined).set(3, e).set(6, other);
        String number = form == 0 ? Bench.hex(other, Math.min(bytes, 4)) : form == 1 ? Bench.hex(other, 1) : "";
        bench.done(Bench.prefix(bytes) + (form == 0 ? "69" : form == 1 ? "6B" : "0F AF") + "F3" + number);
        BigInteger product = number(e, bytes, true).multiply(number(other, bytes, true));
        String what = "IMUL without the upper half, size " + bytes + " form " + form;
        bench.has(what, 6, Bench.kept(other, product.longValue(), bytes)).has(what, 3, e);
        int both = Bench.CARRY | Bench.OVER;
        int want = product.bitLength() > 8 * bytes - 1 ? both : 0;
        bench.has(what, Bench.FLAGS, before & Bench.DOWN | want | undefined & Bench.SIX & ~both);
    }

    private static void quotient(int bytes, boolean signs, int round) {
        long e = SumTest.number();
        long a = SumTest.number();
        long d = SumTest.number();
        if (round % 3 != 0) {
            // A product and something: the quotient is just about as great as it may be.
            BigInteger near = number(SumTest.number(), bytes, signs).multiply(number(e, bytes, signs));
            near = near.add(BigInteger.valueOf(RANDOM.nextInt(5) - 2));
            a = near.longValue();
            d = near.shiftRight(8 * bytes).longValue();
        }
        if (bytes == 1) {
            a = Bench.kept(a, (d & 255) << 8 | a & 255, 2);
        }
        int before = RANDOM.nextInt() & Bench.SEVEN;
        int undefined = RANDOM.nextInt() & Bench.SEVEN;
        Bench bench = new Bench().set(Bench.FLAGS, before).set(Bench.UNDEFINED, undefined).set(0, a).set(2, d).set(3, e);
        String text = group(bytes) + (signs ? "FB" : "F3");
        BigInteger divisor = number(e, bytes, signs);
        BigInteger dividend = number(d, bytes, signs).shiftLeft(8 * bytes).add(SumTest.unsigned(a, bytes));
        String what = (signs ? "IDIV " : "DIV ") + bytes + " " + dividend + " by " + divisor;
        boolean fits = divisor.signum() != 0;
        if (fits) {
            BigInteger quotient = dividend.divide(divisor);
            fits = signs ? quotient.bitLength() <= 8 * bytes - 1 : quotient.bitLength() <= 8 * bytes;
        }
        if (!fits) {
            bench.refused(text, Bench.DIVIDE);
            return;
        }
        bench.done(text);
        BigInteger[] parts = dividend.divideAndRemainder(divisor);
        hasHalves(bench, what, new long[] {a, d}, parts[0].longValue(), parts[1].longValue(), bytes);
        bench.has(what, Bench.FLAGS, before & Bench.DOWN | undefined & Bench.SIX);
    }

    private static void edges() {
        Bench bench = new Bench().set(3, -1);
        bench.set(0, Long.MIN_VALUE).set(2, -1).refused("48 F7 FB", Bench.DIVIDE);
        bench.set(0, Long.MIN_VALUE + 1).done("48 F7 FB").has("the greatest quotient", 0, Long.MAX_VALUE).has("no rest", 2, 0);
        bench.set(3, 1).set(0, Long.MIN_VALUE).set(2, -1).done("48 F7 FB").has("the least quotient", 0, Long.MIN_VALUE);
        bench.set(3, 2).set(0, -7).set(2, -1).done("48 F7 FB").has("signs as usual", 0, -3).has("signs as usual", 2, -1);
        bench.set(3, -2).set(0, 7).set(2, 0).done("48 F7 FB").has("signs as usual", 0, -3).has("signs as usual", 2, 1);
        bench.set(3, -1).set(2, -2).set(0, -1).done("48 F7 F3").has("the greatest dividend", 0, -1).has("its rest", 2, -2);
        bench.set(2, -1).refused("48 F7 F3", Bench.DIVIDE).set(3, 0).set(2, 0).refused("48 F7 F3", Bench.DIVIDE);
        bench.set(0, 0).refused("F6 F3", Bench.DIVIDE).refused("F6 FB", Bench.DIVIDE);
        bench.set(3, 0x9000).page("F7 33", 0x9000, 0).set(3, Bench.FIRST_WRONG).refused("F7 3B", Bench.WRONG);
        bench.set(0, 0x8000).set(3, 0xFF).refused("F6 FB", Bench.DIVIDE);
        bench.set(0, 0xFF80).set(3, 1).done("F6 FB").has("-128 by 1", 0, 0x0080);
    }
}
