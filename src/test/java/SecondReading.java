import java.math.BigInteger;

/**
 * The document read a second time, from its first line to its last, sharing nothing with the
 * class: whole numbers without a size, one bit after the other, and a refusal brings back a copy.
 */
final class SecondReading {
    private static final int READ = 0;
    private static final int WRITE = 1;
    private static final int FETCH = 2;

    private static final BigInteger ZERO = BigInteger.ZERO;
    private static final BigInteger ONE = BigInteger.ONE;

    /** A step that ends before its end. */
    private static final class Refusal extends RuntimeException {
        private static final long serialVersionUID = 1L;
        final int reason;

        Refusal(int reason) {
            super(null, null, false, false);
            this.reason = reason;
        }
    }

    /** Bits of a register from one on, or bytes of memory. */
    private static final class Operand {
        final int bytes;
        int register = -1;
        int from;
        long[] at;

        Operand(int bytes) {
            this.bytes = bytes;
        }
    }

    byte[] memory = new byte[32768];
    /** As get numbers them: 16 NEXT, 17 TABLE, 18 ENTRY, 19 MASK, 20 the flags, 21 UNDEFINED, 22 FAULT, 23 the CODE, 24 the level. */
    long[] state = new long[25];

    private long begin;
    private int count;
    private boolean has66;
    private int repeat;
    private int rex;
    private int v;
    private int mod;
    private int reg;
    private int rm;
    private int base;
    private int index;
    private int times;
    private BigInteger displacement;
    private BigInteger number;
    private boolean isOfStack;

    // Memory, places

    private static long bits(long number, int low, int high) {
        return number << 63 - high >>> 63 - high + low;
    }

    private static boolean bit(long number, int which) {
        return bits(number, which, which) == 1;
    }

    private int byteIn(long where) {
        return where >= 0 && where < 32768 ? memory[(int) where] & 255 : 0;
    }

    private long entry(long where) {
        long sum = 0;
        for (int i = 7; i >= 0; i--) {
            sum = sum * 256 + byteIn(where + i);
        }
        return sum;
    }

    private static boolean isWrong(long place) {
        boolean allClear = bits(place, 47, 63) == 0;
        boolean allSet = bits(~place, 47, 63) == 0;
        return !allClear && !allSet;
    }

    long look(long place, int how) {
        if (isWrong(place)) {
            return -1;
        }
        boolean user = state[24] == 3;
        long more = (how == WRITE ? 2 : 0) + (user ? 4 : 0) + (how == FETCH ? 16 : 0);
        boolean allowed = true;
        long table = bits(state[17], 12, 51);
        for (int level = 1; level <= 4; level++) {
            int low = 48 - 9 * level;
            long entry = entry(table * 4096 + 8 * bits(place, low, low + 8));
            if (!bit(entry, 0)) {
                return -2 - more;
            }
            if (bit(entry, 7) && (level < 3 || level == 3 && bits(entry, 13, 20) != 0)) {
                return -2 - (9 + more);
            }
            allowed &= how != WRITE || bit(entry, 1);
            allowed &= !user || bit(entry, 2);
            allowed &= how != FETCH || !bit(entry, 63);
            if (level == 3 && bit(entry, 7)) {
                return allowed ? bits(entry, 21, 51) * 0x200000 + bits(place, 0, 20) : -2 - (1 + more);
            }
            table = bits(entry, 12, 51);
        }
        return allowed ? table * 4096 + bits(place, 0, 11) : -2 - (1 + more);
    }

    private long lookedUp(long place, int how, int ifWrong) {
        long where = look(place, how);
        if (where == -1) {
            throw new Refusal(ifWrong);
        }
        if (where < -1) {
            state[22] = place;
            state[23] = -2 - where;
            throw new Refusal(Bench.PAGE);
        }
        return where;
    }

    // A step

    int step() {
        byte[] oldMemory = memory.clone();
        long[] old = state.clone();
        try {
            execute();
            return Bench.NONE;
        } catch (Refusal refusal) {
            if (refusal.reason == Bench.PAGE) {
                old[22] = state[22];
                old[23] = state[23];
            }
            memory = oldMemory;
            state = old;
            return refusal.reason;
        }
    }

    private int fetch() {
        if (count == 15) {
            throw new Refusal(Bench.WRONG);
        }
        int value = byteIn(lookedUp(begin + count, FETCH, Bench.WRONG));
        count++;
        return value;
    }

    private BigInteger fetchSigned(int bytes) {
        BigInteger sum = ZERO;
        for (int i = 0; i < bytes; i++) {
            sum = sum.add(BigInteger.valueOf(fetch()).shiftLeft(8 * i));
        }
        return bytes == 0 ? ZERO : signed(sum, bytes);
    }

    private void execute() {
        begin = state[16];
        count = 0;
        has66 = false;
        repeat = 0;
        rex = -1;
        isOfStack = false;
        int value = fetch();
        while (takesPrefix(value)) {
            value = fetch();
        }
        v = rex(3) ? 8 : has66 ? 2 : 4;
        if (value == 0x0F) {
            twoBytes(fetch());
        } else {
            oneByte(value);
        }
    }

    private boolean takesPrefix(int value) {
        if (value >= 0x40 && value <= 0x4F) {
            rex = value;
            return true;
        }
        if (value != 0x66 && value != 0xF2 && value != 0xF3) {
            return false;
        }
        rex = -1;
        has66 |= value == 0x66;
        repeat = value == 0x66 ? repeat : value;
        return true;
    }

    private boolean rex(int which) {
        return rex >= 0 && bit(rex, which);
    }

    private static void told(boolean is) {
        if (!is) {
            throw new Refusal(Bench.UNKNOWN);
        }
    }

    // Bytes behind the opcode

    private void modrm() {
        int value = fetch();
        mod = value / 64;
        reg = value / 8 % 8;
        rm = value % 8;
    }

    /** SIB, displacement and number; then NEXT is behind them all. */
    private void rest(int bytesOfNumber) {
        int bytes = mod == 1 ? 1 : mod == 2 ? 4 : 0;
        base = rm + (rex(0) ? 8 : 0);
        index = -1;
        if (mod != 3 && rm == 4) {
            int sib = fetch();
            base = sib % 8 + (rex(0) ? 8 : 0);
            index = sib / 8 % 8 + (rex(1) ? 8 : 0);
            times = 1 << sib / 64;
            if (index == 4) {
                index = -1;
            }
            if (sib % 8 == 5 && mod == 0) {
                base = -1;
                bytes = 4;
            }
        }
        if (rm == 5 && mod == 0) {
            base = 16;
            bytes = 4;
        }
        displacement = fetchSigned(bytes);
        alone(bytesOfNumber);
    }

    private void alone(int bytesOfNumber) {
        number = fetchSigned(bytesOfNumber);
        state[16] = begin + count;
    }

    private int z() {
        return v == 2 ? 2 : 4;
    }

    private BigInteger place() {
        BigInteger sum = displacement;
        if (base >= 0) {
            sum = sum.add(BigInteger.valueOf(state[base]));
        }
        if (index >= 0) {
            sum = sum.add(BigInteger.valueOf(state[index]).multiply(BigInteger.valueOf(times)));
        }
        return sum;
    }

    // Operands

    private Operand register(int which, int bytes) {
        Operand operand = new Operand(bytes);
        boolean upper = bytes == 1 && rex < 0 && which >= 4 && which < 8;
        operand.register = upper ? which - 4 : which;
        operand.from = upper ? 8 : 0;
        return operand;
    }

    private Operand memory(BigInteger place, int bytes, int how, boolean ofStack) {
        Operand operand = new Operand(bytes);
        operand.at = new long[bytes];
        for (int i = 0; i < bytes; i++) {
            long one = place.add(BigInteger.valueOf(i)).longValue();
            operand.at[i] = lookedUp(one, how, ofStack ? Bench.STACK : Bench.WRONG);
        }
        return operand;
    }

    private Operand e(int bytes, int how) {
        return e(bytes, how, ZERO);
    }

    private Operand e(int bytes, int how, BigInteger farther) {
        if (mod == 3) {
            return register(rm + (rex(0) ? 8 : 0), bytes);
        }
        return memory(place().add(farther), bytes, how, isOfStack || base == 4 || base == 5);
    }

    private Operand g(int bytes) {
        return register(reg + (rex(2) ? 8 : 0), bytes);
    }

    private Operand o(int opcode, int bytes) {
        return register(opcode % 8 + (rex(0) ? 8 : 0), bytes);
    }

    private static BigInteger modulus(int bytes) {
        return ONE.shiftLeft(8 * bytes);
    }

    private static BigInteger plain(long number) {
        return BigInteger.valueOf(number).mod(modulus(8));
    }

    private static BigInteger signed(BigInteger number, int bytes) {
        BigInteger rest = number.mod(modulus(bytes));
        return rest.testBit(8 * bytes - 1) ? rest.subtract(modulus(bytes)) : rest;
    }

    private BigInteger read(Operand operand) {
        if (operand.register >= 0) {
            return plain(state[operand.register]).shiftRight(operand.from).mod(modulus(operand.bytes));
        }
        BigInteger sum = ZERO;
        for (int i = 0; i < operand.bytes; i++) {
            sum = sum.add(BigInteger.valueOf(byteIn(operand.at[i])).shiftLeft(8 * i));
        }
        return sum;
    }

    private void write(Operand operand, BigInteger number) {
        BigInteger value = number.mod(modulus(operand.bytes));
        if (operand.register >= 0) {
            BigInteger old = plain(state[operand.register]);
            BigInteger part = read(operand).shiftLeft(operand.from);
            BigInteger kept = operand.bytes < 4 ? old.subtract(part) : ZERO;
            state[operand.register] = kept.add(value.shiftLeft(operand.from)).longValue();
            return;
        }
        for (int i = 0; i < operand.bytes; i++) {
            if (operand.at[i] < 32768) {
                memory[(int) operand.at[i]] = value.shiftRight(8 * i).byteValue();
            }
        }
    }

    // Flags

    private boolean flag(int which) {
        return (state[20] & which) != 0;
    }

    private void flag(int which, boolean on) {
        state[20] = on ? state[20] | which : state[20] & ~which;
    }

    private void undefined(int... flags) {
        for (int one : flags) {
            flag(one, (state[21] & one) != 0);
        }
    }

    private void ofResult(BigInteger result, int bytes) {
        flag(Bench.ZERO, result.signum() == 0);
        flag(Bench.SIGN, result.testBit(8 * bytes - 1));
        flag(Bench.PARITY, result.mod(modulus(1)).bitCount() % 2 == 0);
    }

    private static boolean fits(BigInteger number, int bytes) {
        return signed(number, bytes).equals(number);
    }

    /** Of first and second, or first less second, with one more of the sign of the second. */
    private BigInteger sum(BigInteger first, BigInteger second, boolean less, boolean more, int bytes) {
        BigInteger sign = less ? ONE.negate() : ONE;
        BigInteger one = more ? sign : ZERO;
        BigInteger exact = first.add(second.multiply(sign)).add(one);
        BigInteger sixteen = BigInteger.valueOf(16);
        BigInteger four = first.mod(sixteen).add(second.mod(sixteen).multiply(sign)).add(one);
        BigInteger withSigns = signed(first, bytes).add(signed(second, bytes).multiply(sign)).add(one);
        BigInteger result = exact.mod(modulus(bytes));
        flag(Bench.CARRY, !exact.equals(result));
        flag(Bench.HALF, four.signum() < 0 || four.compareTo(sixteen) >= 0);
        flag(Bench.OVER, !fits(withSigns, bytes));
        ofResult(result, bytes);
        return result;
    }

    private BigInteger logic(BigInteger result, int bytes) {
        flag(Bench.CARRY, false);
        flag(Bench.OVER, false);
        undefined(Bench.HALF);
        ofResult(result, bytes);
        return result;
    }

    private BigInteger byKind(int k, BigInteger first, BigInteger other, int bytes) {
        BigInteger second = other.mod(modulus(bytes));
        boolean carry = flag(Bench.CARRY);
        switch (k) {
            case 0: return sum(first, second, false, false, bytes);
            case 1: return logic(first.or(second), bytes);
            case 2: return sum(first, second, false, carry, bytes);
            case 3: return sum(first, second, true, carry, bytes);
            case 4: return logic(first.and(second), bytes);
            case 6: return logic(first.xor(second), bytes);
            default: return sum(first, second, true, false, bytes);
        }
    }

    private void change(int k, Operand first, BigInteger second) {
        BigInteger result = byKind(k, read(first), second, first.bytes);
        if (k != 7) {
            write(first, result);
        }
    }

    private boolean condition(int bits) {
        boolean less = flag(Bench.SIGN) ^ flag(Bench.OVER);
        boolean[] each = {flag(Bench.OVER), flag(Bench.CARRY), flag(Bench.ZERO), flag(Bench.CARRY) || flag(Bench.ZERO),
            flag(Bench.SIGN), flag(Bench.PARITY), less, less || flag(Bench.ZERO)};
        return each[bits / 2 % 8] ^ bits % 2 == 1;
    }

    // Opcodes of one byte

    private void oneByte(int opcode) {
        int bytes = opcode % 2 == 0 ? 1 : v;
        if (opcode < 0x40) {
            told(opcode % 8 < 6);
            sums(opcode / 8, opcode % 8, bytes);
        } else if (opcode >= 0x50 && opcode <= 0x5F) {
            alone(0);
            if (opcode < 0x58) {
                push(read(o(opcode, onStack())), onStack());
            } else {
                BigInteger value = pop(onStack());
                write(o(opcode, onStack()), value);
            }
        } else if (opcode >= 0x70 && opcode <= 0x7F) {
            told(!has66);
            alone(1);
            jumpBy(condition(opcode));
        } else if (opcode >= 0x90 && opcode <= 0x97) {
            alone(0);
            if (opcode != 0x90 || rex(0)) {
                exchange(register(0, v), o(opcode, v));
            }
        } else if (opcode >= 0xB0 && opcode <= 0xBF) {
            int size = opcode < 0xB8 ? 1 : v;
            alone(size);
            write(o(opcode, size), number);
        } else if (opcode >= 0xA4 && opcode <= 0xAF && opcode != 0xA8 && opcode != 0xA9) {
            alone(0);
            string(opcode - opcode % 2, bytes);
        } else if (!moves(opcode, bytes) && !flows(opcode)) {
            counts(opcode, bytes);
        }
    }

    private void sums(int k, int form, int bytes) {
        if (form >= 4) {
            alone(form == 4 ? 1 : z());
            change(k, register(0, bytes), number);
            return;
        }
        modrm();
        rest(0);
        Operand e = e(bytes, form < 2 && k != 7 ? WRITE : READ);
        if (form < 2) {
            change(k, e, read(g(bytes)));
        } else {
            change(k, g(bytes), read(e));
        }
    }

    private void exchange(Operand first, Operand second) {
        BigInteger one = read(first);
        BigInteger two = read(second);
        write(first, two);
        write(second, one);
    }

    private boolean moves(int opcode, int bytes) {
        switch (opcode) {
            case 0x63:
                modrm();
                rest(0);
                write(g(v), signed(read(e(z(), READ)), z()));
                return true;
            case 0x86: case 0x87:
                modrm();
                rest(0);
                exchange(e(bytes, WRITE), g(bytes));
                return true;
            case 0x88: case 0x89:
                modrm();
                rest(0);
                write(e(bytes, WRITE), read(g(bytes)));
                return true;
            case 0x8A: case 0x8B:
                modrm();
                rest(0);
                write(g(bytes), read(e(bytes, READ)));
                return true;
            case 0x8D:
                modrm();
                told(mod != 3);
                rest(0);
                write(g(v), place());
                return true;
            case 0xC6: case 0xC7:
                modrm();
                told(reg == 0);
                rest(opcode == 0xC6 ? 1 : z());
                write(e(bytes, WRITE), number);
                return true;
            case 0x98:
                alone(0);
                write(register(0, v), signed(plain(state[0]), v / 2));
                return true;
            case 0x99:
                alone(0);
                write(register(2, v), BigInteger.valueOf(signed(plain(state[0]), v).signum() < 0 ? -1 : 0));
                return true;
            default:
                return false;
        }
    }

    private void counts(int opcode, int bytes) {
        switch (opcode) {
            case 0x80: case 0x81: case 0x83:
                modrm();
                rest(opcode == 0x81 ? z() : 1);
                change(reg, e(bytes, reg == 7 ? READ : WRITE), number);
                break;
            case 0x84: case 0x85:
                modrm();
                rest(0);
                logic(read(e(bytes, READ)).and(read(g(bytes))), bytes);
                break;
            case 0xA8: case 0xA9:
                alone(opcode == 0xA8 ? 1 : z());
                logic(read(register(0, bytes)).and(number.mod(modulus(bytes))), bytes);
                break;
            case 0x69: case 0x6B:
                modrm();
                rest(opcode == 0x69 ? z() : 1);
                product(g(v), read(e(v, READ)), number);
                break;
            case 0xC0: case 0xC1: case 0xD0: case 0xD1: case 0xD2: case 0xD3:
                modrm();
                told(reg != 6);
                rest(opcode < 0xD0 ? 1 : 0);
                shift(e(bytes, WRITE), opcode < 0xD0 ? number.intValue() : opcode < 0xD2 ? 1 : (int) state[1]);
                break;
            case 0xF6: case 0xF7:
                modrm();
                told(reg != 1);
                rest(reg != 0 ? 0 : opcode == 0xF6 ? 1 : z());
                byReg(e(bytes, reg == 2 || reg == 3 ? WRITE : READ));
                break;
            case 0xFE: case 0xFF:
                boolean carry = flag(Bench.CARRY);
                rest(0);
                change(reg == 0 ? 0 : 5, e(bytes, WRITE), ONE);
                flag(Bench.CARRY, carry);
                break;
            case 0xF5: case 0xF8: case 0xF9:
                alone(0);
                flag(Bench.CARRY, opcode == 0xF9 || opcode == 0xF5 && !flag(Bench.CARRY));
                break;
            case 0xFC: case 0xFD:
                alone(0);
                flag(Bench.DOWN, opcode == 0xFD);
                break;
            default:
                told(false);
                break;
        }
    }

    // Products, quotients, shifts

    private void productFlags(BigInteger exact, BigInteger kept) {
        boolean lost = !exact.equals(kept);
        flag(Bench.CARRY, lost);
        flag(Bench.OVER, lost);
        undefined(Bench.SIGN, Bench.ZERO, Bench.HALF, Bench.PARITY);
    }

    private void product(Operand g, BigInteger first, BigInteger second) {
        BigInteger exact = signed(first, v).multiply(signed(second, v));
        write(g, exact);
        productFlags(exact, signed(exact, v));
    }

    private void byReg(Operand e) {
        int bytes = e.bytes;
        BigInteger value = read(e);
        Operand lower = register(0, bytes);
        Operand upper = register(2, bytes);
        if (bytes == 1) {
            upper.register = 0;
            upper.from = 8;
        }
        boolean withSigns = reg % 2 == 1;
        if (reg == 0) {
            logic(value.and(number.mod(modulus(bytes))), bytes);
        } else if (reg == 2) {
            write(e, value.not());
        } else if (reg == 3) {
            write(e, sum(ZERO, value, true, false, bytes));
        } else if (reg < 6) {
            BigInteger first = read(lower);
            BigInteger exact = withSigns ? signed(first, bytes).multiply(signed(value, bytes)) : first.multiply(value);
            write(lower, exact);
            write(upper, exact.shiftRight(8 * bytes));
            productFlags(exact, withSigns ? signed(exact, bytes) : exact.mod(modulus(bytes)));
        } else {
            BigInteger whole = read(upper).shiftLeft(8 * bytes).add(read(lower));
            divide(withSigns ? signed(whole, 2 * bytes) : whole, withSigns ? signed(value, bytes) : value, lower, upper, withSigns);
        }
    }

    private void divide(BigInteger whole, BigInteger by, Operand lower, Operand upper, boolean withSigns) {
        if (by.signum() == 0) {
            throw new Refusal(Bench.DIVIDE);
        }
        BigInteger[] both = whole.divideAndRemainder(by);
        boolean fits = withSigns ? fits(both[0], lower.bytes) : both[0].compareTo(modulus(lower.bytes)) < 0;
        if (!fits) {
            throw new Refusal(Bench.DIVIDE);
        }
        write(lower, both[0]);
        write(upper, both[1]);
        undefined(Bench.CARRY, Bench.PARITY, Bench.HALF, Bench.ZERO, Bench.SIGN, Bench.OVER);
    }

    private void shift(Operand e, int told) {
        int size = 8 * e.bytes;
        int times = Math.floorMod(told, size == 64 ? 64 : 32);
        BigInteger before = read(e);
        BigInteger value = before;
        boolean carry = flag(Bench.CARRY);
        boolean through = reg == 2 || reg == 3;
        boolean left = reg % 2 == 0;
        int turns = through && size <= 16 ? times % (size + 1) : times;
        for (int i = 0; i < turns; i++) {
            boolean out = value.testBit(left ? size - 1 : 0);
            boolean in = through ? carry : reg < 2 ? out : reg == 7 && value.testBit(size - 1);
            value = left ? value.shiftLeft(1).mod(modulus(e.bytes)) : value.shiftRight(1);
            value = in ? value.setBit(left ? 0 : size - 1) : value;
            carry = out;
        }
        write(e, value);
        if (times == 0) {
            return;
        }
        boolean top = value.testBit(size - 1);
        flag(Bench.CARRY, carry);
        boolean over = left ? top ^ carry : reg < 4 ? top ^ value.testBit(size - 2) : reg == 5 && before.testBit(size - 1);
        flag(Bench.OVER, over);
        if (times != 1) {
            undefined(Bench.OVER);
        }
        if (reg >= 4) {
            ofResult(value, e.bytes);
            undefined(Bench.HALF);
        }
        if (reg >= 4 && reg != 7 && times > size) {
            undefined(Bench.CARRY);
        }
    }

    // Jumps, the stack

    private void jump(BigInteger place) {
        if (isWrong(place.longValue())) {
            throw new Refusal(Bench.WRONG);
        }
        state[16] = place.longValue();
    }

    private void jumpBy(boolean holds) {
        if (holds) {
            jump(plain(state[16]).add(number));
        }
    }

    private int onStack() {
        return has66 && !rex(3) ? 2 : 8;
    }

    private void push(BigInteger value, int bytes) {
        state[4] -= bytes;
        write(memory(plain(state[4]), bytes, WRITE, true), value);
    }

    private BigInteger pop(int bytes) {
        BigInteger value = read(memory(plain(state[4]), bytes, READ, true));
        state[4] += bytes;
        return value;
    }

    private void call(BigInteger place) {
        BigInteger back = plain(state[16]);
        jump(place);
        push(back, 8);
    }

    /** FF 0 and 1 are left with their MODRM fetched. */
    private boolean flows(int opcode) {
        switch (opcode) {
            case 0x68: case 0x6A:
                alone(opcode == 0x68 ? z() : 1);
                push(number, onStack());
                return true;
            case 0x8F:
                modrm();
                told(reg == 0);
                rest(0);
                isOfStack = true;
                BigInteger value = pop(onStack());
                write(e(onStack(), WRITE), value);
                return true;
            case 0x9C:
                alone(0);
                push(BigInteger.valueOf(state[20] + 2), onStack());
                return true;
            case 0x9D:
                alone(0);
                state[20] = pop(onStack()).intValue() & Bench.SEVEN;
                return true;
            case 0xFE:
                modrm();
                told(reg < 2);
                return false;
            case 0xFF:
                return flowsToE();
            case 0xC2: case 0xC3: case 0xC9: case 0xE0: case 0xE1: case 0xE2: case 0xE3: case 0xE8: case 0xE9: case 0xEB:
                told(!has66);
                goes(opcode);
                return true;
            default:
                return false;
        }
    }

    private boolean flowsToE() {
        modrm();
        told(reg % 2 == 0 || reg == 1);
        if (reg < 2) {
            return false;
        }
        told(reg == 6 || !has66);
        rest(0);
        isOfStack = reg != 4;
        BigInteger value = read(e(reg == 6 ? onStack() : 8, READ));
        if (reg == 2) {
            call(value);
        } else if (reg == 4) {
            jump(value);
        } else {
            push(value, onStack());
        }
        return true;
    }

    private void goes(int opcode) {
        alone(opcode == 0xC2 ? 2 : opcode == 0xC3 || opcode == 0xC9 ? 0 : opcode == 0xE8 || opcode == 0xE9 ? 4 : 1);
        switch (opcode) {
            case 0xC2: case 0xC3:
                jump(pop(8));
                state[4] += number.mod(modulus(2)).longValue();
                break;
            case 0xC9:
                state[4] = state[5];
                state[5] = pop(8).longValue();
                break;
            case 0xE8:
                call(plain(state[16]).add(number));
                break;
            case 0xE9: case 0xEB:
                jumpBy(true);
                break;
            case 0xE3:
                jumpBy(state[1] == 0);
                break;
            default:
                state[1]--;
                jumpBy(state[1] != 0 && (opcode != 0xE0 || !flag(Bench.ZERO)) && (opcode != 0xE1 || flag(Bench.ZERO)));
                break;
        }
    }

    // Strings

    private void string(int kind, int bytes) {
        if (repeat != 0 && state[1] == 0) {
            return;
        }
        boolean fromSource = kind == 0xA4 || kind == 0xA6 || kind == 0xAC;
        boolean compares = kind == 0xA6 || kind == 0xAE;
        Operand first = fromSource ? memory(plain(state[6]), bytes, READ, false) : register(0, bytes);
        Operand second = kind == 0xAC ? register(0, bytes) : memory(plain(state[7]), bytes, compares ? READ : WRITE, false);
        if (compares) {
            byKind(7, read(first), read(second), bytes);
        } else {
            write(second, read(first));
        }
        long farther = flag(Bench.DOWN) ? -bytes : bytes;
        state[6] += fromSource ? farther : 0;
        state[7] += kind == 0xAC ? 0 : farther;
        if (repeat == 0) {
            return;
        }
        state[1]--;
        boolean ends = state[1] == 0 || compares && flag(Bench.ZERO) == (repeat == 0xF2);
        if (!ends) {
            state[16] = begin;
        }
    }

    // Opcodes of two bytes

    private void twoBytes(int second) {
        if (second >= 0x80 && second <= 0x8F) {
            told(!has66);
            alone(4);
            jumpBy(condition(second));
        } else if (second >= 0xC8 && second <= 0xCF) {
            told(v != 2);
            alone(0);
            turnRound(o(second, v));
        } else if (second == 0x05 || second == 0x07) {
            alone(0);
            system(second == 0x05);
        } else {
            told(second >= 0x40 && second <= 0x4F || second >= 0x90 && second <= 0x9F || second == 0xA3 || second == 0xAB
                    || second == 0xAF || second == 0xB0 || second == 0xB1 || second == 0xB3
                    || second >= 0xB6 && second <= 0xC1 && second != 0xB8 && second != 0xB9);
            modrm();
            told(second != 0xBA || reg >= 4);
            rest(second == 0xBA ? 1 : 0);
            twoBytesWithE(second);
        }
    }

    private void turnRound(Operand o) {
        BigInteger value = read(o);
        BigInteger turned = ZERO;
        for (int i = 0; i < v; i++) {
            turned = turned.shiftLeft(8).add(value.shiftRight(8 * i).mod(modulus(1)));
        }
        write(o, turned);
    }

    private void system(boolean enters) {
        if (enters) {
            state[1] = state[16];
            state[11] = state[20] + 2;
            state[16] = state[18];
            state[20] &= ~state[19];
            state[24] = 0;
            return;
        }
        if (state[24] == 3) {
            throw new Refusal(Bench.WRONG);
        }
        jump(plain(state[1]));
        state[20] = state[11] & Bench.SEVEN;
        state[24] = 3;
    }

    private void twoBytesWithE(int second) {
        if (second < 0x50) {
            BigInteger value = read(e(v, READ));
            write(g(v), condition(second) ? value : read(g(v)));
        } else if (second < 0xA0) {
            write(e(1, WRITE), condition(second) ? ONE : ZERO);
        } else if (second == 0xA3 || second == 0xAB || second == 0xB3 || second == 0xBB) {
            bitOfG(second / 8 % 4);
        } else if (second == 0xBA) {
            useBit(reg - 4, e(v, reg == 4 ? READ : WRITE), number);
        } else if (second == 0xAF) {
            product(g(v), read(g(v)), read(e(v, READ)));
        } else if (second == 0xB0 || second == 0xB1) {
            compareAndExchange(e(second == 0xB0 ? 1 : v, WRITE));
        } else if (second == 0xC0 || second == 0xC1) {
            addAndExchange(e(second == 0xC0 ? 1 : v, WRITE));
        } else if (second == 0xBC || second == 0xBD) {
            findBit(second == 0xBC);
        } else {
            int bytes = second % 2 == 0 ? 1 : 2;
            BigInteger value = read(e(bytes, READ));
            write(g(v), second >= 0xBE ? signed(value, bytes) : value);
        }
    }

    private void bitOfG(int kind) {
        BigInteger which = signed(read(g(v)), v);
        BigInteger units = BigInteger.valueOf(Math.floorDiv(which.longValue(), 8L * v));
        useBit(kind, e(v, kind == 0 ? READ : WRITE, units.multiply(BigInteger.valueOf(v))), which);
    }

    private void useBit(int kind, Operand e, BigInteger told) {
        int which = told.mod(BigInteger.valueOf(8L * v)).intValue();
        BigInteger value = read(e);
        flag(Bench.CARRY, value.testBit(which));
        undefined(Bench.OVER, Bench.SIGN, Bench.HALF, Bench.PARITY);
        if (kind != 0) {
            write(e, kind == 1 ? value.setBit(which) : kind == 2 ? value.clearBit(which) : value.flipBit(which));
        }
    }

    private void findBit(boolean lowest) {
        BigInteger value = read(e(v, READ));
        flag(Bench.ZERO, value.signum() == 0);
        undefined(Bench.CARRY, Bench.OVER, Bench.SIGN, Bench.HALF, Bench.PARITY);
        if (value.signum() != 0) {
            write(g(v), BigInteger.valueOf(lowest ? value.getLowestSetBit() : value.bitLength() - 1));
        }
    }

    private void compareAndExchange(Operand e) {
        Operand a = register(0, e.bytes);
        BigInteger value = read(e);
        boolean alike = byKind(7, read(a), value, e.bytes).signum() == 0;
        if (!alike) {
            write(a, value);
        }
        write(e, alike ? read(g(e.bytes)) : value);
    }

    private void addAndExchange(Operand e) {
        Operand g = g(e.bytes);
        BigInteger value = read(e);
        BigInteger total = sum(value, read(g), false, false, e.bytes);
        write(g, value);
        write(e, total);
    }
}
