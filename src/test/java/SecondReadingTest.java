import java.util.Arrays;
import java.util.Random;

/** Promises 7 and 9: steps of any kind in any state, told by the class and by a second reading of the document. */
final class SecondReadingTest {
    private static final int[] OPCODES = opcodes();
    /** Those with many instructions, or with few of them told. */
    private static final int[] BY_REG = {0x8F, 0xC0, 0xC1, 0xC6, 0xC7, 0xD2, 0xD3, 0xF6, 0xF7, 0xFE, 0xFF, 0xFF, 256 + 0xBA};

    private final Random random;
    private final LongModeCore core = new LongModeCore();
    private final SecondReading reading = new SecondReading();

    /** Every page may be used in every way. */
    private boolean open;

    private SecondReadingTest(long seed) {
        random = new Random(seed);
    }

    public static void main(String[] args) {
        int cases = args.length > 0 ? Integer.parseInt(args[0]) : 12000;
        long seed = args.length > 1 ? Long.parseLong(args[1]) : 1;
        int[] reasons = new int[16];
        for (int i = 0; i < cases; i++) {
            new SecondReadingTest(seed * 1_000_000_007L + i).compare("case " + i, reasons);
        }
        for (int reason : new int[] {-1, 0, 6, 12, 13, 14}) {
            Bench.due("steps with reason " + reason, reasons[reason + 1] > 0 ? 1 : 0, 1);
        }
        System.out.println("SecondReadingTest: steps by reason: none " + reasons[0] + ", DIVIDE " + reasons[1] + ", UNKNOWN "
                + reasons[7] + ", STACK " + reasons[13] + ", WRONG " + reasons[14] + ", PAGE " + reasons[15]);
        Bench.finish("SecondReadingTest");
    }

    /** Those of which the second reading executes anything, 256 more for those behind 0F; and two that it doesn't. */
    private static int[] opcodes() {
        int[] told = new int[512];
        int length = 0;
        for (int opcode = 0; opcode < 512; opcode++) {
            boolean any = opcode == 0x06 || opcode == 256 + 0x0B;
            for (int modrm = 0; modrm < 256 && !any; modrm++) {
                any = reasonOf(opcode, modrm) != Bench.UNKNOWN;
            }
            if (any) {
                told[length++] = opcode;
            }
        }
        return Arrays.copyOf(told, length);
    }

    private static int reasonOf(int opcode, int modrm) {
        SecondReading reading = new SecondReading();
        byte[] entries = {0x20, 0x30, 0x40, 0x60};
        for (int level = 0; level < 4; level++) {
            reading.memory[0x1000 * (level + 1)] = 7;
            reading.memory[0x1000 * (level + 1) + 1] = entries[level];
        }
        reading.state[17] = 0x1000;
        int length = 0;
        if (opcode >= 256) {
            reading.memory[0x6000 + length++] = 0x0F;
        }
        reading.memory[0x6000 + length++] = (byte) opcode;
        reading.memory[0x6000 + length] = (byte) modrm;
        return reading.step();
    }

    private void compare(String name, int[] reasons) {
        makeTables();
        makeState();
        for (int step = 0; step < 4; step++) {
            String what = name + ", step " + step + ", " + makeCode();
            int due = reading.step();
            reasons[due + 1]++;
            Bench.due(what, core.step(), due);
            compareState(what + " (" + due + ")");
            compareLook(what);
        }
    }

    private void compareState(String what) {
        for (int register = 0; register < 25; register++) {
            Bench.due(what + ": register " + register, core.get(register), reading.state[register]);
        }
        for (int place = 0; place < 32768; place += 8) {
            long due = 0;
            for (int i = 7; i >= 0; i--) {
                due = due << 8 | reading.memory[place + i] & 255;
            }
            if (core.stored(place) != due) {
                Bench.due(what + ": memory " + Integer.toHexString(place), core.stored(place), due);
            }
        }
    }

    private void compareLook(String what) {
        long place = anyPlace();
        int how = random.nextInt(3);
        long got = core.look((int) (place >>> 32), (int) place, how);
        Bench.due(what + ": look " + Long.toHexString(place) + " " + how, got, reading.look(place, how));
    }

    private boolean chance(int outOf) {
        return random.nextInt(outOf) == 0;
    }

    private void store(int place, long value) {
        core.store(place, (int) value, (int) (value >>> 32));
        for (int i = 0; i < 8; i++) {
            reading.memory[place + i] = (byte) (value >>> 8 * i);
        }
    }

    private void set(int register, long value) {
        core.set(register, (int) (value >>> 32), (int) value);
        reading.state[register] = value;
    }

    // Tables

    private void makeTables() {
        open = random.nextBoolean();
        for (int which : new int[] {0, 255, 256, 511}) {
            store(0x1000 + 8 * which, anyEntry(0x2000, 1));
        }
        for (int which : new int[] {0, 511}) {
            store(0x2000 + 8 * which, anyEntry(0x3000, 2));
            store(0x3000 + 8 * which, anyEntry(0x4000, 3));
        }
        store(0x3008, 0x87 | (chance(4) ? 0x200000L : 0) | (chance(6) ? 1L << 13 + random.nextInt(8) : 0) | anyLocks());
        for (int page = 0; page < 16; page++) {
            store(0x4000 + 8 * page, anyEntry(page << 12, 4));
        }
        store(0x4000 + 8 * 511, anyEntry(0x5000, 4));
        set(17, 0x1000 | (chance(3) ? random.nextInt(4096) : 0) | (chance(9) ? 0xFFFL << 52 : 0));
    }

    private long anyEntry(long to, int level) {
        long entry = to | 7;
        if (open) {
            return entry;
        }
        if (level == 4 && chance(4)) {
            entry = (long) random.nextInt(10) << 12 | 7;
        }
        if (level == 4 && chance(20)) {
            entry |= (1L << 40 + random.nextInt(12));
        }
        if (chance(level == 4 ? 2 : 40)) {
            entry |= 128;
        }
        if (chance(30)) {
            entry |= 0x7FFL << 52 | 0xF78;
            entry &= level == 4 ? -1 : ~128L;
        }
        if (chance(level == 4 ? 6 : 60)) {
            entry &= ~(1L << random.nextInt(3));
        }
        return entry | anyLocks();
    }

    private long anyLocks() {
        return chance(25) ? 1L << 63 : 0;
    }

    // Registers

    private long anyPlace() {
        switch (random.nextInt(12)) {
            case 0:
                return Bench.FIRST_WRONG - 12 + random.nextInt(16);
            case 1:
                return Bench.UPPER_HALF - 12 + random.nextInt(24);
            case 2:
                return random.nextInt(24) - 12;
            case 3:
                return 0x200000 + random.nextInt(0x9000);
            case 4:
                return 0x1000 * random.nextInt(17) - random.nextInt(9);
            default:
                return 0x5000 + random.nextInt(0x3000);
        }
    }

    private long anyNumber() {
        switch (random.nextInt(8)) {
            case 0:
                return random.nextLong();
            case 1:
                return random.nextInt(40) - 20;
            case 2:
                return random.nextLong() >> random.nextInt(64);
            case 3:
                return (1L << random.nextInt(64)) - random.nextInt(3);
            default:
                return anyPlace();
        }
    }

    private void makeState() {
        for (int register = 0; register < 16; register++) {
            set(register, anyNumber());
        }
        if (chance(2)) {
            set(4, 0x7000 + random.nextInt(0x1000));
        }
        if (chance(4)) {
            set(1, random.nextInt(4));
        }
        set(18, anyNumber());
        set(19, random.nextLong());
        set(20, random.nextInt() & Bench.SEVEN);
        set(21, random.nextLong());
        boolean user = random.nextBoolean();
        core.level(user);
        reading.state[24] = user ? 3 : 0;
        for (int place = 0x5000; place < 0x8000; place += 8 + 8 * random.nextInt(20)) {
            store(place, chance(2) ? anyNumber() : random.nextLong());
        }
    }

    // Instructions

    /** REG as the opcode is told with it, a place by the stack's register, or what can be divided. */
    private void makeModrm(int opcode, int[] bytes, int at) {
        if (opcode == 0x8F || opcode == 0xC6 || opcode == 0xC7) {
            bytes[at] &= chance(9) ? 255 : 0xC7;
        }
        if (chance(6)) {
            bytes[at] = bytes[at] & 0xF8 | 4;
            bytes[at + 1] = bytes[at + 1] & 0xF8 | 4;
        }
        if ((opcode == 0xF6 || opcode == 0xF7) && chance(2)) {
            long[] edges = {0, 1, -1, 2, 128, -128, 0x80FF, 0x8000, 1L << 31, -1L << 31, 1L << 63};
            set(0, edges[random.nextInt(edges.length)]);
            set(2, edges[random.nextInt(3)]);
            set(3, edges[random.nextInt(edges.length)]);
            bytes[at] = 0xC3 | 8 * (4 + random.nextInt(4));
        }
    }

    private String makeCode() {
        StringBuilder text = new StringBuilder();
        int[] bytes = new int[24];
        int length = 0;
        int prefixes = chance(30) ? 10 + random.nextInt(7) : random.nextInt(4);
        int[] each = {0x66, 0xF2, 0xF3};
        for (int i = 0; i < prefixes; i++) {
            bytes[length++] = chance(2) ? each[random.nextInt(3)] : 0x40 + random.nextInt(16);
        }
        int opcode = chance(4) ? BY_REG[random.nextInt(BY_REG.length)] : OPCODES[random.nextInt(OPCODES.length)];
        if (opcode >= 256) {
            bytes[length++] = 0x0F;
        }
        bytes[length++] = opcode & 255;
        for (int i = length; i < bytes.length; i++) {
            bytes[i] = chance(3) ? random.nextInt(4) : random.nextInt(256);
        }
        makeModrm(opcode, bytes, length);
        long place = 0x6000 + random.nextInt(0x800);
        if (chance(5)) {
            place = anyPlace();
        } else if (chance(5)) {
            place = 0x7000 - random.nextInt(16);
        }
        for (int i = 0; i < bytes.length; i++) {
            long where = reading.look(place + i, 2);
            if (where >= 0 && where < 32768) {
                int from = (int) Math.min(where, 32760);
                int shift = 8 * (int) (where - from);
                store(from, core.stored(from) & ~(255L << shift) | (long) bytes[i] << shift);
            }
            text.append(String.format("%02x ", bytes[i]));
        }
        set(16, place);
        return text.append("at ").append(Long.toHexString(place)).toString();
    }
}
