/** A core with three pages of its own places, and the asking of answers. */
final class Bench {
    static final int DATA = 0x5000;
    static final int CODE = 0x6000;
    static final int TOP = 0x7800;
    /** The last table: entry n is of page n. */
    static final int LAST_TABLE = 0x4000;

    static final int NONE = -1;
    static final int DIVIDE = 0;
    static final int UNKNOWN = 6;
    static final int STACK = 12;
    static final int WRONG = 13;
    static final int PAGE = 14;

    static final int CARRY = 1;
    static final int PARITY = 4;
    static final int HALF = 16;
    static final int ZERO = 64;
    static final int SIGN = 128;
    static final int DOWN = 1024;
    static final int OVER = 2048;
    static final int SIX = CARRY | PARITY | HALF | ZERO | SIGN | OVER;
    static final int SEVEN = SIX | DOWN;

    static final int NEXT = 16;
    static final int TABLE = 17;
    static final int ENTRY = 18;
    static final int MASK = 19;
    static final int FLAGS = 20;
    static final int UNDEFINED = 21;
    static final int FAULT = 22;
    static final int FAULT_CODE = 23;
    static final int LEVEL = 24;

    /** The first place that is wrong, and the first right one of the upper half. */
    static final long FIRST_WRONG = 0x0000800000000000L;
    static final long UPPER_HALF = 0xFFFF800000000000L;

    private static int asked;
    private static int wrong;

    final LongModeCore core = new LongModeCore();

    Bench() {
        store(0x1000, 0x2007);
        store(0x2000, 0x3007);
        store(0x3000, LAST_TABLE | 7);
        for (int page = 5; page < 8; page++) {
            store(LAST_TABLE + 8 * page, (long) page << 12 | 7);
        }
        set(TABLE, 0x1000);
        set(NEXT, CODE);
        set(4, TOP);
    }

    Bench store(int place, long value) {
        due("store " + place, core.store(place, (int) value, (int) (value >>> 32)) ? 1 : 0, 1);
        return this;
    }

    /** The last table's entry for that page. */
    Bench map(int page, long entry) {
        return store(LAST_TABLE + 8 * page, entry);
    }

    /**
     * The first page of each half, 0 and UPPER_HALF, lies where page 5 does; the last one of each
     * half, up to FIRST_WRONG and up to the last place of all, where page 7 does.
     */
    Bench ends() {
        store(0x1000 + 8 * 255, 0x2007).store(0x1000 + 8 * 256, 0x2007).store(0x1000 + 8 * 511, 0x2007);
        store(0x2000 + 8 * 511, 0x3007).store(0x3000 + 8 * 511, LAST_TABLE | 7);
        return map(511, 0x7007).map(0, 0x5007);
    }

    Bench set(int register, long value) {
        due("set " + register, core.set(register, (int) (value >>> 32), (int) value) ? 1 : 0, 1);
        return this;
    }

    long get(int register) {
        return core.get(register);
    }

    long look(long place, int how) {
        return core.look((int) (place >>> 32), (int) place, how);
    }

    /** Bytes in base 16, with blanks between them or not. */
    Bench bytes(int place, String text) {
        String digits = text.replace(" ", "");
        for (int i = 0; 2 * i < digits.length(); i++) {
            int from = Math.min(place + i, 32760);
            int shift = 8 * (place + i - from);
            long value = Long.parseLong(digits.substring(2 * i, 2 * i + 2), 16);
            store(from, core.stored(from) & ~(255L << shift) | value << shift);
        }
        return this;
    }

    Bench code(String text) {
        return bytes(CODE, text).set(NEXT, CODE);
    }

    /** These bytes in memory, and NEXT at a place that is looked up to them. */
    Bench at(int memory, long place, String text) {
        return bytes(memory, text).set(NEXT, place);
    }

    /** The reason of one step over these bytes. */
    int step(String text) {
        code(text);
        return core.step();
    }

    /** One step over these bytes, which is not refused and goes on to the next instruction. */
    Bench done(String text) {
        return goes(text, CODE + text.replace(" ", "").length() / 2);
    }

    /** One step over these bytes, which is not refused and leaves NEXT at that place. */
    Bench goes(String text, long place) {
        return code(text).goesOn(text, place);
    }

    /** One step from where NEXT is, which is not refused and leaves it at that place. */
    Bench goesOn(String what, long place) {
        due(what, core.step(), NONE);
        due(what + ": NEXT", get(NEXT), place);
        return this;
    }

    /** One step over these bytes, which is refused and changes nothing. */
    Bench refused(String text, int reason) {
        return code(text).stays(text, reason);
    }

    /** One step from where NEXT is, which is refused and changes nothing, but at a PAGE FAULT and the CODE. */
    Bench stays(String what, int reason) {
        String before = state();
        long fault = get(FAULT);
        long code = get(FAULT_CODE);
        due(what, core.step(), reason);
        due(what + " changes something", state().equals(before) ? 0 : 1, 0);
        if (reason != PAGE) {
            has(what + ": FAULT", FAULT, fault).has(what + ": the CODE", FAULT_CODE, code);
        }
        return this;
    }

    /** One step from where NEXT is, which is a PAGE. */
    Bench pageHere(String what, long fault, int code) {
        return stays(what, PAGE).has(what + ": FAULT", FAULT, fault).has(what + ": the CODE", FAULT_CODE, code);
    }

    Bench page(String text, long fault, int code) {
        return code(text).pageHere(text, fault, code);
    }

    Bench has(String what, int register, long want) {
        due(what + ": register " + register, get(register), want);
        return this;
    }

    Bench holds(String what, int place, long want) {
        due(what + ": memory " + place, core.stored(place), want);
        return this;
    }

    /** All but FAULT and the CODE. */
    String state() {
        StringBuilder text = new StringBuilder();
        for (int register = 0; register <= 21; register++) {
            text.append(get(register)).append(' ');
        }
        text.append(get(LEVEL));
        for (int place = 0; place < 32768; place += 8) {
            text.append(' ').append(core.stored(place));
        }
        return text.toString();
    }

    static void due(String what, long got, long want) {
        asked++;
        if (got != want) {
            wrong++;
            if (wrong <= 40) {
                System.out.println(what + " answered " + Long.toHexString(got) + ", due is " + Long.toHexString(want));
            }
        }
    }

    static int asked() {
        return asked;
    }

    static int wrong() {
        return wrong;
    }

    static void finish(String name) {
        System.out.println(name + ": " + asked + " answers asked, " + wrong + " not as due");
        if (wrong != 0 || asked == 0) {
            System.exit(1);
        }
    }

    static long mask(int bytes) {
        return bytes == 8 ? -1L : (1L << 8 * bytes) - 1L;
    }

    static long signed(long value, int bytes) {
        return value << 64 - 8 * bytes >> 64 - 8 * bytes;
    }

    /** A register after it got a value of that size. */
    static long kept(long old, long value, int bytes) {
        return bytes >= 4 ? value & mask(bytes) : old & ~mask(bytes) | value & mask(bytes);
    }

    /** Prefixes that make v that size. */
    static String prefix(int bytes) {
        return bytes == 8 ? "48" : bytes == 2 ? "66" : "";
    }

    static String hex(long value, int bytes) {
        StringBuilder text = new StringBuilder();
        for (int i = 0; i < bytes; i++) {
            text.append(String.format("%02x", value >>> 8 * i & 255));
        }
        return text.toString();
    }
}
