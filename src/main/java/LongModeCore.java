/**
 * A processor of 64 bits that executes instructions byte by byte out of a paged memory.
 *
 * <p>No call makes an object: all rows are made once, in the constructor. Every instruction looks
 * up all that it needs before it changes anything, so a refusal has nothing to undo.
 */
public final class LongModeCore {

    /** Nothing refused. */
    public static final int NONE = -1;

    private static final int DIVIDE = 0;
    private static final int UNKNOWN = 6;
    private static final int STACK = 12;
    private static final int WRONG = 13;
    private static final int PAGE = 14;

    /** What a unit answers for an opcode that another unit executes. */
    private static final int ELSEWHERE = -2;

    private static final int READ = 0;
    private static final int WRITE = 1;
    private static final int FETCH = 2;

    private static final int CARRY = 1;
    private static final int PARITY = 4;
    private static final int HALF = 16;
    private static final int ZERO = 64;
    private static final int SIGN = 128;
    private static final int DOWN = 1024;
    private static final int OVER = 2048;
    private static final int SIX_FLAGS = CARRY | PARITY | HALF | ZERO | SIGN | OVER;
    private static final int SEVEN_FLAGS = SIX_FLAGS | DOWN;

    /** This bit is always 1 where the flags are written down as a number. */
    private static final int FIXED_FLAG = 2;

    private static final int A = 0;
    private static final int COUNT = 1;
    private static final int D = 2;
    private static final int STACK_TOP = 4;
    private static final int FRAME = 5;
    private static final int SOURCE = 6;
    private static final int GOAL = 7;
    private static final int SAVED_FLAGS = 11;

    private static final int MOST_STEPS = 1000;

    private final State state;
    private final Pages pages;
    private final Decoder decoder;
    private final Operands operands;
    private final Flow flow;
    private final Strings strings;
    private final OneByte oneByte;
    private final TwoByte twoByte;

    public LongModeCore() {
        state = new State();
        pages = new Pages(state);
        decoder = new Decoder(state, pages);
        operands = new Operands(state, decoder, new Span(pages));
        Arithmetic arithmetic = new Arithmetic(state);
        Wide wide = new Wide(arithmetic);
        flow = new Flow(state, decoder, operands, arithmetic, new Span(pages));
        strings = new Strings(state, decoder, operands, arithmetic, new Span(pages), new Span(pages));
        oneByte = new OneByte(state, decoder, operands, arithmetic, wide);
        twoByte = new TwoByte(decoder, operands, arithmetic, wide);
    }

    public boolean store(int place, int first, int second) {
        if (place < 0 || place > Pages.SIZE - 8) {
            return false;
        }
        for (int i = 0; i < 4; i++) {
            pages.putByte(place + i, first >>> 8 * i);
            pages.putByte(place + 4 + i, second >>> 8 * i);
        }
        return true;
    }

    public long stored(int place) {
        long sum = 0L;
        for (int i = 0; i < 8; i++) {
            sum |= (long) pages.byteAt((long) place + i) << 8 * i;
        }
        return sum;
    }

    public boolean set(int register, int high, int low) {
        long value = joined(high, low);
        if (register >= 0 && register < 16) {
            state.registers[register] = value;
            return true;
        }
        switch (register) {
            case 16:
                state.next = value;
                return true;
            case 17:
                state.table = value;
                return true;
            case 18:
                state.entry = value;
                return true;
            case 19:
                state.mask = value;
                return true;
            case 20:
                state.flags = low & SEVEN_FLAGS;
                return true;
            case 21:
                state.undefined = value;
                return true;
            default:
                return false;
        }
    }

    public long get(int register) {
        if (register >= 0 && register < 16) {
            return state.registers[register];
        }
        switch (register) {
            case 16:
                return state.next;
            case 17:
                return state.table;
            case 18:
                return state.entry;
            case 19:
                return state.mask;
            case 20:
                return state.flags;
            case 21:
                return state.undefined;
            case 22:
                return state.fault;
            case 23:
                return state.code;
            case 24:
                return state.user ? 3L : 0L;
            default:
                return 0L;
        }
    }

    public void level(boolean user) {
        state.user = user;
    }

    public int step() {
        int reason = decoder.decode();
        if (reason == NONE) {
            reason = operands.open();
        }
        if (reason != NONE) {
            return reason;
        }
        reason = flow.execute();
        if (reason == ELSEWHERE) {
            reason = strings.execute();
        }
        if (reason == ELSEWHERE) {
            reason = decoder.opcode < Decoder.TWO ? oneByte.execute() : twoByte.execute();
        }
        if (reason == NONE) {
            state.next = decoder.onward;
        }
        return reason;
    }

    public int run(int n) {
        if (n < 0 || n > MOST_STEPS) {
            return 0;
        }
        for (int done = 0; done < n; done++) {
            if (step() != NONE) {
                return done;
            }
        }
        return n;
    }

    public long look(int high, int low, int how) {
        return pages.locate(joined(high, low), how);
    }

    private static long joined(int high, int low) {
        return (long) high << 32 | low & 0xFFFFFFFFL;
    }

    /** All that an instruction can change, but for memory. */
    static final class State {
        final long[] registers = new long[16];
        long next;
        long table;
        long entry;
        long mask;
        long undefined;
        long fault;
        int flags;
        int code;
        boolean user;
    }

    /** Memory, and the tables in it through which places are looked up. */
    static final class Pages {
        static final int SIZE = 32768;
        static final long IN_PAGE = 4095L;

        private static final long FRAME_BITS = 0x000FFFFFFFFFF000L;
        private static final long LARGE_FRAME_BITS = 0x000FFFFFFFE00000L;
        private static final long IN_LARGE_PAGE = 0x1FFFFFL;
        private static final long LARGE_RESERVED = 0x1FE000L;
        private static final long THERE = 1L;
        private static final long WRITABLE = 2L;
        private static final long FOR_USER = 4L;
        private static final long LARGE = 128L;
        private static final long NOT_THERE_CODE = 0L;
        private static final long RESERVED_CODE = 9L;
        private static final long FORBIDDEN_CODE = 1L;

        private final State state;
        /** A table's entry is then one element, and memory takes few of them. */
        private final long[] words = new long[SIZE / 8];

        Pages(State state) {
            this.state = state;
        }

        int byteAt(long place) {
            if (place < 0 || place >= SIZE) {
                return 0;
            }
            int shift = 8 * (int) (place & 7);
            return (int) (words[(int) (place >>> 3)] >>> shift) & 255;
        }

        void putByte(long place, long value) {
            if (place < 0 || place >= SIZE) {
                return;
            }
            int index = (int) (place >>> 3);
            int shift = 8 * (int) (place & 7);
            words[index] = words[index] & ~(255L << shift) | (value & 255L) << shift;
        }

        static boolean isWrong(long place) {
            long top = place >> 47;
            return top != 0L && top != -1L;
        }

        /** Where the place's byte lies; -1 if it is wrong, -2 less the code if it is refused. */
        long locate(long place, int how) {
            if (isWrong(place)) {
                return -1L;
            }
            long table = state.table & FRAME_BITS;
            long inEvery = -1L;
            long inAny = 0L;
            long inPage = IN_PAGE;
            for (int shift = 39; shift >= 12; shift -= 9) {
                long at = table + ((place >>> shift & 511L) << 3);
                long entry = at < SIZE ? words[(int) (at >>> 3)] : 0L;
                inEvery &= entry;
                inAny |= entry;
                if ((entry & THERE) == 0L) {
                    return refused(NOT_THERE_CODE, how);
                }
                table = entry & FRAME_BITS;
                if (shift > 12 && (entry & LARGE) != 0L) {
                    if (shift > 21 || (entry & LARGE_RESERVED) != 0L) {
                        return refused(RESERVED_CODE, how);
                    }
                    table = entry & LARGE_FRAME_BITS;
                    inPage = IN_LARGE_PAGE;
                    break;
                }
            }
            if (isForbidden(inEvery, inAny, how)) {
                return refused(FORBIDDEN_CODE, how);
            }
            return table | place & inPage;
        }

        private boolean isForbidden(long inEvery, long inAny, int how) {
            return how == WRITE && (inEvery & WRITABLE) == 0L
                    || state.user && (inEvery & FOR_USER) == 0L
                    || how == FETCH && inAny < 0L;
        }

        private long refused(long code, int how) {
            long more = how == WRITE ? 2L : how == FETCH ? 16L : 0L;
            return -2L - code - more - (state.user ? 4L : 0L);
        }

        /** The reason for what locate answered below 0; a page's is written down. */
        int refusal(long place, long answer, int ifWrong) {
            if (answer == -1L) {
                return ifWrong;
            }
            state.fault = place;
            state.code = (int) (-2L - answer);
            return PAGE;
        }
    }

    /** Up to eight bytes that are looked up all together before they are used. */
    static final class Span {
        private final Pages pages;
        private final long[] at = new long[8];
        private int length;

        Span(Pages pages) {
            this.pages = pages;
        }

        int find(long place, int bytes, int how, boolean ofStack) {
            length = Math.min(bytes, at.length);
            for (int i = 0; i < length; i++) {
                long one = place + i;
                // Within a page the answer is the same for every byte.
                if (i > 0 && (one & Pages.IN_PAGE) != 0L) {
                    at[i] = at[i - 1] + 1L;
                    continue;
                }
                at[i] = pages.locate(one, how);
                if (at[i] < 0L) {
                    return pages.refusal(one, at[i], ofStack ? STACK : WRONG);
                }
            }
            return NONE;
        }

        long value() {
            long sum = 0L;
            for (int i = 0; i < length; i++) {
                sum |= (long) pages.byteAt(at[i]) << 8 * i;
            }
            return sum;
        }

        void put(long value) {
            for (int i = 0; i < length; i++) {
                pages.putByte(at[i], value >>> 8 * i);
            }
        }
    }

    /** Fetches an instruction and takes it apart. */
    static final class Decoder {
        /** Added to the second byte of the opcodes that begin with 0F. */
        static final int TWO = 256;

        private static final int MOST_BYTES = 15;
        private static final int NO_REGISTER = -1;
        private static final int NEXT_PLACE = -2;

        private static final int B = 1;
        private static final int X = 2;
        private static final int R = 4;
        private static final int W = 8;

        private static final int NOT_TOLD = 0;
        private static final int ALONE = 1;
        private static final int MODRM = 2;
        /** Not told with 66. */
        private static final int UNSIZED = 4;
        private static final int NUMBER_1 = 8;
        private static final int NUMBER_2 = 16;
        private static final int NUMBER_4 = 32;
        private static final int NUMBER_V = 64;
        private static final int NUMBER_Z = 128;

        private final State state;
        private final Pages pages;
        private int count;
        private long found;
        private int last;
        private long fetched;
        private boolean shortened;
        /** The one that counts, or 0. */
        int rex;
        private int base;
        private int index;
        private int scale;
        private long displacement;
        /** F2, F3 or 0. */
        int repeat;
        int opcode;
        /** 3 also where there is no MODRM: then nothing lies in memory. */
        int mod;
        int reg;
        int rm;
        long number;
        /** Where NEXT goes: the following instruction, unless a unit says another place. */
        long onward;

        Decoder(State state, Pages pages) {
            this.state = state;
            this.pages = pages;
        }

        int decode() {
            int reason = fetchOpcode();
            if (reason != NONE) {
                return reason;
            }
            int form = opcode < TWO ? formOfOne(opcode) : formOfTwo(opcode - TWO);
            if (form == NOT_TOLD || !isToldInSize(form)) {
                return UNKNOWN;
            }
            mod = 3;
            if ((form & MODRM) != 0) {
                reason = fetchModrm();
            }
            if (reason == NONE && mod != 3) {
                reason = fetchPlace();
            }
            if (reason != NONE) {
                return reason;
            }
            reason = fetchNumber(bytesOfNumber(form));
            number = fetched;
            onward = state.next + count;
            return reason;
        }

        private int fetchOpcode() {
            count = 0;
            shortened = false;
            repeat = 0;
            rex = 0;
            for (int i = 0; i <= MOST_BYTES; i++) {
                int reason = fetch();
                if (reason != NONE) {
                    return reason;
                }
                if (!isPrefix(last)) {
                    break;
                }
                takePrefix(last);
            }
            opcode = last;
            if (opcode != 0x0F) {
                return NONE;
            }
            int reason = fetch();
            opcode = TWO + last;
            return reason;
        }

        private static boolean isPrefix(int value) {
            return (value & 0xF0) == 0x40 || value == 0x66 || value == 0xF2 || value == 0xF3;
        }

        private void takePrefix(int value) {
            // A REX before another prefix doesn't count.
            rex = (value & 0xF0) == 0x40 ? value : 0;
            if (value == 0x66) {
                shortened = true;
            } else if (rex == 0) {
                repeat = value;
            }
        }

        private static int formOfOne(int opcode) {
            switch (opcode & 0xF8) {
                case 0x00: case 0x08: case 0x10: case 0x18: case 0x20: case 0x28: case 0x30: case 0x38:
                    return formOfSum(opcode & 7);
                case 0x50: case 0x58: case 0x90:
                    return ALONE;
                case 0x70: case 0x78:
                    return UNSIZED | NUMBER_1;
                case 0xB0:
                    return NUMBER_1;
                case 0xB8:
                    return NUMBER_V;
                default:
                    return formOfSingle(opcode);
            }
        }

        private static int formOfSum(int kind) {
            switch (kind) {
                case 4:
                    return NUMBER_1;
                case 5:
                    return NUMBER_Z;
                case 6: case 7:
                    return NOT_TOLD;
                default:
                    return MODRM;
            }
        }

        private static int formOfSingle(int opcode) {
            switch (opcode) {
                case 0x98: case 0x99: case 0x9C: case 0x9D:
                case 0xA4: case 0xA5: case 0xA6: case 0xA7:
                case 0xAA: case 0xAB: case 0xAC: case 0xAD: case 0xAE: case 0xAF:
                case 0xF5: case 0xF8: case 0xF9: case 0xFC: case 0xFD:
                    return ALONE;
                case 0x63:
                case 0x84: case 0x85: case 0x86: case 0x87: case 0x88: case 0x89: case 0x8A: case 0x8B:
                case 0x8D: case 0x8F:
                case 0xD0: case 0xD1: case 0xD2: case 0xD3:
                case 0xF6: case 0xF7: case 0xFE: case 0xFF:
                    return MODRM;
                case 0x6A: case 0xA8:
                    return NUMBER_1;
                case 0x68: case 0xA9:
                    return NUMBER_Z;
                case 0x6B: case 0x80: case 0x83: case 0xC0: case 0xC1: case 0xC6:
                    return MODRM | NUMBER_1;
                case 0x69: case 0x81: case 0xC7:
                    return MODRM | NUMBER_Z;
                case 0xC3: case 0xC9:
                    return UNSIZED;
                case 0xC2:
                    return UNSIZED | NUMBER_2;
                case 0xE0: case 0xE1: case 0xE2: case 0xE3: case 0xEB:
                    return UNSIZED | NUMBER_1;
                case 0xE8: case 0xE9:
                    return UNSIZED | NUMBER_4;
                default:
                    return NOT_TOLD;
            }
        }

        private static int formOfTwo(int second) {
            switch (second & 0xF8) {
                case 0x40: case 0x48: case 0x90: case 0x98:
                    return MODRM;
                case 0x80: case 0x88:
                    return UNSIZED | NUMBER_4;
                case 0xC8:
                    return ALONE;
                default:
                    break;
            }
            switch (second) {
                case 0x05: case 0x07:
                    return ALONE;
                case 0xA3: case 0xAB: case 0xAF: case 0xB0: case 0xB1: case 0xB3:
                case 0xB6: case 0xB7: case 0xBB: case 0xBC: case 0xBD: case 0xBE: case 0xBF:
                case 0xC0: case 0xC1:
                    return MODRM;
                case 0xBA:
                    return MODRM | NUMBER_1;
                default:
                    return NOT_TOLD;
            }
        }

        private boolean isToldInSize(int form) {
            if (shortened && (form & UNSIZED) != 0) {
                return false;
            }
            boolean turnsBytes = (opcode & ~7) == TWO + 0xC8;
            return !turnsBytes || sizeV() != 2;
        }

        private int fetchModrm() {
            int reason = fetch();
            if (reason != NONE) {
                return reason;
            }
            mod = last >> 6;
            reg = last >> 3 & 7;
            rm = last & 7;
            return isToldWithModrm() ? NONE : UNKNOWN;
        }

        private boolean isToldWithModrm() {
            switch (opcode) {
                case 0x8D:
                    return mod != 3;
                case 0x8F: case 0xC6: case 0xC7:
                    return reg == 0;
                case 0xC0: case 0xC1: case 0xD0: case 0xD1: case 0xD2: case 0xD3:
                    return reg != 6;
                case 0xF6: case 0xF7:
                    return reg != 1;
                case 0xFE:
                    return reg < 2;
                case 0xFF:
                    return reg < 2 || reg == 6 || (reg == 2 || reg == 4) && !shortened;
                case TWO + 0xBA:
                    return reg >= 4;
                default:
                    return true;
            }
        }

        private int fetchPlace() {
            base = rm | extension(B);
            index = NO_REGISTER;
            scale = 0;
            if (rm == 4) {
                int reason = fetch();
                if (reason != NONE) {
                    return reason;
                }
                base = last & 7 | extension(B);
                index = last >> 3 & 7 | extension(X);
                index = index == 4 ? NO_REGISTER : index;
                scale = last >> 6;
            }
            int bytes = mod == 0 ? 0 : mod == 1 ? 1 : 4;
            if (mod == 0 && (base & 7) == 5) {
                base = rm == 4 ? NO_REGISTER : NEXT_PLACE;
                bytes = 4;
            }
            int reason = fetchNumber(bytes);
            displacement = fetched;
            return reason;
        }

        private int bytesOfNumber(int form) {
            if ((form & NUMBER_1) != 0) {
                return 1;
            }
            if ((form & NUMBER_2) != 0) {
                return 2;
            }
            if ((form & NUMBER_4) != 0) {
                return 4;
            }
            if ((form & NUMBER_V) != 0) {
                return sizeV();
            }
            boolean testsNumber = (opcode == 0xF6 || opcode == 0xF7) && reg == 0;
            if ((form & NUMBER_Z) != 0 || testsNumber && opcode == 0xF7) {
                return Math.min(sizeV(), 4);
            }
            return testsNumber ? 1 : 0;
        }

        /** Fetches a number with its sign. */
        private int fetchNumber(int bytes) {
            fetched = 0L;
            for (int i = 0; i < bytes; i++) {
                int reason = fetch();
                if (reason != NONE) {
                    return reason;
                }
                fetched |= (long) last << 8 * i;
            }
            if (bytes > 0) {
                fetched = Arithmetic.signed(fetched, bytes);
            }
            return NONE;
        }

        private int fetch() {
            if (count >= MOST_BYTES) {
                return WRONG;
            }
            long place = state.next + count;
            // Within a page the answer is the same for every byte.
            if (count > 0 && (place & Pages.IN_PAGE) != 0L) {
                found++;
            } else {
                found = pages.locate(place, FETCH);
                if (found < 0L) {
                    return pages.refusal(place, found, WRONG);
                }
            }
            last = pages.byteAt(found);
            count++;
            return NONE;
        }

        private int extension(int bit) {
            return (rex & bit) != 0 ? 8 : 0;
        }

        boolean hasB() {
            return (rex & B) != 0;
        }

        int sizeV() {
            return (rex & W) != 0 ? 8 : shortened ? 2 : 4;
        }

        /** Of PUSH and POP. */
        int sizeOnStack() {
            return sizeV() == 2 ? 2 : 8;
        }

        int registerG() {
            return reg | extension(R);
        }

        int registerE() {
            return rm | extension(B);
        }

        int registerO() {
            return opcode & 7 | extension(B);
        }

        boolean hasStackBase() {
            return base == STACK_TOP || base == FRAME;
        }

        /** The place of e, with the stack's register that many bytes farther on. */
        long placeOfE(long popped) {
            long sum = displacement;
            if (base == NEXT_PLACE) {
                sum += onward;
            } else if (base >= 0) {
                sum += state.registers[base & 15] + (base == STACK_TOP ? popped : 0L);
            }
            if (index >= 0) {
                sum += state.registers[index & 15] << scale;
            }
            return sum;
        }
    }

    /** Registers in their sizes, and the operands e and g. */
    static final class Operands {
        private final State state;
        private final Decoder code;
        private final Span span;
        /** Of e. */
        int bytes;

        Operands(State state, Decoder code, Span span) {
            this.state = state;
            this.code = code;
            this.span = span;
        }

        /** Looks e up for what the opcode does with it. */
        int open() {
            bytes = bytesOfE();
            // 8D uses no memory, and 8F looks the stack up first.
            if (code.mod == 3 || code.opcode == 0x8D || code.opcode == 0x8F) {
                return NONE;
            }
            return openAt(code.placeOfE(0L) + bitDistance(), isWritten());
        }

        int openAt(long place, boolean written) {
            return span.find(place, bytes, written ? WRITE : READ, code.hasStackBase() || isOnStack());
        }

        private int bytesOfE() {
            switch (code.opcode) {
                case 0x63:
                    return Math.min(code.sizeV(), 4);
                case 0x8F:
                    return code.sizeOnStack();
                case 0xFF:
                    return code.reg == 6 ? code.sizeOnStack() : code.reg < 2 ? code.sizeV() : 8;
                case Decoder.TWO + 0xB0: case Decoder.TWO + 0xB6: case Decoder.TWO + 0xBE:
                case Decoder.TWO + 0xC0:
                    return 1;
                case Decoder.TWO + 0xB7: case Decoder.TWO + 0xBF:
                    return 2;
                default:
                    break;
            }
            if (code.opcode < Decoder.TWO) {
                return (code.opcode & 1) == 0 ? 1 : code.sizeV();
            }
            return (code.opcode & 0xF0) == 0x90 ? 1 : code.sizeV();
        }

        private boolean isWritten() {
            int opcode = code.opcode;
            if (opcode < 0x40) {
                return (opcode & 7) < 2 && opcode < 0x38;
            }
            if ((opcode & ~15) == Decoder.TWO + 0x90) {
                return true;
            }
            switch (opcode) {
                case 0x80: case 0x81: case 0x83:
                    return code.reg != 7;
                case 0x86: case 0x87: case 0x88: case 0x89:
                case 0xC0: case 0xC1: case 0xC6: case 0xC7:
                case 0xD0: case 0xD1: case 0xD2: case 0xD3: case 0xFE:
                    return true;
                case 0xF6: case 0xF7:
                    return code.reg == 2 || code.reg == 3;
                case 0xFF:
                    return code.reg < 2;
                case Decoder.TWO + 0xAB: case Decoder.TWO + 0xB3: case Decoder.TWO + 0xBB:
                case Decoder.TWO + 0xB0: case Decoder.TWO + 0xB1:
                case Decoder.TWO + 0xC0: case Decoder.TWO + 0xC1:
                    return true;
                case Decoder.TWO + 0xBA:
                    return code.reg != 4;
                default:
                    return false;
            }
        }

        /** Of the instructions that have an e. */
        private boolean isOnStack() {
            return code.opcode == 0x8F || code.opcode == 0xFF && (code.reg == 2 || code.reg == 6);
        }

        /** How many bytes away from e's place the bit with number g lies. */
        private long bitDistance() {
            switch (code.opcode) {
                case Decoder.TWO + 0xA3: case Decoder.TWO + 0xAB:
                case Decoder.TWO + 0xB3: case Decoder.TWO + 0xBB:
                    return Math.floorDiv(Arithmetic.signed(g(bytes), bytes), 8L * bytes) * bytes;
                default:
                    return 0L;
            }
        }

        long value() {
            return code.mod == 3 ? part(code.registerE(), bytes) : span.value();
        }

        void put(long value) {
            if (code.mod == 3) {
                putPart(code.registerE(), value, bytes);
            } else {
                span.put(value);
            }
        }

        long g(int size) {
            return part(code.registerG(), size);
        }

        void putG(long value, int size) {
            putPart(code.registerG(), value, size);
        }

        long part(int register, int size) {
            if (isUpperByte(register, size)) {
                return state.registers[register & 3] >>> 8 & 255L;
            }
            return state.registers[register & 15] & Arithmetic.maskOf(size);
        }

        void putPart(int register, long value, int size) {
            if (isUpperByte(register, size)) {
                long rest = state.registers[register & 3] & ~0xFF00L;
                state.registers[register & 3] = rest | (value & 255L) << 8;
                return;
            }
            long mask = Arithmetic.maskOf(size);
            long rest = size < 4 ? state.registers[register & 15] & ~mask : 0L;
            state.registers[register & 15] = rest | value & mask;
        }

        private boolean isUpperByte(int register, int size) {
            return size == 1 && code.rex == 0 && register >= 4 && register < 8;
        }
    }

    /** Sums, logic, rotations and shifts, and the flags that they leave. */
    static final class Arithmetic {
        static final int CMP = 7;

        private static final int ADD = 0;
        private static final int OR = 1;
        private static final int ADC = 2;
        private static final int SBB = 3;
        private static final int AND = 4;
        private static final int XOR = 6;

        private static final int ROL = 0;
        private static final int ROR = 1;
        private static final int RCL = 2;
        private static final int RCR = 3;
        private static final int SHL = 4;
        private static final int SHR = 5;

        /** Bit n is 1 if n, below 16, has an even number of 1s. */
        private static final int EVEN_ONES = 0x9669;

        private final State state;

        Arithmetic(State state) {
            this.state = state;
        }

        static long maskOf(int bytes) {
            return bytes >= 8 ? -1L : (1L << 8 * bytes) - 1L;
        }

        static long signed(long value, int bytes) {
            int unused = 64 - 8 * bytes;
            return value << unused >> unused;
        }

        /** The told flags get their value, the open ones what UNDEFINED has, the others stay. */
        void settle(int told, int value, int open) {
            int kept = state.flags & ~(told | open);
            state.flags = kept | value & told | (int) state.undefined & open;
        }

        /** ZERO, SIGN and PARITY. */
        private static int flagsOf(long result, int bytes) {
            int unused = 64 - 8 * bytes;
            long whole = result << unused;
            int folded = (int) (result ^ result >>> 4) & 15;
            return (whole == 0L ? ZERO : 0)
                    | (whole < 0L ? SIGN : 0)
                    | (EVEN_ONES >> folded & 1) * PARITY;
        }

        private long settleSum(long result, long carries, long wrongSigns, int bytes) {
            int top = 8 * bytes - 1;
            int value = flagsOf(result, bytes)
                    | (int) (carries >>> top & 1L) * CARRY
                    | (int) (carries >>> 3 & 1L) * HALF
                    | (int) (wrongSigns >>> top & 1L) * OVER;
            settle(SIX_FLAGS, value, 0);
            return result & maskOf(bytes);
        }

        long sum(long first, long second, long carry, int bytes) {
            long result = first + second + carry;
            long carries = first & second | (first | second) & ~result;
            return settleSum(result, carries, (first ^ result) & (second ^ result), bytes);
        }

        long difference(long first, long second, long carry, int bytes) {
            long result = first - second - carry;
            long borrows = ~first & second | ~(first ^ second) & result;
            return settleSum(result, borrows, (first ^ second) & (first ^ result), bytes);
        }

        /** 1 more, or 1 less; CARRY stays. */
        long neighbour(long value, boolean more, int bytes) {
            int carry = state.flags & CARRY;
            long result = more ? sum(value, 1L, 0L, bytes) : difference(value, 1L, 0L, bytes);
            settle(CARRY, carry, 0);
            return result;
        }

        long logic(long result, int bytes) {
            settle(SIX_FLAGS & ~HALF, flagsOf(result, bytes), HALF);
            return result & maskOf(bytes);
        }

        long combine(int kind, long first, long second, int bytes) {
            long carry = state.flags & CARRY;
            switch (kind) {
                case ADD:
                    return sum(first, second, 0L, bytes);
                case OR:
                    return logic(first | second, bytes);
                case ADC:
                    return sum(first, second, carry, bytes);
                case SBB:
                    return difference(first, second, carry, bytes);
                case AND:
                    return logic(first & second, bytes);
                case XOR:
                    return logic(first ^ second, bytes);
                default:
                    return difference(first, second, 0L, bytes);
            }
        }

        long shift(int kind, long value, int byteOfCount, int bytes) {
            int count = byteOfCount & (bytes == 8 ? 63 : 31);
            if (count == 0) {
                return value;
            }
            switch (kind) {
                case ROL:
                    return rotate(true, value, count, bytes);
                case ROR:
                    return rotate(false, value, count, bytes);
                case RCL:
                    return rotateThroughCarry(true, value, count, bytes);
                case RCR:
                    return rotateThroughCarry(false, value, count, bytes);
                case SHL:
                    return shiftLeft(value, count, bytes);
                case SHR:
                    return shiftRight(value, count, bytes);
                default:
                    return shiftSigned(value, count, bytes);
            }
        }

        private long rotate(boolean left, long value, int count, int bytes) {
            int bits = 8 * bytes;
            int up = (left ? count : bits - count % bits) % bits;
            long result = up == 0 ? value : (value << up | value >>> bits - up) & maskOf(bytes);
            settleRotation(left, result, left ? result : result >>> bits - 1, count, bytes);
            return result;
        }

        private long rotateThroughCarry(boolean left, long value, int count, int bytes) {
            int bits = 8 * bytes;
            int turns = count % (bits + 1);
            long mask = maskOf(bytes);
            long carry = state.flags & CARRY;
            long result = value;
            for (int i = 0; i < turns; i++) {
                long out = left ? result >>> bits - 1 : result & 1L;
                result = left ? (result << 1 | carry) & mask : result >>> 1 | carry << bits - 1;
                carry = out;
            }
            settleRotation(left, result, carry, count, bytes);
            return result;
        }

        /** The lowest bit of carry tells it. */
        private void settleRotation(boolean left, long result, long carry, int count, int bytes) {
            int bits = 8 * bytes;
            long over = result >>> bits - 1 ^ (left ? carry : result >>> bits - 2);
            int value = (int) (carry & 1L) * CARRY | (int) (over & 1L) * OVER;
            settle(count == 1 ? CARRY | OVER : CARRY, value, count == 1 ? 0 : OVER);
        }

        private long shiftLeft(long value, int count, int bytes) {
            int bits = 8 * bytes;
            long result = value << count & maskOf(bytes);
            long carry = count > bits ? 0L : value >>> bits - count;
            settleShift(result, carry, result >>> bits - 1 ^ carry, count, bytes);
            return result;
        }

        private long shiftRight(long value, int count, int bytes) {
            long result = value >>> count;
            settleShift(result, value >>> count - 1, value >>> 8 * bytes - 1, count, bytes);
            return result;
        }

        private long shiftSigned(long value, int count, int bytes) {
            long wide = signed(value, bytes);
            long result = wide >> count & maskOf(bytes);
            // However far it goes, what goes out is the sign: never more than the size.
            int told = Math.min(count, 8 * bytes);
            settleShift(result, wide >> count - 1, 0L, told, bytes);
            return result;
        }

        /** The lowest bits of carry and over tell them. */
        private void settleShift(long result, long carry, long over, int count, int bytes) {
            int value = flagsOf(result, bytes) | (int) (carry & 1L) * CARRY | (int) (over & 1L) * OVER;
            int open = HALF | (count == 1 ? 0 : OVER) | (count > 8 * bytes ? CARRY : 0);
            settle(SIX_FLAGS & ~open, value, open);
        }

        boolean holds(int condition) {
            int flags = state.flags;
            boolean less = (flags & SIGN) != 0 != ((flags & OVER) != 0);
            boolean holds;
            switch (condition >> 1 & 7) {
                case 0:
                    holds = (flags & OVER) != 0;
                    break;
                case 1:
                    holds = (flags & CARRY) != 0;
                    break;
                case 2:
                    holds = (flags & ZERO) != 0;
                    break;
                case 3:
                    holds = (flags & (CARRY | ZERO)) != 0;
                    break;
                case 4:
                    holds = (flags & SIGN) != 0;
                    break;
                case 5:
                    holds = (flags & PARITY) != 0;
                    break;
                case 6:
                    holds = less;
                    break;
                default:
                    holds = less || (flags & ZERO) != 0;
                    break;
            }
            return holds != ((condition & 1) != 0);
        }
    }

    /** Products and quotients, which have two halves. */
    static final class Wide {
        private static final long TOP_BIT = 1L << 63;

        private final Arithmetic arithmetic;
        /** The lower half of a product, or the quotient. */
        long low;
        /** The upper half of a product, or the rest. */
        long high;

        Wide(Arithmetic arithmetic) {
            this.arithmetic = arithmetic;
        }

        void multiply(long first, long second, int bytes, boolean withSigns) {
            if (bytes == 8) {
                low = first * second;
                high = upperHalf(first, second);
                if (withSigns) {
                    high -= (first < 0L ? second : 0L) + (second < 0L ? first : 0L);
                }
            } else {
                long product = withSigns
                        ? Arithmetic.signed(first, bytes) * Arithmetic.signed(second, bytes)
                        : first * second;
                low = product & Arithmetic.maskOf(bytes);
                high = product >>> 8 * bytes & Arithmetic.maskOf(bytes);
            }
            boolean negative = withSigns && Arithmetic.signed(low, bytes) < 0L;
            boolean spills = high != (negative ? Arithmetic.maskOf(bytes) : 0L);
            arithmetic.settle(CARRY | OVER, spills ? CARRY | OVER : 0, SIGN | ZERO | HALF | PARITY);
        }

        private static long upperHalf(long first, long second) {
            long firstLow = first & 0xFFFFFFFFL;
            long firstHigh = first >>> 32;
            long secondLow = second & 0xFFFFFFFFL;
            long secondHigh = second >>> 32;
            long middle = firstHigh * secondLow + (firstLow * secondLow >>> 32);
            long other = firstLow * secondHigh + (middle & 0xFFFFFFFFL);
            return firstHigh * secondHigh + (middle >>> 32) + (other >>> 32);
        }

        /** False, and nothing else, if there is no quotient of that size. */
        boolean divide(long upper, long lower, long divisor, int bytes, boolean withSigns) {
            long mask = Arithmetic.maskOf(bytes);
            boolean negative = withSigns && Arithmetic.signed(upper, bytes) < 0L;
            boolean negativeDivisor = withSigns && Arithmetic.signed(divisor, bytes) < 0L;
            long magnitude = (negativeDivisor ? -divisor : divisor) & mask;
            long top = upper;
            long bottom = lower;
            if (negative) {
                bottom = -lower & mask;
                top = (lower == 0L ? -upper : ~upper) & mask;
            }
            if (magnitude == 0L || !isBelow(top, magnitude)) {
                return false;
            }
            divideMagnitudes(top, bottom, magnitude, 8 * bytes);
            boolean opposite = negative != negativeDivisor;
            long greatest = (mask >>> 1) + (opposite ? 1L : 0L);
            if (withSigns && isBelow(greatest, low)) {
                return false;
            }
            low = (opposite ? -low : low) & mask;
            high = (negative ? -high : high) & mask;
            arithmetic.settle(0, 0, SIX_FLAGS);
            return true;
        }

        private void divideMagnitudes(long top, long bottom, long divisor, int bits) {
            long quotient = 0L;
            long rest = top;
            for (int bit = bits - 1; bit >= 0; bit--) {
                boolean carried = rest < 0L;
                rest = rest << 1 | bottom >>> bit & 1L;
                if (carried || !isBelow(rest, divisor)) {
                    rest -= divisor;
                    quotient |= 1L << bit;
                }
            }
            low = quotient;
            high = rest;
        }

        /** Without signs. */
        private static boolean isBelow(long first, long second) {
            return (first ^ TOP_BIT) < (second ^ TOP_BIT);
        }
    }

    /** Jumps, the stack and the calls of the system. */
    static final class Flow {
        private final State state;
        private final Decoder code;
        private final Operands operands;
        private final Arithmetic arithmetic;
        private final Span top;

        Flow(State state, Decoder code, Operands operands, Arithmetic arithmetic, Span top) {
            this.state = state;
            this.code = code;
            this.operands = operands;
            this.arithmetic = arithmetic;
            this.top = top;
        }

        int execute() {
            switch (code.opcode & ~7) {
                case 0x50:
                    return push(operands.part(code.registerO(), 8), code.sizeOnStack());
                case 0x58:
                    return popRegister(code.registerO());
                case 0x70: case 0x78: case Decoder.TWO + 0x80: case Decoder.TWO + 0x88:
                    return arithmetic.holds(code.opcode) ? jump(code.onward + code.number) : NONE;
                default:
                    break;
            }
            switch (code.opcode) {
                case 0x68: case 0x6A:
                    return push(code.number, code.sizeOnStack());
                case 0x8F:
                    return code.mod == 3 ? popRegister(code.registerE()) : popMemory();
                case 0x9C:
                    return push(state.flags | FIXED_FLAG, code.sizeOnStack());
                case 0x9D:
                    return popFlags();
                case 0xC2: case 0xC3:
                    return comeBack();
                case 0xC9:
                    return leave();
                case 0xE0: case 0xE1: case 0xE2:
                    return countDown();
                case 0xE3:
                    return state.registers[COUNT] == 0L ? jump(code.onward + code.number) : NONE;
                case 0xE8:
                    return call(code.onward + code.number);
                case 0xE9: case 0xEB:
                    return jump(code.onward + code.number);
                case 0xFF:
                    return code.reg == 2 ? call(operands.value())
                            : code.reg == 4 ? jump(operands.value())
                            : code.reg == 6 ? push(operands.value(), code.sizeOnStack())
                            : ELSEWHERE;
                case Decoder.TWO + 0x05:
                    return enterSystem();
                case Decoder.TWO + 0x07:
                    return leaveSystem();
                default:
                    return ELSEWHERE;
            }
        }

        private int jump(long place) {
            if (Pages.isWrong(place)) {
                return WRONG;
            }
            code.onward = place;
            return NONE;
        }

        private int call(long place) {
            if (Pages.isWrong(place)) {
                return WRONG;
            }
            int reason = push(code.onward, 8);
            if (reason == NONE) {
                code.onward = place;
            }
            return reason;
        }

        private int countDown() {
            long count = state.registers[COUNT] - 1L;
            boolean zero = (state.flags & ZERO) != 0;
            boolean taken = count != 0L && (code.opcode == 0xE2 || zero == (code.opcode == 0xE1));
            int reason = taken ? jump(code.onward + code.number) : NONE;
            if (reason == NONE) {
                state.registers[COUNT] = count;
            }
            return reason;
        }

        private int push(long value, int bytes) {
            long place = state.registers[STACK_TOP] - bytes;
            int reason = top.find(place, bytes, WRITE, true);
            if (reason == NONE) {
                top.put(value);
                state.registers[STACK_TOP] = place;
            }
            return reason;
        }

        private int findTop(int bytes) {
            return top.find(state.registers[STACK_TOP], bytes, READ, true);
        }

        private int popRegister(int register) {
            int bytes = code.sizeOnStack();
            int reason = findTop(bytes);
            if (reason == NONE) {
                // The stack's register may be the one that gets the number.
                state.registers[STACK_TOP] += bytes;
                operands.putPart(register, top.value(), bytes);
            }
            return reason;
        }

        private int popMemory() {
            int bytes = code.sizeOnStack();
            int reason = findTop(bytes);
            if (reason == NONE) {
                reason = operands.openAt(code.placeOfE(bytes), true);
            }
            if (reason == NONE) {
                operands.put(top.value());
                state.registers[STACK_TOP] += bytes;
            }
            return reason;
        }

        private int popFlags() {
            int bytes = code.sizeOnStack();
            int reason = findTop(bytes);
            if (reason == NONE) {
                state.flags = (int) top.value() & SEVEN_FLAGS;
                state.registers[STACK_TOP] += bytes;
            }
            return reason;
        }

        private int comeBack() {
            int reason = findTop(8);
            if (reason == NONE) {
                reason = jump(top.value());
            }
            if (reason == NONE) {
                // C3 has no number: it is 0 then.
                state.registers[STACK_TOP] += 8L + (code.number & 0xFFFFL);
            }
            return reason;
        }

        private int leave() {
            long frame = state.registers[FRAME];
            int reason = top.find(frame, 8, READ, true);
            if (reason == NONE) {
                state.registers[FRAME] = top.value();
                state.registers[STACK_TOP] = frame + 8L;
            }
            return reason;
        }

        private int enterSystem() {
            state.registers[COUNT] = code.onward;
            state.registers[SAVED_FLAGS] = state.flags | FIXED_FLAG;
            code.onward = state.entry;
            state.flags &= ~(int) state.mask;
            state.user = false;
            return NONE;
        }

        private int leaveSystem() {
            int reason = state.user ? WRONG : jump(state.registers[COUNT]);
            if (reason == NONE) {
                state.flags = (int) state.registers[SAVED_FLAGS] & SEVEN_FLAGS;
                state.user = true;
            }
            return reason;
        }
    }

    /** MOVS, CMPS, STOS, LODS and SCAS, once or again and again. */
    static final class Strings {
        private final State state;
        private final Decoder code;
        private final Operands operands;
        private final Arithmetic arithmetic;
        private final Span source;
        private final Span goal;

        Strings(State state, Decoder code, Operands operands, Arithmetic arithmetic, Span source, Span goal) {
            this.state = state;
            this.code = code;
            this.operands = operands;
            this.arithmetic = arithmetic;
            this.source = source;
            this.goal = goal;
        }

        int execute() {
            int kind = code.opcode & ~1;
            if (kind < 0xA4 || kind > 0xAE || kind == 0xA8) {
                return ELSEWHERE;
            }
            boolean repeated = code.repeat != 0;
            if (repeated && state.registers[COUNT] == 0L) {
                return NONE;
            }
            int bytes = (code.opcode & 1) == 0 ? 1 : code.sizeV();
            int reason = executeOnce(kind, bytes);
            if (reason == NONE && repeated) {
                state.registers[COUNT]--;
                if (goesOn(kind)) {
                    code.onward = state.next;
                }
            }
            return reason;
        }

        private boolean goesOn(int kind) {
            if (state.registers[COUNT] == 0L) {
                return false;
            }
            boolean compares = kind == 0xA6 || kind == 0xAE;
            boolean zero = (state.flags & ZERO) != 0;
            return !compares || zero == (code.repeat == 0xF3);
        }

        private int executeOnce(int kind, int bytes) {
            boolean usesSource = kind == 0xA4 || kind == 0xA6 || kind == 0xAC;
            boolean usesGoal = kind != 0xAC;
            boolean writesGoal = kind == 0xA4 || kind == 0xAA;
            int reason = NONE;
            if (usesSource) {
                reason = source.find(state.registers[SOURCE], bytes, READ, false);
            }
            if (usesGoal && reason == NONE) {
                reason = goal.find(state.registers[GOAL], bytes, writesGoal ? WRITE : READ, false);
            }
            if (reason != NONE) {
                return reason;
            }
            use(kind, usesSource ? source.value() : operands.part(A, bytes), bytes);
            long distance = (state.flags & DOWN) != 0 ? -bytes : bytes;
            state.registers[SOURCE] += usesSource ? distance : 0L;
            state.registers[GOAL] += usesGoal ? distance : 0L;
            return NONE;
        }

        private void use(int kind, long value, int bytes) {
            switch (kind) {
                case 0xA6: case 0xAE:
                    arithmetic.difference(value, goal.value(), 0L, bytes);
                    break;
                case 0xAC:
                    operands.putPart(A, value, bytes);
                    break;
                default:
                    goal.put(value);
                    break;
            }
        }
    }

    /** The opcodes of one byte that are neither jumps nor of the stack nor strings. */
    static final class OneByte {
        private static final int E_AND_G = 0;
        private static final int G_AND_E = 1;
        private static final int A_AND_NUMBER = 2;
        private static final int E_AND_NUMBER = 3;

        private final State state;
        private final Decoder code;
        private final Operands operands;
        private final Arithmetic arithmetic;
        private final Wide wide;

        OneByte(State state, Decoder code, Operands operands, Arithmetic arithmetic, Wide wide) {
            this.state = state;
            this.code = code;
            this.operands = operands;
            this.arithmetic = arithmetic;
            this.wide = wide;
        }

        int execute() {
            switch (code.opcode & ~7) {
                case 0x90:
                    changePlacesWithA();
                    return NONE;
                case 0xB0:
                    operands.putPart(code.registerO(), code.number, 1);
                    return NONE;
                case 0xB8:
                    operands.putPart(code.registerO(), code.number, code.sizeV());
                    return NONE;
                default:
                    break;
            }
            if (code.opcode == 0xF6 || code.opcode == 0xF7) {
                return executeByReg();
            }
            if (code.opcode < 0x40) {
                combine(code.opcode >> 3, code.opcode >> 1 & 3);
            } else if (code.opcode >= 0x80 && code.opcode <= 0x83) {
                combine(code.reg, E_AND_NUMBER);
            } else {
                executeSingle(sizeByOpcode());
            }
            return NONE;
        }

        private int sizeByOpcode() {
            return (code.opcode & 1) == 0 ? 1 : code.sizeV();
        }

        private void combine(int kind, int pair) {
            int bytes = sizeByOpcode();
            long first = pair == G_AND_E ? operands.g(bytes)
                    : pair == A_AND_NUMBER ? operands.part(A, bytes)
                    : operands.value();
            long second = pair == E_AND_G ? operands.g(bytes)
                    : pair == G_AND_E ? operands.value()
                    : code.number;
            long result = arithmetic.combine(kind, first, second, bytes);
            if (kind == Arithmetic.CMP) {
                return;
            }
            if (pair == G_AND_E) {
                operands.putG(result, bytes);
            } else if (pair == A_AND_NUMBER) {
                operands.putPart(A, result, bytes);
            } else {
                operands.put(result);
            }
        }

        private void changePlacesWithA() {
            // 90 alone would clear the upper half, if it were like the others.
            if (code.opcode == 0x90 && !code.hasB()) {
                return;
            }
            int bytes = code.sizeV();
            long first = operands.part(A, bytes);
            operands.putPart(A, operands.part(code.registerO(), bytes), bytes);
            operands.putPart(code.registerO(), first, bytes);
        }

        private void executeSingle(int bytes) {
            switch (code.opcode) {
                case 0x69: case 0x6B:
                    wide.multiply(operands.value(), code.number, bytes, true);
                    operands.putG(wide.low, bytes);
                    break;
                case 0x84: case 0x85:
                    arithmetic.logic(operands.value() & operands.g(bytes), bytes);
                    break;
                case 0xA8: case 0xA9:
                    arithmetic.logic(operands.part(A, bytes) & code.number, bytes);
                    break;
                case 0xC0: case 0xC1: case 0xD0: case 0xD1: case 0xD2: case 0xD3:
                    operands.put(arithmetic.shift(code.reg, operands.value(), countOfShift(), bytes));
                    break;
                case 0xFE: case 0xFF:
                    operands.put(arithmetic.neighbour(operands.value(), code.reg == 0, bytes));
                    break;
                case 0xF5:
                    state.flags ^= CARRY;
                    break;
                case 0xF8:
                    state.flags &= ~CARRY;
                    break;
                case 0xF9:
                    state.flags |= CARRY;
                    break;
                case 0xFC:
                    state.flags &= ~DOWN;
                    break;
                case 0xFD:
                    state.flags |= DOWN;
                    break;
                default:
                    move(bytes);
                    break;
            }
        }

        private int countOfShift() {
            if (code.opcode < 0xD0) {
                return (int) code.number;
            }
            return code.opcode < 0xD2 ? 1 : (int) state.registers[COUNT];
        }

        private void move(int bytes) {
            long old;
            switch (code.opcode) {
                case 0x63:
                    operands.putG(Arithmetic.signed(operands.value(), operands.bytes), bytes);
                    break;
                case 0x86: case 0x87:
                    old = operands.value();
                    operands.put(operands.g(bytes));
                    operands.putG(old, bytes);
                    break;
                case 0x88: case 0x89:
                    operands.put(operands.g(bytes));
                    break;
                case 0x8A: case 0x8B:
                    operands.putG(operands.value(), bytes);
                    break;
                case 0x8D:
                    operands.putG(code.placeOfE(0L), bytes);
                    break;
                case 0x98:
                    old = Arithmetic.signed(state.registers[A], code.sizeV() / 2);
                    operands.putPart(A, old, code.sizeV());
                    break;
                case 0x99:
                    old = Arithmetic.signed(state.registers[A], bytes);
                    operands.putPart(D, old < 0L ? -1L : 0L, bytes);
                    break;
                case 0xC6: case 0xC7:
                    operands.put(code.number);
                    break;
                default:
                    break;
            }
        }

        private int executeByReg() {
            int bytes = operands.bytes;
            long value = operands.value();
            switch (code.reg) {
                case 0:
                    arithmetic.logic(value & code.number, bytes);
                    break;
                case 2:
                    operands.put(~value);
                    break;
                case 3:
                    operands.put(arithmetic.difference(0L, value, 0L, bytes));
                    break;
                case 4: case 5:
                    wide.multiply(operands.part(A, bytes), value, bytes, code.reg == 5);
                    putHalves(bytes);
                    break;
                default:
                    return divideBy(value, bytes);
            }
            return NONE;
        }

        private int divideBy(long value, int bytes) {
            long upper = bytes == 1 ? state.registers[A] >>> 8 & 255L : operands.part(D, bytes);
            if (!wide.divide(upper, operands.part(A, bytes), value, bytes, code.reg == 7)) {
                return DIVIDE;
            }
            putHalves(bytes);
            return NONE;
        }

        private void putHalves(int bytes) {
            if (bytes == 1) {
                operands.putPart(A, wide.high << 8 | wide.low, 2);
                return;
            }
            operands.putPart(A, wide.low, bytes);
            operands.putPart(D, wide.high, bytes);
        }
    }

    /** The opcodes behind 0F that are neither jumps nor calls of the system. */
    static final class TwoByte {
        private final Decoder code;
        private final Operands operands;
        private final Arithmetic arithmetic;
        private final Wide wide;

        TwoByte(Decoder code, Operands operands, Arithmetic arithmetic, Wide wide) {
            this.code = code;
            this.operands = operands;
            this.arithmetic = arithmetic;
            this.wide = wide;
        }

        int execute() {
            int second = code.opcode - Decoder.TWO;
            switch (second & ~7) {
                case 0x40: case 0x48:
                    moveIf(arithmetic.holds(second));
                    break;
                case 0x90: case 0x98:
                    operands.put(arithmetic.holds(second) ? 1L : 0L);
                    break;
                case 0xC8:
                    turnBytes();
                    break;
                default:
                    executeSingle(second);
                    break;
            }
            return NONE;
        }

        private void executeSingle(int second) {
            int bytes = code.sizeV();
            switch (second) {
                case 0xA3: case 0xAB: case 0xB3: case 0xBB:
                    useBit(second >> 3 & 3, operands.g(bytes));
                    break;
                case 0xBA:
                    useBit(code.reg & 3, code.number);
                    break;
                case 0xAF:
                    wide.multiply(operands.g(bytes), operands.value(), bytes, true);
                    operands.putG(wide.low, bytes);
                    break;
                case 0xB0: case 0xB1:
                    compareAndChange();
                    break;
                case 0xB6: case 0xB7:
                    operands.putG(operands.value(), bytes);
                    break;
                case 0xBE: case 0xBF:
                    operands.putG(Arithmetic.signed(operands.value(), operands.bytes), bytes);
                    break;
                case 0xBC: case 0xBD:
                    findBit(second == 0xBC, operands.value(), bytes);
                    break;
                case 0xC0: case 0xC1:
                    changeAndAdd();
                    break;
                default:
                    break;
            }
        }

        private void moveIf(boolean holds) {
            int bytes = operands.bytes;
            // Written anyway, since of 4 bytes the upper half becomes 0.
            operands.putG(holds ? operands.value() : operands.g(bytes), bytes);
        }

        private void turnBytes() {
            int bytes = code.sizeV();
            long value = operands.part(code.registerO(), bytes);
            long turned = 0L;
            for (int i = 0; i < bytes; i++) {
                turned = turned << 8 | value >>> 8 * i & 255L;
            }
            operands.putPart(code.registerO(), turned, bytes);
        }

        /** The bit goes to CARRY; then by kind 0 stays, 1 is set, 2 cleared, 3 turned. */
        private void useBit(int kind, long place) {
            long value = operands.value();
            long bit = 1L << (place & 8L * operands.bytes - 1L);
            boolean found = (value & bit) != 0L;
            arithmetic.settle(CARRY, found ? CARRY : 0, OVER | SIGN | HALF | PARITY);
            if (kind == 1) {
                operands.put(value | bit);
            } else if (kind == 2) {
                operands.put(value & ~bit);
            } else if (kind == 3) {
                operands.put(value ^ bit);
            }
        }

        private void findBit(boolean lowest, long value, int bytes) {
            arithmetic.settle(ZERO, value == 0L ? ZERO : 0, SIX_FLAGS & ~ZERO);
            if (value != 0L) {
                operands.putG(lowest ? lowestBit(value) : highestBit(value), bytes);
            }
        }

        private static int lowestBit(long value) {
            return Long.bitCount((value & -value) - 1L);
        }

        private static int highestBit(long value) {
            long filled = value;
            for (int distance = 1; distance < 64; distance *= 2) {
                filled |= filled >>> distance;
            }
            return Long.bitCount(filled) - 1;
        }

        private void compareAndChange() {
            int bytes = operands.bytes;
            long value = operands.value();
            long first = operands.part(A, bytes);
            arithmetic.difference(first, value, 0L, bytes);
            if (first == value) {
                operands.put(operands.g(bytes));
            } else {
                operands.putPart(A, value, bytes);
                operands.put(value);
            }
        }

        private void changeAndAdd() {
            int bytes = operands.bytes;
            long value = operands.value();
            long sum = arithmetic.sum(value, operands.g(bytes), 0L, bytes);
            // In this order the sum stays where both are one register.
            operands.putG(value, bytes);
            operands.put(sum);
        }
    }
}
