/** Tests of the sentences about the object and its calls: promises 1 to 9. */
final class FaceSentences {
    private static final long FIRST = 0x8807060504030201L;
    private static final long LAST = 0x9817161514131211L;
    private static final int[] NEITHER_PLACE = {-1, -7, -8, 32761, 32767, 32768, 65536, Integer.MAX_VALUE, Integer.MIN_VALUE};

    private FaceSentences() {
    }

    static void all() {
        Sentences.test("A processor of 64 bits that executes instructions byte by byte out of a paged memory: sixteen registers, six "
                + "flags told exactly, stack and strings, calls of the system; whatever an instruction needs goes through four "
                + "levels of tables, and what isn't allowed is refused with its reason, nothing being changed.",
                FaceSentences::program);
        Sentences.test("An object is used for at most 512 calls after it has been made; what later calls answer is free.",
                FaceSentences::calls);
        Sentences.test("`NONE = -1`: Nothing refused.", FaceSentences::none);
        Sentences.test("`LongModeCore()`: All 0.", FaceSentences::newObject);
        Sentences.test("`boolean store(int place, int first, int second)`: Memory from a place on gets 8 bytes, those of two "
                + "numbers (the first one's lowest byte first, then the second's); false if they don't lie within it.",
                FaceSentences::store);
        Sentences.test("`long stored(int place)`: 8 bytes of memory, the lowest first; 0 for those beyond it.",
                FaceSentences::stored);
        Sentences.test("`boolean set(int register, int high, int low)`: A register becomes a number of 64 bits: its upper 32 "
                + "and its lower ones. 16 NEXT, 17 TABLE, 18 ENTRY, 19 MASK, 20 the flags (these seven), 21 UNDEFINED; "
                + "false if there is none such.", FaceSentences::set);
        Sentences.test("`long get(int register)`: A register, as with set, also 22 FAULT, 23 the CODE, 24 the level; "
                + "0 if there is none such.", FaceSentences::get);
        Sentences.test("`void level(boolean user)`: The level becomes 0, or 3.", FaceSentences::level);
        Sentences.test("`int step()`: STEP: NONE, or why it is refused.", FaceSentences::step);
        Sentences.test("`int run(int n)`: At most n steps (0 .. 1000; less or more: none), until one is refused: how many "
                + "were done.", FaceSentences::run);
        Sentences.test("`long look(int high, int low, int how)`: A place LOOKED UP: where its byte lies in memory (also beyond "
                + "it); -1 if it is wrong, else - 2 less the CODE. how: 0 a read, 1 a write, 2 a FETCH (others a read).",
                FaceSentences::look);
    }

    /** At level 3: a count, a string, the stack, a call of the system and back, and what isn't allowed. */
    private static void program() {
        Bench bench = new Bench().map(7, 0x7003).set(Bench.ENTRY, 0x7000).set(Bench.MASK, Bench.DOWN);
        bench.bytes(0x7000, "48 8B 34 25 00700000 48 0F 07").set(4, 0x5800);
        bench.code("B9 03000000 BF 00500000 B8 414243C4 F3 AB 50 FD 0F 05 5A 66 29 D0 49 87 C3 8B 34 25 00700000");
        bench.core.level(true);
        Bench.due("all steps up to what isn't allowed", bench.core.run(1000), 14);
        bench.has("NEXT", Bench.NEXT, Bench.CODE + 0x1C).has("level 3", Bench.LEVEL, 3);
        bench.holds("the string", 0x5000, 0xC4434241C4434241L).holds("its end", 0x5008, 0xC4434241L).has("GOAL", 7, 0x500C);
        bench.holds("the stack", 0x57F8, 0xC4434241L).has("the stack's", 4, 0x5800).has("what was popped", 2, 0xC4434241L);
        bench.has("the place after the call", 1, Bench.CODE + 0x15).has("the flags of the call", 0, Bench.DOWN | 2);
        bench.has("the difference", 11, 0xC4430000L).has("its flags", Bench.FLAGS, Bench.DOWN | Bench.ZERO | Bench.PARITY);
        bench.has("what the system read", 6, bench.core.stored(0x7000)).has("FAULT", Bench.FAULT, 0x7000)
                .has("the CODE", Bench.FAULT_CODE, 5);
        bench.stays("again", Bench.PAGE);
    }

    /** Seven calls, after which 48 FF C0 and a jump back to it are executed for ever. */
    private static LongModeCore counting() {
        LongModeCore core = new LongModeCore();
        core.store(0x1000, 0x2007, 0);
        core.store(0x2000, 0x3007, 0);
        core.store(0x3000, 0x4007, 0);
        core.store(0x4030, 0x6007, 0);
        core.set(17, 0, 0x1000);
        core.set(16, 0, 0x6000);
        core.store(0x6000, 0xEBC0FF48, 0xFB);
        return core;
    }

    private static void calls() {
        LongModeCore core = counting();
        for (int call = 8; call < 512; call++) {
            Bench.due("call " + call, core.run(1000), 1000);
        }
        Bench.due("call 512: get", core.get(0), 504 * 500);
        core = counting();
        for (int call = 8; call < 512; call++) {
            Bench.due("call " + call, core.step(), Bench.NONE);
        }
        Bench.due("call 512: stored", core.stored(0x6000), 0xFBEBC0FF48L);
        core = counting();
        for (int call = 8; call < 512; call++) {
            Bench.due("call " + call, core.look(0, 0x6000, call % 3), 0x6000);
        }
        Bench.due("call 512: step", core.step(), Bench.NONE);
        core = counting();
        for (int call = 8; call < 511; call++) {
            Bench.due("call " + call, core.store(8 * call, call, -call) ? 1 : 0, 1);
        }
        core.level(true);
        Bench.due("call 512: look", core.look(0, 0x6000, 1), 0x6000);
    }

    private static void none() {
        Bench.due("NONE", LongModeCore.NONE, -1);
        Bench bench = new Bench().set(3, 1);
        Bench.due("nothing refused", bench.step("F7 F3"), LongModeCore.NONE);
        bench.set(3, 0);
        Bench.due("DIVIDE isn't NONE", bench.step("F7 F3") == LongModeCore.NONE ? 1 : 0, 0);
    }

    private static void newObject() {
        LongModeCore core = new LongModeCore();
        for (int register = 0; register <= 24; register++) {
            Bench.due("get " + register, core.get(register), 0);
        }
        // 480 words an object: no more calls are promised.
        for (int from = 0; from < 32768; from += 8 * 480) {
            core = new LongModeCore();
            for (int place = from; place < Math.min(from + 8 * 480, 32768); place += 8) {
                Bench.due("stored " + place, core.stored(place), 0);
            }
        }
        core.store(0, -1, -1);
        core.set(0, -1, -1);
        core.level(true);
        core = new LongModeCore();
        Bench.due("another object's memory", core.stored(0), 0);
        Bench.due("another object's register", core.get(0), 0);
        Bench.due("another object's level", core.get(24), 0);
    }

    private static void store() {
        LongModeCore core = new LongModeCore();
        Bench.due("store at the first place", core.store(0, (int) FIRST, (int) (FIRST >> 32)) ? 1 : 0, 1);
        Bench.due("its bytes", core.stored(0), FIRST);
        Bench.due("store at the last place", core.store(32760, (int) LAST, (int) (LAST >> 32)) ? 1 : 0, 1);
        Bench.due("its bytes", core.stored(32760), LAST);
        for (int place : NEITHER_PLACE) {
            Bench.due("store at " + place, core.store(place, -1, -1) ? 1 : 0, 0);
            Bench.due("memory's first bytes stay", core.stored(0), FIRST);
            Bench.due("memory's last bytes stay", core.stored(32760), LAST);
        }
        Bench.due("across two words", core.store(101, -1, 0x80) ? 1 : 0, 1);
        Bench.due("the first one has no sign", core.stored(101), 0x80FFFFFFFFL);
        Bench.due("before it", core.stored(96), 0xFFFFFF0000000000L);
        Bench.due("from its second byte on", core.stored(102), 0x80FFFFFFL);
        core.store(101, 0x80, -1);
        Bench.due("stored over", core.stored(101), 0xFFFFFFFF00000080L);
    }

    private static void stored() {
        LongModeCore core = new LongModeCore();
        core.store(0, (int) FIRST, (int) (FIRST >> 32));
        core.store(32760, (int) LAST, (int) (LAST >> 32));
        Bench.due("stored 0", core.stored(0), FIRST);
        Bench.due("stored 32760", core.stored(32760), LAST);
        for (int more = 1; more < 8; more++) {
            Bench.due("stored 32760 and " + more, core.stored(32760 + more), LAST >>> 8 * more);
            Bench.due("stored 0 less " + more, core.stored(-more), FIRST << 8 * more);
        }
        for (int place : new int[] {32768, 32769, 65536, 65535, -8, -9, -32768, Integer.MAX_VALUE, Integer.MIN_VALUE}) {
            Bench.due("stored " + place, core.stored(place), 0);
        }
        for (int place = Integer.MAX_VALUE; place > Integer.MAX_VALUE - 9; place--) {
            Bench.due("no place beyond the last int is place 0", core.stored(place), 0);
        }
    }

    private static void set() {
        int[][] numbers = {{0, 0}, {-1, -1}, {0, -1}, {-1, 0}, {Integer.MIN_VALUE, 0}, {0, Integer.MIN_VALUE},
            {Integer.MAX_VALUE, Integer.MAX_VALUE}, {1, 2}};
        for (int[] number : numbers) {
            LongModeCore core = new LongModeCore();
            long whole = (number[0] & 0xFFFFFFFFL) * 0x100000000L + (number[1] & 0xFFFFFFFFL);
            for (int register = 0; register <= 21; register++) {
                Bench.due("set " + register, core.set(register, number[0], number[1]) ? 1 : 0, 1);
                Bench.due("get " + register, core.get(register), register == 20 ? whole & 3285 : whole);
            }
        }
        for (int register = 0; register <= 21; register++) {
            LongModeCore core = new LongModeCore();
            core.set(register, 0, 4);
            for (int other = 0; other <= 24; other++) {
                Bench.due("set " + register + " alone, " + other, core.get(other), other == register ? 4 : 0);
            }
        }
        LongModeCore core = new LongModeCore();
        for (int register : new int[] {-1, -16, 22, 23, 24, 25, 256, Integer.MAX_VALUE, Integer.MIN_VALUE}) {
            Bench.due("set " + register, core.set(register, -1, -1) ? 1 : 0, 0);
        }
        for (int register = 0; register <= 24; register++) {
            Bench.due("nothing was set", core.get(register), 0);
        }
    }

    private static void get() {
        Bench bench = new Bench();
        for (int register = 0; register <= 21; register++) {
            bench.set(register, 0x4440000000000004L + 0x100 * register);
        }
        for (int register = 0; register <= 21; register++) {
            bench.has("as with set", register, register == 20 ? 4 + 0x400 : 0x4440000000000004L + 0x100 * register);
        }
        bench = new Bench().set(3, Bench.UPPER_HALF);
        bench.core.level(true);
        bench.page("89 03", Bench.UPPER_HALF, 6);
        bench.has("FAULT", 22, Bench.UPPER_HALF).has("the CODE", 23, 6).has("the level", 24, 3);
        for (int register : new int[] {-1, -24, 25, 26, 32, 256, Integer.MAX_VALUE, Integer.MIN_VALUE}) {
            bench.has("none such", register, 0);
        }
    }

    private static void level() {
        Bench bench = new Bench().map(5, 0x5003);
        bench.has("at first", Bench.LEVEL, 0);
        for (int round = 0; round < 2; round++) {
            bench.core.level(true);
            bench.has("level 3", Bench.LEVEL, 3);
            Bench.due("level 3 is refused", bench.look(Bench.DATA, 0), -7);
        }
        for (int round = 0; round < 2; round++) {
            bench.core.level(false);
            bench.has("level 0", Bench.LEVEL, 0);
            Bench.due("level 0 isn't", bench.look(Bench.DATA, 0), Bench.DATA);
        }
    }

    private static void step() {
        Bench bench = new Bench().set(3, Bench.FIRST_WRONG).set(5, Bench.FIRST_WRONG).set(1, 0x9000);
        Bench.due("NONE", bench.step("90"), -1);
        bench.has("one step alone", Bench.NEXT, Bench.CODE + 1);
        Bench.due("DIVIDE", bench.step("F7 F6"), 0);
        Bench.due("UNKNOWN", bench.step("06"), 6);
        Bench.due("STACK", bench.step("8B 45 00"), 12);
        Bench.due("WRONG", bench.step("8B 03"), 13);
        Bench.due("PAGE", bench.step("8B 01"), 14);
        Bench.due("on a new object", new LongModeCore().step(), 14);
    }

    private static void run() {
        Bench bench = new Bench().code("E2 FE 06");
        for (int n : new int[] {-1, -1000, 1001, 1002, Integer.MAX_VALUE, Integer.MIN_VALUE, 0}) {
            bench.set(1, 5000);
            Bench.due("run " + n, bench.core.run(n), 0);
            bench.has("run " + n, 1, 5000).has("run " + n, Bench.NEXT, Bench.CODE);
        }
        for (int n : new int[] {1, 2, 999, 1000}) {
            bench.set(1, 5000);
            Bench.due("run " + n, bench.core.run(n), n);
            bench.has("run " + n, 1, 5000 - n);
        }
        bench.set(1, 999);
        Bench.due("the last one is refused", bench.core.run(1000), 999);
        bench.has("until one is refused", Bench.NEXT, Bench.CODE + 2);
        Bench.due("the first one is refused", bench.core.run(1000), 0);
        bench.code("E2 FE 06").set(1, 1000);
        Bench.due("all but the one that would be refused", bench.core.run(1000), 1000);
        Bench.due("which is the next", bench.core.run(1), 0);
        bench.code("90").set(Bench.NEXT, 0x7FFF);
        bench.bytes(0x7FFF, "90");
        Bench.due("until a PAGE", bench.core.run(3), 1);
        bench.has("its FAULT", Bench.FAULT, 0x8000).has("its CODE", Bench.FAULT_CODE, 16);
    }

    private static void look() {
        Bench bench = new Bench().map(5, 0x5001).map(7, 0x000FFFFFFFFFF007L).map(8, 0x8007);
        Bench.due("a byte in memory", bench.look(0x6FFF, 0), 0x6FFF);
        Bench.due("just beyond memory", bench.look(0x8000, 1), 0x8000);
        Bench.due("the farthest", bench.look(0x7FFF, 2), 0x000FFFFFFFFFFFFFL);
        Bench.due("a low number has no sign", bench.look(0x80000000L, 0), -2);
        for (int how : new int[] {0, 1, 2, 3, -1}) {
            Bench.due("the first wrong one", bench.look(Bench.FIRST_WRONG, how), -1);
            Bench.due("the last wrong one", bench.look(Bench.UPPER_HALF - 1, how), -1);
        }
        Bench.due("the last of the lower half", bench.look(Bench.FIRST_WRONG - 1, 0), -2);
        Bench.due("the first of the upper half", bench.look(Bench.UPPER_HALF, 0), -2);
        Bench.due("a read", bench.look(0x9000, 0), -2);
        Bench.due("a write", bench.look(0x9000, 1), -4);
        Bench.due("a FETCH", bench.look(0x9000, 2), -18);
        for (int how : new int[] {-1, -2, 3, 4, 5, 256 + 1, 1 << 31 | 2, Integer.MAX_VALUE, Integer.MIN_VALUE}) {
            Bench.due("another how is a read", bench.look(0x9000, how), -2);
            Bench.due("another how writes nothing", bench.look(0x5123, how), 0x5123);
        }
        Bench.due("a write that may not be", bench.look(0x5123, 1), -5);
        bench.set(3, 0x9123).page("8B 03", 0x9123, 0);
        String before = bench.state();
        bench.core.look(0, 0xA000, 1);
        bench.has("FAULT stays", Bench.FAULT, 0x9123).has("the CODE stays", Bench.FAULT_CODE, 0);
        Bench.due("nothing changes", bench.state().equals(before) ? 1 : 0, 1);
    }
}
