/** Promises 1 to 6 and 8: a new object, store, stored, set, get, level, run. */
final class StateTest {
    public static void main(String[] args) {
        newObject();
        storing();
        storedBeyond();
        setting();
        gettingNone();
        levels();
        running();
        manyObjects();
        Bench.finish("StateTest");
    }

    private static void newObject() {
        LongModeCore core = new LongModeCore();
        for (int register = -3; register < 40; register++) {
            Bench.due("new: get " + register, core.get(register), 0);
        }
        for (int place = 0; place < 32768; place += 8) {
            Bench.due("new: stored " + place, core.stored(place), 0);
        }
        Bench.due("new: nothing is there", core.look(0, 0, 0), -2);
        Bench.due("new: step", core.step(), 14);
        Bench.due("new: FAULT", core.get(22), 0);
        Bench.due("new: CODE", core.get(23), 16);
        Bench.due("NONE", LongModeCore.NONE, -1);
    }

    private static void storing() {
        LongModeCore core = new LongModeCore();
        Bench.due("store 0", core.store(0, 0x04030201, 0x88070605) ? 1 : 0, 1);
        Bench.due("stored 0", core.stored(0), 0x8807060504030201L);
        Bench.due("stored 1", core.stored(1), 0x0088070605040302L);
        Bench.due("store 3", core.store(3, -1, 0) ? 1 : 0, 1);
        Bench.due("stored 0 again", core.stored(0), 0x00FFFFFFFF030201L);
        Bench.due("stored 8", core.stored(8), 0);
        Bench.due("store 32760", core.store(32760, 1, Integer.MIN_VALUE) ? 1 : 0, 1);
        Bench.due("stored 32760", core.stored(32760), 0x8000000000000001L);
        int[] outside = {32761, 32767, 32768, 40000, -1, -8, -7, Integer.MAX_VALUE, Integer.MIN_VALUE};
        for (int place : outside) {
            Bench.due("store " + place, core.store(place, -1, -1) ? 1 : 0, 0);
        }
        Bench.due("stored 32760 after", core.stored(32760), 0x8000000000000001L);
        Bench.due("stored 0 after", core.stored(0), 0x00FFFFFFFF030201L);
    }

    private static void storedBeyond() {
        LongModeCore core = new LongModeCore();
        core.store(32760, 0x44332211, 0x88776655);
        core.store(0, 0x04030201, 0x08070605);
        Bench.due("stored 32761", core.stored(32761), 0x0088776655443322L);
        Bench.due("stored 32767", core.stored(32767), 0x88);
        Bench.due("stored 32768", core.stored(32768), 0);
        Bench.due("stored the last int", core.stored(Integer.MAX_VALUE), 0);
        Bench.due("stored the first int", core.stored(Integer.MIN_VALUE), 0);
        Bench.due("stored -8", core.stored(-8), 0);
        Bench.due("stored -4", core.stored(-4), 0x0403020100000000L);
    }

    private static void setting() {
        LongModeCore core = new LongModeCore();
        for (int register = 0; register <= 21; register++) {
            Bench.due("set " + register, core.set(register, 0x80000000 + register, -1 - register) ? 1 : 0, 1);
        }
        for (int register = 0; register <= 21; register++) {
            long want = (0x80000000L + register) << 32 | -1 - register & 0xFFFFFFFFL;
            Bench.due("get " + register, core.get(register), register == 20 ? want & Bench.SEVEN : want);
        }
        Bench.due("flags alone", core.set(20, -1, -1) ? 1 : 0, 1);
        Bench.due("the seven", core.get(20), 3285);
        int[] none = {22, 23, 24, 25, 100, -1, Integer.MAX_VALUE, Integer.MIN_VALUE};
        for (int register : none) {
            Bench.due("set " + register, core.set(register, 1, 1) ? 1 : 0, 0);
        }
        Bench.due("FAULT stays", core.get(22), 0);
        Bench.due("the CODE stays", core.get(23), 0);
        Bench.due("the level stays", core.get(24), 0);
    }

    private static void gettingNone() {
        LongModeCore core = new LongModeCore();
        for (int register = 0; register <= 21; register++) {
            core.set(register, -1, -1);
        }
        int[] none = {25, 26, 100, -1, -16, Integer.MAX_VALUE, Integer.MIN_VALUE};
        for (int register : none) {
            Bench.due("get " + register, core.get(register), 0);
        }
    }

    private static void levels() {
        LongModeCore core = new LongModeCore();
        core.level(true);
        Bench.due("level 3", core.get(24), 3);
        core.level(true);
        Bench.due("level 3 still", core.get(24), 3);
        core.level(false);
        Bench.due("level 0", core.get(24), 0);
    }

    private static void running() {
        Bench bench = new Bench().code("EB FE");
        Bench.due("run 0", bench.core.run(0), 0);
        Bench.due("run 1000", bench.core.run(1000), 1000);
        Bench.due("run 1001", bench.core.run(1001), 0);
        Bench.due("run -1", bench.core.run(-1), 0);
        Bench.due("run the first int", bench.core.run(Integer.MIN_VALUE), 0);
        Bench.due("run the last int", bench.core.run(Integer.MAX_VALUE), 0);
        bench.code("48 FF C0 48 FF C0 48 FF C0 06");
        bench.core.run(1001);
        bench.core.run(-1);
        bench.has("no step", 0, 0);
        Bench.due("run 2 of 3", bench.core.run(2), 2);
        bench.has("2 steps", 0, 2).has("2 steps", Bench.NEXT, Bench.CODE + 6);
        Bench.due("run until it is refused", bench.core.run(10), 1);
        bench.has("3 steps", 0, 3).has("3 steps", Bench.NEXT, Bench.CODE + 9);
        Bench.due("run, refused at once", bench.core.run(10), 0);
        bench.code("A1");
        bench.set(0, 0).set(Bench.NEXT, 0x123456);
        Bench.due("run, a page", bench.core.run(5), 0);
        bench.has("run, a page", Bench.FAULT, 0x123456).has("run, a page", Bench.FAULT_CODE, 16);
    }

    private static void manyObjects() {
        LongModeCore first = new LongModeCore();
        first.set(0, 0, 7);
        first.store(0, 7, 7);
        LongModeCore second = new LongModeCore();
        Bench.due("objects share no register", second.get(0), 0);
        Bench.due("objects share no memory", second.stored(0), 0);
        second.set(0, 0, 8);
        Bench.due("the first one's register", first.get(0), 7);
    }
}
