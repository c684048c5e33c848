import java.util.Random;

/** Promises 7 and 8 for any bytes: nothing thrown, a refusal changes nothing, a run is its steps. */
final class RandomTest {
    private static final Random RANDOM = new Random(4);

    public static void main(String[] args) {
        for (int round = 0; round < 3000; round++) {
            refusals();
        }
        for (int round = 0; round < 300; round++) {
            runs();
        }
        anyArguments();
        Bench.finish("RandomTest");
    }

    private static long anyNumber() {
        switch (RANDOM.nextInt(6)) {
            case 0:
                return RANDOM.nextLong();
            case 1:
                return RANDOM.nextInt(20) - 10;
            case 2:
                return Bench.FIRST_WRONG - 8 + RANDOM.nextInt(16);
            case 3:
                return 0x5000 + RANDOM.nextInt(4) * 0x1000 - RANDOM.nextInt(9);
            default:
                return 0x5000 + RANDOM.nextInt(0x3000);
        }
    }

    private static Bench anyBench(long seed) {
        RANDOM.setSeed(seed);
        Bench bench = new Bench();
        for (int i = 0; i < 6; i++) {
            bench.store(Bench.CODE + 8 * i, RANDOM.nextLong());
        }
        if (RANDOM.nextBoolean()) {
            bench.bytes(Bench.CODE, "0F");
        }
        for (int register = 0; register < 16; register++) {
            bench.set(register, anyNumber());
        }
        bench.set(Bench.FLAGS, RANDOM.nextInt()).set(Bench.UNDEFINED, RANDOM.nextInt());
        bench.set(Bench.ENTRY, anyNumber()).set(Bench.MASK, RANDOM.nextInt());
        bench.store(Bench.LAST_TABLE + 40, 0x5000 | RANDOM.nextInt(4) * 2 + 1);
        bench.core.level(RANDOM.nextBoolean());
        return bench;
    }

    private static void refusals() {
        Bench bench = anyBench(RANDOM.nextLong());
        String before = bench.state();
        long fault = bench.get(Bench.FAULT);
        int reason = bench.core.step();
        boolean told = reason == -1 || reason == 0 || reason == 6 || reason >= 12 && reason <= 14;
        Bench.due("reason " + reason, told ? 1 : 0, 1);
        if (reason != Bench.NONE) {
            Bench.due("a refusal changes something", bench.state().equals(before) ? 0 : 1, 0);
        }
        if (reason != Bench.PAGE) {
            Bench.due("FAULT", bench.get(Bench.FAULT), fault);
            Bench.due("CODE", bench.get(Bench.FAULT_CODE), 0);
        }
        Bench.due("flags", bench.get(Bench.FLAGS) & ~Bench.SEVEN, 0);
    }

    private static void runs() {
        long seed = RANDOM.nextLong();
        Bench first = anyBench(seed);
        Bench second = anyBench(seed);
        int steps = 1 + RANDOM.nextInt(40);
        int done = 0;
        while (done < steps && first.core.step() == Bench.NONE) {
            done++;
        }
        Bench.due("run " + steps, second.core.run(steps), done);
        Bench.due("run is its steps", first.state().equals(second.state()) ? 1 : 0, 1);
        Bench.due("run's FAULT", second.get(Bench.FAULT), first.get(Bench.FAULT));
        Bench.due("run's CODE", second.get(Bench.FAULT_CODE), first.get(Bench.FAULT_CODE));
    }

    private static void anyArguments() {
        for (int round = 0; round < 20000; round++) {
            LongModeCore core = new LongModeCore();
            int place = RANDOM.nextInt() >> RANDOM.nextInt(32);
            boolean within = place >= 0 && place <= 32760;
            Bench.due("store " + place, core.store(place, 1, 2) ? 1 : 0, within ? 1 : 0);
            Bench.due("stored " + place, core.stored(place), within ? 0x200000001L : 0);
            int register = RANDOM.nextInt() >> RANDOM.nextInt(32);
            Bench.due("set " + register, core.set(register, 0, 1) ? 1 : 0, register >= 0 && register < 22 ? 1 : 0);
            Bench.due("get " + register, core.get(register), register >= 0 && register < 22 ? 1 : 0);
            Bench.due("look", core.look(0, RANDOM.nextInt(), RANDOM.nextInt(3) * 3), -2);
        }
    }
}
