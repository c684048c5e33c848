/** Promise 7: jumps, the stack and the calls of the system. */
final class FlowTest {
    public static void main(String[] args) {
        jumps();
        loops();
        wrongJumps();
        pushes();
        pops();
        popsToMemory();
        callsAndReturns();
        leaving();
        flagsOnTheStack();
        refusedStack();
        systemCalls();
        systemReturns();
        Bench.finish("FlowTest");
    }

    private static void goes(Bench bench, String text, long place) {
        Bench.due(text, bench.step(text), Bench.NONE);
        bench.has(text, Bench.NEXT, place);
    }

    private static void jumps() {
        Bench bench = new Bench().set(0, 0x12345).set(9, Bench.UPPER_HALF).store(Bench.DATA, 0x7FFFFFFFFFFFL).set(3, Bench.DATA);
        goes(bench, "EB 7F", Bench.CODE + 2 + 127);
        goes(bench, "EB 80", Bench.CODE + 2 - 128);
        goes(bench, "48 EB 00", Bench.CODE + 3);
        goes(bench, "E9 FFFFFF7F", Bench.CODE + 5 + (long) Integer.MAX_VALUE);
        goes(bench, "E9 00000080", Bench.CODE + 5 + (long) Integer.MIN_VALUE);
        goes(bench, "FF E0", 0x12345);
        goes(bench, "41 FF E1", Bench.UPPER_HALF);
        goes(bench, "FF 23", 0x7FFFFFFFFFFFL);
        goes(bench, "48 FF 23", 0x7FFFFFFFFFFFL);
        goes(bench, "FF 25 FAEFFFFF", 0x7FFFFFFFFFFFL);
        bench.has("jumps leave the stack", 4, Bench.TOP);
    }

    private static void loops() {
        for (int flags : new int[] {0, Bench.ZERO}) {
            for (long count : new long[] {0, 1, 2, 0x100000000L, 0x100000001L}) {
                for (int opcode = 0xE0; opcode < 0xE4; opcode++) {
                    Bench bench = new Bench().set(Bench.FLAGS, flags).set(1, count).set(Bench.UNDEFINED, -1);
                    boolean zero = flags != 0;
                    boolean rest = count != 1;
                    boolean taken = opcode == 0xE0 ? rest && !zero : opcode == 0xE1 ? rest && zero : opcode == 0xE2 ? rest : count == 0;
                    goes(bench, Bench.hex(opcode, 1) + "F0", Bench.CODE + 2 - (taken ? 16 : 0));
                    bench.has("register 1", 1, opcode == 0xE3 ? count : count - 1).has("no flags", Bench.FLAGS, flags);
                }
            }
        }
    }

    private static void wrongJumps() {
        Bench bench = new Bench();
        // The last right page of the lower half holds the code.
        bench.store(0x1000 + 8 * 255, 0x2007).store(0x2000 + 8 * 511, 0x3007).store(0x3000 + 8 * 511, 0x4007);
        bench.store(0x4000 + 8 * 511, 0x6007);
        String[] texts = {"EB 7F", "E9 00000100", "75 7F", "0F 85 00000100", "E8 00000100", "E0 7F", "E2 7F"};
        for (String text : texts) {
            bench.bytes(0x6FF0, text).set(Bench.NEXT, Bench.FIRST_WRONG - 16).set(1, 2);
            String before = bench.state();
            Bench.due(text + " to a wrong place", bench.core.step(), Bench.WRONG);
            Bench.due(text + " changes something", bench.state().equals(before) ? 0 : 1, 0);
        }
        bench.bytes(0x6FF0, "74 7F").set(Bench.NEXT, Bench.FIRST_WRONG - 16);
        Bench.due("not taken", bench.core.step(), Bench.NONE);
        bench.bytes(0x6FF0, "E2 7F").set(Bench.NEXT, Bench.FIRST_WRONG - 16).set(1, 1);
        Bench.due("not taken", bench.core.step(), Bench.NONE);
        bench.has("register 1", 1, 0).bytes(0x6FF0, "E3 7F").set(Bench.NEXT, Bench.FIRST_WRONG - 16);
        Bench.due("E3 to a wrong place", bench.core.step(), Bench.WRONG);
        bench.bytes(0x6FFE, "75 00").set(Bench.NEXT, Bench.FIRST_WRONG - 2).set(Bench.FLAGS, Bench.ZERO);
        Bench.due("not taken up to a wrong place", bench.core.step(), Bench.NONE);
        bench.has("up to a wrong place", Bench.NEXT, Bench.FIRST_WRONG);
        bench.set(Bench.NEXT, Bench.FIRST_WRONG - 2).set(Bench.FLAGS, 0);
        Bench.due("taken to the same place", bench.core.step(), Bench.WRONG);
        bench.set(0, Bench.FIRST_WRONG).refused("FF E0", Bench.WRONG).refused("FF D0", Bench.WRONG);
        // The jump is asked before the PUSH, e before the jump.
        bench.set(4, Bench.FIRST_WRONG).refused("FF D0", Bench.WRONG).set(4, 0x9000).refused("FF D0", Bench.WRONG);
        bench.set(3, 0x9100).page("FF 13", 0x9100, 0).store(Bench.DATA, Bench.FIRST_WRONG).set(4, Bench.DATA);
        bench.refused("C3", Bench.WRONG).refused("C2 0800", Bench.WRONG);
    }

    private static void pushes() {
        Bench bench = new Bench().set(9, 0x8877665544332211L);
        bench.done("41 51").has("51", 4, Bench.TOP - 8).holds("51", Bench.TOP - 8, 0x8877665544332211L);
        bench.done("66 41 51").has("66 51", 4, Bench.TOP - 10).holds("66 51", Bench.TOP - 16, 0x2211000000000000L);
        bench.done("66 49 51").has("66 with W", 4, Bench.TOP - 18).holds("66 with W", Bench.TOP - 18, 0x8877665544332211L);
        bench.set(4, Bench.TOP).done("54").holds("54 pushes what was", Bench.TOP - 8, Bench.TOP).has("54", 4, Bench.TOP - 8);
        bench.set(4, Bench.TOP).done("68 00000080").holds("68", Bench.TOP - 8, 0xFFFFFFFF80000000L).has("68", 4, Bench.TOP - 8);
        bench.set(4, Bench.TOP).store(Bench.TOP - 8, 0).done("66 68 3412").holds("66 68", Bench.TOP - 8, 0x1234000000000000L);
        bench.has("66 68", 4, Bench.TOP - 2).set(4, Bench.TOP).done("66 48 68 04030281").holds("66 48 68", Bench.TOP - 8, 0xFFFFFFFF81020304L);
        bench.set(4, Bench.TOP).done("6A 80").holds("6A", Bench.TOP - 8, -128).has("6A", 4, Bench.TOP - 8);
        bench.set(4, Bench.TOP).store(Bench.TOP - 8, 0).done("66 6A FE").holds("66 6A", Bench.TOP - 8, 0xFFFE000000000000L);
        bench.set(4, Bench.TOP).done("41 FF F1").holds("FF 6", Bench.TOP - 8, 0x8877665544332211L);
        bench.store(Bench.TOP + 8, 0x1234567890L).set(4, Bench.TOP).done("FF 74 24 08").holds("FF 6 by the stack", Bench.TOP - 8, 0x1234567890L);
        bench.store(Bench.TOP - 8, 0).set(4, Bench.TOP).done("66 FF 74 24 08").holds("66 FF 6", Bench.TOP - 8, 0x7890000000000000L);
        bench.has("66 FF 6", 4, Bench.TOP - 2).has("no flags", Bench.FLAGS, 0);
    }

    private static void pops() {
        long old = 0x1111111111111111L;
        Bench bench = new Bench().store(Bench.TOP, 0x8877665544332211L).set(9, old);
        bench.done("41 59").has("59", 9, 0x8877665544332211L).has("59", 4, Bench.TOP + 8);
        bench.set(9, old).set(4, Bench.TOP).done("66 41 59").has("66 59", 9, 0x1111111111112211L).has("66 59", 4, Bench.TOP + 2);
        bench.set(4, Bench.TOP).done("5C").has("5C", 4, 0x8877665544332211L);
        bench.set(4, Bench.TOP).done("66 5C").has("66 5C", 4, 0x2211);
        bench.store(0x6FF0, 0xABCD0000_00000000L).set(4, 0x6FF6).done("66 5C").has("66 5C keeps the rest", 4, 0xABCD);
        bench.set(4, Bench.TOP).done("8F C3").has("8F of a register", 3, 0x8877665544332211L).has("8F", 4, Bench.TOP + 8);
        bench.set(4, Bench.TOP).done("8F C4").has("8F of the stack's", 4, 0x8877665544332211L);
        bench.set(10, old).set(4, Bench.TOP).done("66 41 8F C2").has("66 8F", 10, 0x1111111111112211L).has("66 8F", 4, Bench.TOP + 2);
        bench.has("no flags", Bench.FLAGS, 0);
    }

    private static void popsToMemory() {
        Bench bench = new Bench().store(Bench.TOP, 0x8877665544332211L).set(3, Bench.DATA).set(5, Bench.DATA);
        bench.done("8F 03").holds("8F", Bench.DATA, 0x8877665544332211L).has("8F", 4, Bench.TOP + 8);
        bench.set(4, Bench.TOP).done("66 8F 43 10").holds("66 8F", Bench.DATA + 16, 0x2211).has("66 8F", 4, Bench.TOP + 2);
        bench.set(4, Bench.TOP).done("8F 44 24 10").holds("its place by the stack's register then", Bench.TOP + 24, 0x8877665544332211L);
        bench.set(4, Bench.TOP).done("66 8F 44 24 20").holds("then is 2 more", Bench.TOP + 34, 0x2211);
        bench.set(4, Bench.TOP).done("8F 04 24").holds("just behind", Bench.TOP + 8, 0x8877665544332211L);
        bench.set(4, Bench.TOP).set(12, Bench.DATA).done("41 8F 44 24 30").holds("register 12 is no matter", Bench.DATA + 48, 0x8877665544332211L);
        // The stack is read before e is written.
        bench.set(4, 0x9000).set(3, 0xA000).page("8F 03", 0x9000, 0).set(4, Bench.TOP).page("8F 03", 0xA000, 2);
        bench.set(4, Bench.FIRST_WRONG).refused("8F 03", Bench.STACK);
        bench.set(4, 0x7FF8).page("8F 04 24", 0x8000, 2);
        bench.set(4, Bench.TOP).set(5, Bench.FIRST_WRONG).refused("8F 45 00", Bench.STACK);
    }

    private static void callsAndReturns() {
        Bench bench = new Bench().set(0, 0x123456);
        goes(bench, "E8 00010000", Bench.CODE + 5 + 256);
        bench.has("E8", 4, Bench.TOP - 8).holds("E8", Bench.TOP - 8, Bench.CODE + 5);
        bench.set(4, Bench.TOP);
        goes(bench, "E8 00FFFFFF", Bench.CODE + 5 - 256);
        bench.set(4, Bench.TOP);
        goes(bench, "FF D0", 0x123456);
        bench.has("FF 2", 4, Bench.TOP - 8).holds("FF 2", Bench.TOP - 8, Bench.CODE + 2);
        bench.set(4, Bench.TOP).set(3, Bench.DATA).store(Bench.DATA, 0x654321);
        goes(bench, "FF 13", 0x654321);
        bench.set(4, Bench.TOP).store(Bench.TOP + 8, 0x13579);
        goes(bench, "FF 54 24 08", 0x13579);
        bench.set(4, Bench.TOP);
        goes(bench, "FF D4", Bench.TOP);
        bench.holds("FF D4", Bench.TOP - 8, Bench.CODE + 2);
        bench.set(4, Bench.TOP).store(Bench.TOP, 0x24680);
        goes(bench, "C3", 0x24680);
        bench.has("C3", 4, Bench.TOP + 8).set(4, Bench.TOP);
        goes(bench, "C2 1000", 0x24680);
        bench.has("C2", 4, Bench.TOP + 24).set(4, Bench.TOP);
        goes(bench, "C2 FFFF", 0x24680);
        bench.has("C2 has no sign", 4, Bench.TOP + 8 + 65535).has("no flags", Bench.FLAGS, 0);
        // The place that is pushed may be wrong: the call's is right.
        bench.store(0x1000 + 8 * 255, 0x2007).store(0x2000 + 8 * 511, 0x3007).store(0x3000 + 8 * 511, 0x4007);
        bench.store(0x4000 + 8 * 511, 0x6007).bytes(0x6FFE, "FF D0").set(Bench.NEXT, Bench.FIRST_WRONG - 2).set(4, Bench.TOP);
        Bench.due("a call on the last bytes", bench.core.step(), Bench.NONE);
        bench.holds("a call on the last bytes", Bench.TOP - 8, Bench.FIRST_WRONG);
    }

    private static void leaving() {
        Bench bench = new Bench().set(5, Bench.DATA).store(Bench.DATA, 0x1122334455667788L).set(4, 0x99);
        bench.done("C9").has("C9", 5, 0x1122334455667788L).has("C9", 4, Bench.DATA + 8);
        bench.set(5, Bench.DATA).done("48 C9").set(5, Bench.FIRST_WRONG).refused("C9", Bench.STACK);
        bench.set(5, 0x9008).page("C9", 0x9008, 0).set(5, 0x7FFC).page("C9", 0x8000, 0);
    }

    private static void flagsOnTheStack() {
        Bench bench = new Bench().set(Bench.FLAGS, Bench.SEVEN);
        bench.done("9C").holds("9C", Bench.TOP - 8, Bench.SEVEN | 2).has("9C", 4, Bench.TOP - 8);
        bench.set(4, Bench.TOP).store(Bench.TOP - 8, -1).set(Bench.FLAGS, 0).done("66 9C");
        bench.holds("66 9C", Bench.TOP - 8, 0x0002FFFFFFFFFFFFL).has("66 9C", 4, Bench.TOP - 2);
        bench.set(4, Bench.TOP).store(Bench.TOP, -1).done("9D").has("9D", Bench.FLAGS, Bench.SEVEN).has("9D", 4, Bench.TOP + 8);
        bench.set(4, Bench.TOP).store(Bench.TOP, 0xFFFFFFFFFFFF0000L | Bench.DOWN).done("66 9D");
        bench.has("66 9D", Bench.FLAGS, Bench.DOWN).has("66 9D", 4, Bench.TOP + 2);
        bench.set(4, Bench.TOP).store(Bench.TOP, 0).done("9D").has("9D of 0", Bench.FLAGS, 0);
    }

    private static void refusedStack() {
        Bench bench = new Bench().set(4, Bench.FIRST_WRONG + 0x100).set(0, Bench.CODE);
        String[] texts = {"50", "58", "68 00000000", "6A 00", "FF F0", "8F C0", "E8 00000000", "FF D0", "C3", "C2 0000", "9C", "9D"};
        for (String text : texts) {
            bench.refused(text, Bench.STACK);
        }
        bench.set(4, 0x9008);
        bench.page("50", 0x9000, 2).page("66 50", 0x9006, 2).page("58", 0x9008, 0).page("6A 00", 0x9000, 2).page("9C", 0x9000, 2);
        bench.page("9D", 0x9008, 0).page("E8 00000000", 0x9000, 2).page("FF D0", 0x9000, 2).page("C3", 0x9008, 0);
        bench.set(4, 0).page("50", -8, 2).set(4, 0x5004).page("50", 0x4FFC, 2).set(4, 0x7FFC).page("58", 0x8000, 0);
        bench.set(4, Bench.UPPER_HALF).refused("50", Bench.STACK).set(4, Bench.UPPER_HALF + 4).refused("50", Bench.STACK);
        bench.page("58", Bench.UPPER_HALF + 4, 0).set(4, Bench.FIRST_WRONG).page("50", Bench.FIRST_WRONG - 8, 2);
        // e is read before the PUSH.
        bench.set(4, 0x9008).set(3, 0xA000).page("FF 33", 0xA000, 0).set(3, Bench.DATA).page("FF 33", 0x9000, 2);
        bench.store(Bench.DATA, Bench.CODE).page("FF 13", 0x9000, 2);
    }

    private static void systemCalls() {
        for (int user = 0; user < 2; user++) {
            Bench bench = new Bench().set(Bench.ENTRY, 0x123456789AL).set(Bench.MASK, 0xFFFFFFFF00000441L).set(Bench.FLAGS, Bench.SEVEN);
            bench.core.level(user == 1);
            goes(bench, "0F 05", 0x123456789AL);
            bench.has("0F 05", 1, Bench.CODE + 2).has("0F 05", 11, Bench.SEVEN | 2).has("0F 05", Bench.LEVEL, 0);
            bench.has("0F 05", Bench.FLAGS, Bench.SEVEN & ~0x441).has("0F 05", 4, Bench.TOP);
            bench.has("MASK stays", Bench.MASK, 0xFFFFFFFF00000441L).has("ENTRY stays", Bench.ENTRY, 0x123456789AL);
        }
        Bench bench = new Bench().set(Bench.MASK, -1).set(Bench.FLAGS, Bench.CARRY);
        goes(bench, "48 0F 05", 0);
        bench.has("0F 05", Bench.FLAGS, 0).has("0F 05", 11, 3).has("0F 05", 1, Bench.CODE + 3);
    }

    private static void systemReturns() {
        Bench bench = new Bench().set(1, 0x6543210).set(11, -1L);
        bench.core.level(true);
        bench.refused("0F 07", Bench.WRONG);
        bench.core.level(false);
        goes(bench, "0F 07", 0x6543210);
        bench.has("0F 07", Bench.LEVEL, 3).has("0F 07", Bench.FLAGS, Bench.SEVEN).has("0F 07", 1, 0x6543210).has("0F 07", 11, -1);
        bench.core.level(false);
        bench.set(11, 0);
        goes(bench, "48 0F 07", 0x6543210);
        bench.has("0F 07", Bench.FLAGS, 0);
        bench.core.level(false);
        bench.set(1, Bench.FIRST_WRONG).refused("0F 07", Bench.WRONG);
        bench.set(1, Bench.UPPER_HALF);
        goes(bench, "0F 07", Bench.UPPER_HALF);
    }
}
