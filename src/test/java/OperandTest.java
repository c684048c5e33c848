/** Promise 7: which place or register an operand is, its size, and its refusals. */
final class OperandTest {
    private static final long[] BASES = {
        0x1010, 0x2020, 0x3030, 0x4040, 0x5050, 0x6060, 0x7070, 0x8080,
        0x10000000090L, 0xFFFFFFFFFFFFFF00L, 0xB0B0, 0xC0C0, 0xD0D0, 0xE0E0, 0xF0F0, 0x12345678};

    public static void main(String[] args) {
        places();
        relativePlaces();
        leaSizes();
        byteRegisters();
        sizesOfRegisters();
        pageCodes();
        stackOrWrong();
        acrossPages();
        aroundTheEnd();
        beyondMemory();
        firstByte();
        readAsForAWrite();
        Bench.finish("OperandTest");
    }

    private static Bench withBases() {
        Bench bench = new Bench();
        for (int register = 0; register < 16; register++) {
            bench.set(register, BASES[register]);
        }
        return bench;
    }

    /** 8D with every MOD, RM and REX, and some SIBs. */
    private static void places() {
        int[] sibs = {0x00, 0x04, 0x0C, 0x24, 0x25, 0x2D, 0x64, 0x65, 0x6A, 0x9C, 0xA5, 0xED, 0xE4, 0xC7, 0xFF, 0x45};
        for (int rex = 0; rex < 4; rex++) {
            for (int mod = 0; mod < 3; mod++) {
                for (int rm = 0; rm < 8; rm++) {
                    for (int sib : sibs) {
                        if (rm == 4) {
                            placeWithSib(rex, mod, sib);
                        }
                    }
                    if (rm != 4 && (mod != 0 || rm != 5)) {
                        placeWithBase(rex, mod, rm);
                    }
                }
            }
        }
    }

    private static String displacement(int mod) {
        return mod == 0 ? "" : mod == 1 ? "85" : "78563492";
    }

    private static long displaced(int mod) {
        return mod == 0 ? 0 : mod == 1 ? (byte) 0x85 : 0x92345678;
    }

    private static void placeWithBase(int rex, int mod, int rm) {
        Bench bench = withBases();
        String text = Bench.hex(0x4C | rex, 1) + "8D" + Bench.hex(mod << 6 | 7 << 3 | rm, 1) + displacement(mod);
        bench.done(text).has(text, 15, BASES[rm | (rex & 1) << 3] + displaced(mod));
    }

    private static void placeWithSib(int rex, int mod, int sib) {
        Bench bench = withBases();
        boolean noBase = mod == 0 && (sib & 7) == 5;
        int index = sib >> 3 & 7 | (rex & 2) << 2;
        String text = Bench.hex(0x4C | rex, 1) + "8D" + Bench.hex(mod << 6 | 7 << 3 | 4, 1) + Bench.hex(sib, 1)
                + displacement(noBase ? 2 : mod);
        long want = displaced(noBase ? 2 : mod)
                + (noBase ? 0 : BASES[sib & 7 | (rex & 1) << 3])
                + (index == 4 ? 0 : BASES[index] << (sib >> 6));
        bench.done(text).has(text, 15, want);
    }

    private static void relativePlaces() {
        Bench bench = new Bench().store(Bench.CODE + 0x100, 0x1122334455667788L);
        bench.done("48 8D 05 F9FFFFFF").has("to itself", 0, Bench.CODE);
        bench.done("49 8D 05 00000080").has("farthest back, with B", 0, Bench.CODE + 7 + (long) Integer.MIN_VALUE);
        bench.done("8B 05 FA000000").has("behind a MODRM", 0, 0x55667788L);
        // The next instruction begins behind the number.
        bench.done("66 81 05 F7000000 0100").holds("behind a number of 2", Bench.CODE + 0x100, 0x1122334455667789L);
        bench.done("81 05 F6000000 01000000").holds("behind a number of 4", Bench.CODE + 0x100, 0x112233445566778AL);
        bench.done("83 05 F9000000 FF").holds("behind a number of 1", Bench.CODE + 0x100, 0x1122334455667789L);
        bench.done("F6 05 F9000000 88").has("F6 0 behind its number", Bench.FLAGS, Bench.SIGN | Bench.PARITY);
    }

    private static void leaSizes() {
        Bench bench = new Bench().set(3, 0x123456789ABCDEF0L).set(1, -1L);
        bench.done("8D 0B").has("4 bytes of a place", 1, 0x9ABCDEF0L);
        bench.set(1, -1L).done("66 8D 0B").has("2 bytes of a place", 1, 0xFFFFFFFFFFFFDEF0L);
        bench.done("48 8D 0B").has("a wrong place is no matter", 1, 0x123456789ABCDEF0L);
        bench.has("no flags", Bench.FLAGS, 0);
    }

    private static void byteRegisters() {
        for (int register = 0; register < 8; register++) {
            Bench bench = new Bench();
            for (int i = 0; i < 16; i++) {
                bench.set(i, 0x0101010101010101L * (i + 1));
            }
            int whole = register & 3;
            long old = 0x0101010101010101L * (whole + 1);
            long want = register < 4 ? old & ~255L | 0xAA : old & ~0xFF00L | 0xAA00;
            bench.done("C6" + Bench.hex(0xC0 | register, 1) + "AA").has("without REX " + register, whole, want);
            long other = 0x0101010101010101L * (register + 9);
            bench.done("41 C6" + Bench.hex(0xC0 | register, 1) + "AA");
            bench.has("with B " + register, register + 8, other & ~255L | 0xAA);
            long same = bench.get(register);
            bench.done("40 C6" + Bench.hex(0xC0 | register, 1) + "BB");
            bench.has("with REX " + register, register, same & ~255L | 0xBB);
        }
        Bench bench = new Bench().set(0, 0x1234).set(2, 0x5678).set(4, 0x7F80);
        bench.done("88 E6").has("88 from 8 .. 15 to 8 .. 15", 2, 0x1278);
        bench.done("8A C6").has("8A from 8 .. 15", 0, 0x1212);
        bench.done("0F B6 CE").has("0F B6 from 8 .. 15", 1, 0x12);
        bench.done("40 0F BE CC").has("0F BE with REX", 1, 0xFFFFFF80L);
        bench.set(0, 0xFF01).done("00 E0").has("e and g in one register", 0, 0xFF00).has("its flags", Bench.FLAGS,
                Bench.ZERO | Bench.PARITY | Bench.CARRY | Bench.HALF);
        bench.set(0, 0x1234).done("86 C4").has("86 within one register", 0, 0x3412);
    }

    private static void sizesOfRegisters() {
        long old = 0xFFEEDDCCBBAA9988L;
        Bench bench = new Bench().set(9, 0x1020304050607080L);
        bench.set(0, old).done("44 88 C8").has("1 byte", 0, old & ~255L | 0x80);
        bench.set(0, old).done("66 44 89 C8").has("2 bytes", 0, old & ~0xFFFFL | 0x7080);
        bench.set(0, old).done("44 89 C8").has("4 bytes", 0, 0x50607080L);
        bench.set(0, old).done("4C 89 C8").has("8 bytes", 0, 0x1020304050607080L);
        bench.set(8, old).done("4D 8B C1").has("g and e from 8 on", 8, 0x1020304050607080L);
        bench.set(0, Bench.DATA).store(Bench.DATA, old);
        bench.done("44 88 08").holds("1 byte", Bench.DATA, old & ~255L | 0x80);
        bench.store(Bench.DATA, old).done("66 44 89 08").holds("2 bytes", Bench.DATA, old & ~0xFFFFL | 0x7080);
        bench.store(Bench.DATA, old).done("44 89 08").holds("4 bytes", Bench.DATA, old & ~0xFFFFFFFFL | 0x50607080L);
        bench.store(Bench.DATA, old).done("4C 89 08").holds("8 bytes", Bench.DATA, 0x1020304050607080L);
    }

    private static void pageCodes() {
        Bench bench = new Bench().set(3, 0x9123);
        bench.page("8B 03", 0x9123, 0).page("89 03", 0x9123, 2).page("01 03", 0x9123, 2).page("03 03", 0x9123, 0);
        bench.page("39 03", 0x9123, 0).page("85 03", 0x9123, 0).page("87 03", 0x9123, 2).page("F7 03 00000000", 0x9123, 0);
        bench.page("F6 13", 0x9123, 2).page("F6 1B", 0x9123, 2).page("F6 2B", 0x9123, 0).page("F6 3B", 0x9123, 0);
        bench.page("F7 13", 0x9123, 2).page("F7 1B", 0x9123, 2).page("F7 23", 0x9123, 0).page("F7 33", 0x9123, 0);
        bench.page("FE 03", 0x9123, 2).page("FF 0B", 0x9123, 2).page("FF 13", 0x9123, 0).page("FF 23", 0x9123, 0);
        bench.page("FF 33", 0x9123, 0).page("8F 03", 0x9123, 2).page("C7 03 00000000", 0x9123, 2).page("63 03", 0x9123, 0);
        bench.page("69 03 00000000", 0x9123, 0).page("83 3B 00", 0x9123, 0).page("80 33 00", 0x9123, 2);
        bench.page("C1 03 00", 0x9123, 2).page("D3 23", 0x9123, 2).page("0F 40 03", 0x9123, 0).page("0F 90 03", 0x9123, 2);
        bench.page("0F A3 03", 0x9123, 0).page("0F AB 03", 0x9123, 2).page("0F BA 23 00", 0x9123, 0);
        bench.page("0F BA 3B 00", 0x9123, 2).page("0F AF 03", 0x9123, 0).page("0F B0 03", 0x9123, 2).page("0F B1 03", 0x9123, 2);
        bench.page("0F B7 03", 0x9123, 0).page("0F BC 03", 0x9123, 0).page("0F C1 03", 0x9123, 2).page("C6 03 00", 0x9123, 2);
        bench.core.level(true);
        bench.page("8B 03", 0x9123, 4).page("89 03", 0x9123, 6);
        bench.store(Bench.LAST_TABLE + 40, 0x5005).set(3, 0x5004).done("8B 03").page("89 03", 0x5004, 7);
        bench.store(Bench.LAST_TABLE + 40, 0x5003).page("8B 03", 0x5004, 5).page("89 03", 0x5004, 7);
        bench.store(0x3000, 0x4087).page("8B 03", Bench.CODE, 29);
    }

    private static void stackOrWrong() {
        for (int register = 0; register < 16; register++) {
            Bench bench = new Bench();
            for (int i = 0; i < 16; i++) {
                bench.set(i, Bench.DATA);
            }
            bench.set(register, Bench.FIRST_WRONG + 0x5000);
            String rex = Bench.hex(0x40 | register >> 3, 1);
            int reason = register == 4 || register == 5 ? Bench.STACK : Bench.WRONG;
            int rm = register & 7;
            if (rm != 4) {
                bench.refused(rex + "8B" + Bench.hex(0x40 | rm, 1) + "00", reason);
                bench.refused(rex + "89" + Bench.hex(0x80 | rm, 1) + "00000000", reason);
            }
            bench.refused(rex + "8B 44" + Bench.hex(0x20 | rm, 1) + "00", reason);
            if (register != 4) {
                // As the index it doesn't matter which register it is.
                String index = Bench.hex(0x40 | register >> 3 << 1, 1);
                bench.refused(index + "8B 44" + Bench.hex(rm << 3 | 3, 1) + "00", Bench.WRONG);
                bench.refused(index + "8B 04" + Bench.hex(rm << 3 | 5, 1) + "00000000", Bench.WRONG);
            }
        }
        Bench bench = new Bench().set(5, Bench.DATA).set(0, Bench.FIRST_WRONG);
        bench.refused("8B 44 05 00", Bench.STACK).refused("8B 04 05 00000000", Bench.WRONG);
        bench.refused("FF 20", Bench.WRONG).refused("FF 64 05 00", Bench.STACK);
        bench.set(Bench.FAULT - 2, 0).has("FAULT stays", Bench.FAULT, 0);
        // An instruction of the stack: all its operands are.
        bench.refused("FF 30", Bench.STACK).refused("FF 10", Bench.STACK).refused("8F 00", Bench.STACK);
    }

    private static void acrossPages() {
        Bench bench = new Bench().set(3, 0x5FFD).bytes(0x5FFD, "010203").store(0x7000, 0x0807060504030201L);
        // Pages 5 and 7 lie behind one another in places 0x5000 and 0x6000.
        bench.store(Bench.LAST_TABLE + 48, 0x7007).bytes(0x7800, "48 8B 03").set(Bench.NEXT, 0x6800);
        Bench.due("across pages", bench.core.step(), Bench.NONE);
        bench.has("across pages", 0, 0x0504030201030201L);
        bench.bytes(0x7800, "48 89 0B").set(Bench.NEXT, 0x6800).set(1, 0xAABBCCDDEEFF1122L);
        Bench.due("a write across pages", bench.core.step(), Bench.NONE);
        bench.holds("its lower part", 0x5FF8, 0xFF11220000000000L).holds("its upper part", 0x7000, 0x080706AABBCCDDEEL);
        Bench last = new Bench().set(3, 0x7FFC);
        last.page("48 8B 03", 0x8000, 0).page("48 89 03", 0x8000, 2).page("48 F7 13", 0x8000, 2).done("8B 03");
        last.set(3, 0x4FFF).page("66 8B 03", 0x4FFF, 0).set(3, 0x4FF9).page("48 8B 03", 0x4FF9, 0);
        last.store(Bench.LAST_TABLE + 40, 0x5005).set(3, 0x5FFE).page("89 03", 0x5FFE, 3).done("8B 03");
        last.store(Bench.LAST_TABLE + 40, 0x5007).store(Bench.LAST_TABLE + 56, 0x7005).set(3, 0x6FFE).page("89 03", 0x7000, 3);
    }

    private static void aroundTheEnd() {
        Bench bench = new Bench();
        bench.store(0x1000 + 8 * 511, 0x2007).store(0x2000 + 8 * 511, 0x3007).store(0x3000 + 8 * 511, 0x4007);
        bench.store(0x4000 + 8 * 511, 0x5007).set(3, -3);
        bench.page("8B 03", 0, 0);
        bench.store(0x4000, 0x7007).bytes(0x5FFD, "112233").bytes(0x7000, "44").done("8B 03").has("around the end", 0, 0x44332211L);
        // The lower half's last page is there: the byte behind it is at a wrong place.
        bench.store(0x1000 + 8 * 255, 0x2007).set(3, Bench.FIRST_WRONG - 4).done("8B 03");
        bench.refused("48 8B 03", Bench.WRONG).set(5, Bench.FIRST_WRONG - 4).refused("48 8B 45 00", Bench.STACK);
        bench.set(3, Bench.FIRST_WRONG - 1).done("8A 03").refused("66 8B 03", Bench.WRONG);
        bench.set(3, Bench.UPPER_HALF - 1).refused("66 8B 03", Bench.WRONG);
    }

    private static void beyondMemory() {
        Bench bench = new Bench().store(Bench.LAST_TABLE + 40, 0x000FFFFFFFFFF007L).set(3, 0x5100).set(0, -1);
        bench.done("48 89 03").done("48 8B 0B").has("lost beyond memory", 1, 0);
        bench.store(Bench.LAST_TABLE + 40, 0x7007).store(Bench.LAST_TABLE + 48, 0x6007).store(Bench.LAST_TABLE + 56, 0x8007);
        bench.store(0x7FF8, 0).set(3, 0x5FFF).set(3, 0x7000).done("48 89 03").done("48 8B 0B").has("just beyond memory", 1, 0);
        bench.holds("memory's last bytes", 0x7FF8, 0).holds("memory's first bytes", 0, 0);
    }

    /** Memory's very first byte is as good as any other. */
    private static void firstByte() {
        Bench bench = new Bench().store(Bench.LAST_TABLE + 40, 7).store(0, 0x8877665544332211L).set(3, Bench.DATA);
        bench.done("48 8B 03").has("memory's first bytes", 0, 0x8877665544332211L);
        bench.done("C6 03 99").holds("memory's first byte", 0, 0x8877665544332299L);
        bench.bytes(0, "48 FF C0").set(0, 6).set(Bench.NEXT, Bench.DATA);
        Bench.due("code in memory's first bytes", bench.core.step(), Bench.NONE);
        bench.has("code in memory's first bytes", 0, 7);
    }

    private static void readAsForAWrite() {
        Bench bench = new Bench().store(Bench.LAST_TABLE + 40, 0x5005).set(3, 0x5010).set(1, 0);
        bench.page("C1 23 00", 0x5010, 3).page("D3 03", 0x5010, 3).page("0F B1 0B", 0x5010, 3).page("0F C1 0B", 0x5010, 3);
        bench.page("87 0B", 0x5010, 3).page("09 0B", 0x5010, 3).page("0F BA 33 00", 0x5010, 3).page("0F 9F 03", 0x5010, 3);
        bench.done("38 0B").done("3B 0B").done("84 0B").done("0F BA 23 00").done("F6 03 00").done("F6 23").done("0F B6 03");
    }
}
