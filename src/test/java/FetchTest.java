/** Promise 7: how bytes are fetched, what prefixes do, and which instructions there are. */
final class FetchTest {
    public static void main(String[] args) {
        prefixes();
        longest();
        refusedBytes();
        aroundTheEnd();
        unknownOpcodes();
        unknownAsSoonAsTold();
        unknownByReg();
        unknownWithSize();
        repeatMeansNothing();
        Bench.finish("FetchTest");
    }

    private static void prefixes() {
        Bench bench = new Bench();
        long all = 0x1111222233334444L;
        bench.set(0, all).done("B8 01000080").has("4 bytes", 0, 0x80000001L);
        bench.set(0, all).done("66 B8 0180").has("2 bytes", 0, 0x1111222233338001L);
        bench.set(0, all).done("48 B8 0102030405060788").has("8 bytes", 0, 0x8807060504030201L);
        bench.set(0, all).done("66 48 B8 0102030405060788").has("W before 66", 0, 0x8807060504030201L);
        bench.set(0, all).done("48 66 B8 0180").has("REX not last", 0, 0x1111222233338001L);
        bench.set(0, all).done("48 F3 B8 01000000").has("REX before F3", 0, 1);
        bench.set(0, all).done("48 40 B8 01000000").has("the last REX", 0, 1);
        bench.set(8, 0).set(0, all).done("40 49 B8 0102030405060708").has("the last REX, W B", 8, 0x0807060504030201L);
        bench.has("the last REX, W B", 0, all);
        bench.set(0, all).done("66 66 F2 F3 66 B8 0180").has("prefixes again", 0, 0x1111222233338001L);
        bench.set(0, all).set(3, 0).done("B7 7F").has("B7 without REX", 3, 0x7F00);
        bench.set(7, all).set(3, 0).done("40 B7 7F").has("B7 with REX", 7, 0x111122223333447FL).has("with REX", 3, 0);
        bench.set(7, all).set(3, 0).done("40 66 B7 7F").has("with a REX that doesn't count", 3, 0x7F00);
        bench.has("with a REX that doesn't count", 7, all);
    }

    private static void longest() {
        Bench bench = new Bench();
        bench.done("66 66 66 66 66 66 66 66 66 66 66 66 B8 0100");
        bench.refused("66 66 66 66 66 66 66 66 66 66 66 66 66 B8 0100", Bench.WRONG);
        bench.done("66 66 66 66 66 66 66 66 66 66 66 66 66 66 90");
        bench.refused("66 66 66 66 66 66 66 66 66 66 66 66 66 66 66 90", Bench.WRONG);
        bench.refused("40 40 40 40 40 40 40 40 40 40 40 40 40 40 40 40 40 40 40", Bench.WRONG);
        bench.refused("66 66 66 66 66 66 66 66 66 66 66 66 66 66 0F AF", Bench.WRONG);
        // The sixteenth is wrong, even where nothing could be fetched.
        Bench last = new Bench().bytes(0x7FF1, "66 66 66 66 66 66 66 66 66 66 66 66 66 66 66").set(Bench.NEXT, 0x7FF1);
        Bench.due("a sixteenth on a page that isn't there", last.core.step(), Bench.WRONG);
        last.set(Bench.NEXT, 0x7FF2);
        Bench.due("a fifteenth on a page that isn't there", last.core.step(), Bench.PAGE);
        last.has("the fifteenth", Bench.FAULT, 0x8000).has("the fifteenth", Bench.FAULT_CODE, 16);
    }

    private static void refusedBytes() {
        Bench bench = new Bench().bytes(0x7FFF, "B8").set(Bench.NEXT, 0x7FFF).set(0, 5);
        Bench.due("its second byte isn't there", bench.core.step(), Bench.PAGE);
        bench.has("FAULT", Bench.FAULT, 0x8000).has("CODE", Bench.FAULT_CODE, 16);
        bench.has("NEXT", Bench.NEXT, 0x7FFF).has("register 0", 0, 5);
        bench.core.level(true);
        Bench.due("at level 3", bench.core.step(), Bench.PAGE);
        bench.has("CODE at level 3", Bench.FAULT_CODE, 20);
        bench.store(Bench.LAST_TABLE + 48, 0x8000000000006007L).code("90");
        Bench.due("may not be fetched", bench.core.step(), Bench.PAGE);
        bench.has("may not be fetched", Bench.FAULT_CODE, 21).has("may not be fetched", Bench.FAULT, Bench.CODE);
        bench.core.level(false);
        Bench.due("nor at level 0", bench.core.step(), Bench.PAGE);
        bench.has("nor at level 0", Bench.FAULT_CODE, 17);
        bench.set(Bench.NEXT, Bench.FIRST_WRONG);
        Bench.due("NEXT is wrong", bench.core.step(), Bench.WRONG);
        bench.has("FAULT stays", Bench.FAULT, Bench.CODE).has("the CODE stays", Bench.FAULT_CODE, 17);
        // What is there but beyond memory is 0: ADD e b, g b.
        bench.store(Bench.LAST_TABLE + 48, 0x9007).set(Bench.NEXT, 0x6000).set(0, 0x5000).store(0x5000, 1);
        Bench.due("bytes beyond memory", bench.core.step(), Bench.NONE);
        bench.has("bytes beyond memory", Bench.NEXT, 0x6002).holds("bytes beyond memory", 0x5000, 1);
    }

    private static void aroundTheEnd() {
        Bench bench = new Bench();
        // The last page of all lies where page 5 does, and page 0 where page 6 does.
        bench.store(0x1000 + 8 * 511, 0x2007).store(0x2000 + 8 * 511, 0x3007).store(0x3000 + 8 * 511, 0x4007);
        bench.store(0x4000 + 8 * 511, 0x5007).store(0x4000, 0x6007);
        bench.bytes(0x5FFE, "66 B8 34 12").set(Bench.NEXT, -2).set(0, 0);
        Bench.due("around the end", bench.core.step(), Bench.NONE);
        bench.has("around the end", 0, 0x1234).has("around the end", Bench.NEXT, 2);
        bench.bytes(0x5FFF, "90").set(Bench.NEXT, -1);
        Bench.due("the last byte", bench.core.step(), Bench.NONE);
        bench.has("the last byte", Bench.NEXT, 0);
        // The last right page of the lower half: the next byte is at a wrong place.
        bench.store(0x1000 + 8 * 255, 0x2007).bytes(0x5FFF, "90").set(Bench.NEXT, Bench.FIRST_WRONG - 1);
        Bench.due("up to a wrong place", bench.core.step(), Bench.NONE);
        bench.has("up to a wrong place", Bench.NEXT, Bench.FIRST_WRONG);
        Bench.due("at a wrong place", bench.core.step(), Bench.WRONG);
        bench.bytes(0x5FFF, "B8").set(Bench.NEXT, Bench.FIRST_WRONG - 1);
        Bench.due("into a wrong place", bench.core.step(), Bench.WRONG);
        bench.has("into a wrong place", Bench.NEXT, Bench.FIRST_WRONG - 1);
    }

    private static boolean isTold(int opcode) {
        if (opcode < 0x40) {
            return (opcode & 7) < 6;
        }
        int[][] ranges = {{0x50, 0x5F}, {0x63, 0x63}, {0x68, 0x81}, {0x83, 0x8B}, {0x8D, 0x8D}, {0x8F, 0x99},
            {0x9C, 0x9D}, {0xA4, 0xC3}, {0xC6, 0xC7}, {0xC9, 0xC9}, {0xD0, 0xD3}, {0xE0, 0xE3}, {0xE8, 0xE9},
            {0xEB, 0xEB}, {0xF5, 0xF9}, {0xFC, 0xFF}};
        return within(ranges, opcode) && (opcode < 0x6C || opcode > 0x6F);
    }

    private static boolean isToldSecond(int opcode) {
        int[][] ranges = {{0x05, 0x05}, {0x07, 0x07}, {0x40, 0x4F}, {0x80, 0x9F}, {0xA3, 0xA3}, {0xAB, 0xAB},
            {0xAF, 0xB1}, {0xB3, 0xB3}, {0xB6, 0xB7}, {0xBA, 0xBF}, {0xC0, 0xC1}, {0xC8, 0xCF}};
        return within(ranges, opcode);
    }

    private static boolean within(int[][] ranges, int value) {
        for (int[] range : ranges) {
            if (value >= range[0] && value <= range[1]) {
                return true;
            }
        }
        return false;
    }

    private static boolean isPrefix(int value) {
        return value >= 0x40 && value < 0x50 || value == 0x66 || value == 0xF2 || value == 0xF3;
    }

    /** With MODRM C0: register 0 and REG 0, which is told wherever REG matters but in 0F BA and 8D. */
    private static void unknownOpcodes() {
        for (int opcode = 0; opcode < 256; opcode++) {
            if (opcode != 0x0F && !isPrefix(opcode)) {
                boolean told = isTold(opcode) && opcode != 0x8D;
                Bench bench = new Bench().set(6, Bench.DATA).set(7, Bench.DATA).set(5, Bench.TOP);
                int reason = bench.step(Bench.hex(opcode, 1) + "C0 00000000");
                Bench.due("opcode " + Integer.toHexString(opcode), reason == Bench.UNKNOWN ? 0 : 1, told ? 1 : 0);
            }
            Bench bench = new Bench();
            int reason = bench.step("0F" + Bench.hex(opcode, 1) + (opcode == 0xBA ? "E0" : "C0") + "00");
            int told = isToldSecond(opcode) ? 1 : 0;
            Bench.due("opcode 0f " + Integer.toHexString(opcode), reason == Bench.UNKNOWN ? 0 : 1, told);
        }
    }

    /** The bytes end at the end of a page, and the next page isn't there. */
    private static int stepAtTheEnd(String text) {
        String digits = text.replace(" ", "");
        int place = 0x8000 - digits.length() / 2;
        Bench bench = new Bench().bytes(place, digits).set(Bench.NEXT, place);
        String before = bench.state();
        int reason = bench.core.step();
        Bench.due(text + " changes something", bench.state().equals(before) ? 0 : 1, 0);
        if (reason == Bench.PAGE) {
            bench.has(text, Bench.FAULT, 0x8000).has(text, Bench.FAULT_CODE, 16);
        }
        return reason;
    }

    private static void unknownAsSoonAsTold() {
        String[] unknown = {"06", "82", "CC", "F0", "67", "66 EB", "66 E9", "66 E8", "66 70", "66 E2", "66 E3", "66 C2",
            "66 C3", "66 C9", "66 48 E8", "48 66 E9", "0F 0B", "0F 1F", "66 0F 80", "66 0F C8", "8D C0", "8F 08",
            "8F 4C", "C6 08", "C7 8C", "F6 08", "F7 8C", "FE 10", "FF 18", "FF 2C", "FF 7C", "66 FF 10", "66 FF 64",
            "66 48 FF 94", "C0 30", "D3 B4", "0F BA 00", "0F BA 1C"};
        for (String text : unknown) {
            Bench.due(text, stepAtTheEnd(text), Bench.UNKNOWN);
        }
        String[] more = {"0F", "66", "48", "B8", "B8 00 00 00", "48 B8 00 00 00 00 00 00 00", "00", "00 04", "00 05",
            "00 05 00 00 00", "00 40", "00 80 00 00 00", "00 04 25 00 00 00", "00 44 00", "0F 80", "E8 00 00 00", "8D 04",
            "C6 00", "F6 C0", "F7 C0 00 00 00", "66 F7 C0 00", "0F BA E0", "C2 00", "69 C0 00", "6B C0", "81 C0 00", "83 C0",
            "68 00 00 00", "6A", "EB", "70", "A8", "A9", "C0 C0", "FF 54", "FF 94 24", "66 FF 74"};
        for (String text : more) {
            Bench.due(text, stepAtTheEnd(text), Bench.PAGE);
        }
    }

    private static void unknownByReg() {
        String[] opcodes = {"8F", "C6", "C7", "FE", "FF", "F6", "F7", "C0", "C1", "D0", "D1", "D2", "D3", "0FBA", "80", "81",
            "83"};
        int[] told = {0x01, 0x01, 0x01, 0x03, 0x57, 0xFD, 0xFD, 0xBF, 0xBF, 0xBF, 0xBF, 0xBF, 0xBF, 0xF0, 0xFF, 0xFF, 0xFF};
        for (int i = 0; i < opcodes.length; i++) {
            for (int reg = 0; reg < 8; reg++) {
                Bench bench = new Bench().set(3, 7).set(0, 7);
                int reason = bench.step(opcodes[i] + Bench.hex(0xC3 | reg << 3, 1) + "01000000");
                int want = told[i] >> reg & 1;
                Bench.due(opcodes[i] + " REG " + reg, reason == Bench.UNKNOWN ? 0 : 1, want);
            }
        }
        for (int reg = 0; reg < 8; reg++) {
            Bench bench = new Bench().set(3, 7);
            bench.done("0F 94" + Bench.hex(0xC3 | reg << 3, 1)).has("any REG of 0F 94", 3, 0);
        }
    }

    private static void unknownWithSize() {
        String[] texts = {"66 FF D0", "66 FF E0", "66 48 FF D0", "66 E0 00", "66 E1 00", "66 0F 8F 00000000", "66 C2 0000",
            "66 0F C8", "66 41 0F CF", "F3 66 EB 00"};
        for (String text : texts) {
            new Bench().set(5, Bench.TOP).set(0, Bench.CODE).refused(text, Bench.UNKNOWN);
        }
        new Bench().done("66 48 0F C8").done("0F C8").done("66 FF F0").done("66 48 FF F0").done("66 FF C0");
    }

    private static void repeatMeansNothing() {
        Bench bench = new Bench().set(1, 0).set(0, 0x10).set(3, 0x11223344556677L);
        bench.done("F3 90").done("F3 0F BC C8").has("F3 0F BC", 1, 4);
        bench.done("F3 0F BD C8").has("F3 0F BD", 1, 4).done("F2 48 89 D8").has("F2 89", 0, 0x11223344556677L);
        bench.set(1, 0).done("F3 B0 05").has("F3 B0", 0, 0x11223344556605L);
        bench.refused("F3 0F B8 C8", Bench.UNKNOWN);
        bench.done("F2 50").has("F2 50", 4, Bench.TOP - 8);
    }
}
