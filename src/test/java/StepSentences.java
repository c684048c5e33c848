/** Tests of the sentences about a step, its refusals and their order. */
final class StepSentences {
    private StepSentences() {
    }

    static void all() {
        Sentences.test("STEP executes an instruction; or it is refused, and nothing changes but FAULT and the CODE at a PAGE: "
                + "DIVIDE 0, UNKNOWN 6, STACK 12, WRONG 13, PAGE 14.", StepSentences::nothingChanges);
        Sentences.test("Bytes of an instruction are FETCHED one after the other, as they are needed;",
                StepSentences::asTheyAreNeeded);
        Sentences.test("a sixteenth, or one at a wrong place, is WRONG;", StepSentences::sixteenth);
        Sentences.test("one that is REFUSED is a PAGE, with FAULT its place.", StepSentences::refusedBytes);
        Sentences.test("An instruction that isn't told here is UNKNOWN as soon as its bytes say so (opcode, then second byte, "
                + "then MODRM).", StepSentences::unknown);
        Sentences.test("An operand at a wrong place is STACK, if the instruction or the operand is of the stack, else WRONG;",
                StepSentences::stackOrWrong);
        Sentences.test("one that is REFUSED is a PAGE, FAULT being the first byte's place that is.",
                StepSentences::refusedOperands);
        Sentences.test("What isn't one of these is done in full.", StepSentences::doneInFull);
        Sentences.test("To jump to a wrong place is WRONG; this is asked before a PUSH.", StepSentences::wrongJumps);
        Sentences.test("Operands are looked up in the order in which they are told, what is read before what is written.",
                StepSentences::order);
    }

    /** Registers and flags that a refusal must leave alone. */
    private static Bench filled() {
        Bench bench = new Bench();
        for (int register = 0; register < 16; register++) {
            bench.set(register, 0x7654321000000000L + register);
        }
        bench.set(4, Bench.TOP).set(Bench.FLAGS, Bench.SEVEN).set(Bench.UNDEFINED, Bench.CARRY).set(Bench.ENTRY, 0x1234);
        return bench.store(Bench.TOP, Bench.FIRST_WRONG).store(Bench.TOP - 8, 0x55).store(Bench.DATA, 0x66);
    }

    private static void nothingChanges() {
        Bench bench = filled().set(5, Bench.FIRST_WRONG).set(3, 0).set(6, Bench.DATA).set(7, 0x9123).set(8, Bench.FIRST_WRONG);
        bench.page("F3 48 A5", 0x9123, 2).page("0F C1 07", 0x9123, 2).page("0F B1 07", 0x9123, 2).page("87 07", 0x9123, 2);
        bench.page("8F 07", 0x9123, 2).page("8F 84 24 1B190000", 0x9123, 2);
        bench.refused("F7 F3", 0).refused("F6 FB", 0).refused("48 F7 F3", 0);
        bench.refused("06", 6).refused("0F 0B", 6).refused("FE D0", 6).refused("66 EB 00", 6).refused("66 0F C8", 6);
        bench.refused("8B 45 00", 12).refused("01 45 00", 12).refused("C9", 12).refused("FF 75 00", 12).refused("8F 45 00", 12);
        bench.refused("41 8B 00", 13).refused("41 01 00", 13).refused("C3", 13).refused("C2 0800", 13).refused("41 FF E0", 13);
        bench.refused("41 FF D0", 13);
        bench.has("FAULT stays at the others", Bench.FAULT, 0x9123).has("and so does the CODE", Bench.FAULT_CODE, 2);
        bench.core.level(true);
        bench.refused("0F 07", 13).page("8B 07", 0x9123, 4).page("88 07", 0x9123, 6).set(Bench.NEXT, 0x9000)
                .pageHere("a FETCH", 0x9000, 20);
        bench.core.level(false);
        bench.set(7, Bench.FIRST_WRONG).refused("F3 A4", 13).refused("F2 AE", 13).refused("A6", 13);
        bench.set(4, Bench.FIRST_WRONG + 8).refused("50", 12).refused("E8 00000000", 12).refused("9C", 12).refused("9D", 12);
        bench.set(4, 0x9008).page("50", 0x9000, 2).page("E8 00000000", 0x9000, 2).page("5C", 0x9008, 0).page("9D", 0x9008, 0);
        bench.set(1, 5).set(Bench.FLAGS, Bench.DOWN).ends().at(0x7FF0, Bench.FIRST_WRONG - 16, "E2 7F").stays("E2", 13);
        bench.set(1, 5).done("48 FF C1").has("one that isn't refused", 1, 6);
    }

    /** Bytes that end where memory and its last page do. */
    private static Bench atTheEnd(String text) {
        int place = 0x8000 - text.replace(" ", "").length() / 2;
        return new Bench().at(place, place, text);
    }

    private static void asTheyAreNeeded() {
        String[] whole = {"90", "40 90", "04 05", "B0 05", "B8 01020304", "48 B8 0102030405060708", "66 B8 0102", "89 D8",
            "F7 D3", "F6 C3 01", "F7 C3 01000000", "66 F7 C3 0100", "C1 E3 01", "D1 E3", "0F BA E3 01", "0F C8", "6B DB 02",
            "69 DB 02000000", "66 69 DB 0200", "8D 43 01", "8D 83 01000000", "8D 04 0B", "8D 05 00000000", "8D 04 25 00000000",
            "50", "6A 00", "68 00000000", "66 68 0000", "F6 D3", "F6 E3", "F7 E3", "FE C3", "FF C3", "D0 E3", "D2 E3", "EB 00", "71 00",
            "E9 00000000", "0F 81 00000000", "E8 00000000", "C3", "C2 0000", "E2 00", "E3 00"};
        for (String text : whole) {
            // C2 and C3 come back to the next place, to which the jumps go.
            atTheEnd(text).store(Bench.TOP, 0x8000).goesOn(text + " needs no more", 0x8000);
        }
        String[] more = {"0F", "66", "F3", "48", "00", "0F AF", "B8", "B8 010203", "48 B8 01020304050607", "04", "8D 04", "8D 43",
            "8D 83 010000", "8D 05 000000", "8D 04 25 000000", "8D 44 0B", "F6 C3", "F7 C3 010000", "66 F7 C3 01", "C1 E3",
            "0F BA E3", "6B DB", "69 DB 020000", "C2 00", "E8 000000", "EB", "70", "0F 80 000000", "6A", "68 000000", "66 68 00"};
        for (String text : more) {
            atTheEnd(text).pageHere(text + " needs one more", 0x8000, 16);
        }
        // Bytes come before operands: the operand isn't asked for until the last one is there.
        Bench bench = atTheEnd("C7 03 000000").set(3, Bench.FIRST_WRONG).pageHere("a number before an operand", 0x8000, 16);
        bench.at(0x7FFA, 0x7FFA, "C7 03 00000000").stays("then the operand", Bench.WRONG);
        // Pages 6 and 7 change places: the bytes of one instruction lie apart.
        bench = new Bench().map(6, 0x7007).map(7, 0x6007).bytes(0x7FFE, "B8 78").bytes(0x6000, "563412").set(Bench.NEXT, 0x6FFE);
        bench.goesOn("across pages", 0x7003).has("across pages", 0, 0x12345678L);
    }

    private static String times(String text, int times) {
        return text.repeat(times);
    }

    private static void sixteenth() {
        Bench bench = new Bench();
        bench.done(times("66", 14) + "90").refused(times("66", 15) + "90", Bench.WRONG);
        bench.done(times("66", 12) + "B80100").refused(times("66", 13) + "B80100", Bench.WRONG);
        bench.done(times("F3", 10) + "B801000000").refused(times("F2", 11) + "B801000000", Bench.WRONG);
        bench.done(times("40", 4) + "4881C001000000").done(times("40", 8) + "4881C001000000");
        bench.refused(times("40", 9) + "4881C001000000", Bench.WRONG);
        bench.done(times("48", 5) + "48B80102030405060708").refused(times("48", 6) + "48B80102030405060708", Bench.WRONG);
        bench.done(times("F3", 7) + "8D842400000000").done(times("F3", 8) + "8D842400000000");
        bench.refused(times("F3", 9) + "8D842400000000", Bench.WRONG);
        bench.refused(times("66", 16), Bench.WRONG).refused(times("40", 40), Bench.WRONG);
        bench.refused(times("66", 14) + "06", Bench.UNKNOWN).refused(times("66", 15) + "06", Bench.WRONG);
        bench.refused(times("66", 13) + "0F0B", Bench.UNKNOWN).refused(times("66", 14) + "0F0B", Bench.WRONG);
        bench.refused(times("66", 13) + "C6C800", Bench.UNKNOWN).refused(times("66", 13) + "C6C000", Bench.WRONG);
        // Where the sixteenth couldn't be FETCHED it is WRONG all the same, where the fifteenth can't a PAGE.
        atTheEnd(times("66", 15)).stays("a sixteenth that isn't there", Bench.WRONG);
        atTheEnd(times("66", 14)).pageHere("a fifteenth that isn't there", 0x8000, 16);
        bench = new Bench().ends().set(Bench.NEXT, Bench.FIRST_WRONG).stays("the first wrong place", Bench.WRONG);
        bench.set(Bench.NEXT, Bench.UPPER_HALF - 1).stays("the last wrong place", Bench.WRONG);
        bench.at(0x7FFF, Bench.FIRST_WRONG - 1, "B8").stays("a second byte at a wrong place", Bench.WRONG);
        bench.at(0x7FFE, Bench.FIRST_WRONG - 2, "0F AF").stays("a third byte at a wrong place", Bench.WRONG);
        bench.at(0x7FFF, Bench.FIRST_WRONG - 1, "06").stays("UNKNOWN needs no more", Bench.UNKNOWN);
        bench.at(0x7FFF, Bench.FIRST_WRONG - 1, "90").goesOn("up to a wrong place", Bench.FIRST_WRONG);
        bench.stays("then it is WRONG", Bench.WRONG);
        bench.at(0x5000, Bench.UPPER_HALF, "90").goesOn("the upper half's first", Bench.UPPER_HALF + 1);
        bench.at(0x7FF1, Bench.FIRST_WRONG - 15, times("66", 14) + "90").goesOn("fifteen up to a wrong place", Bench.FIRST_WRONG);
    }

    private static void refusedBytes() {
        Bench bench = new Bench().set(Bench.NEXT, 0x9123).pageHere("not there", 0x9123, 16);
        bench.set(Bench.NEXT, -5).pageHere("in the upper half", -5, 16);
        bench.at(0x7FFE, 0x7FFE, "B8 00").pageHere("the third byte", 0x8000, 16);
        bench.at(0x7FF2, 0x7FF2, times("66", 14)).pageHere("the fifteenth byte", 0x8000, 16);
        bench.map(6, 0x8000000000006007L).code("90").pageHere("nothing may be FETCHED", Bench.CODE, 17);
        bench.bytes(0x5FFF, "B8").set(Bench.NEXT, 0x5FFF).pageHere("from its second byte on", Bench.CODE, 17);
        bench.core.level(true);
        bench.code("90").pageHere("nothing may be FETCHED at level 3", Bench.CODE, 21).map(6, 0x6003);
        bench.pageHere("level 3 may not use it", Bench.CODE, 21).map(6, 0x6006).pageHere("not there at level 3", Bench.CODE, 20);
        bench.store(0x3000 + 8, 0x2087).set(Bench.NEXT, 0x200000).pageHere("bits 13 .. 20", 0x200000, 29);
        bench.core.level(false);
        bench.pageHere("bits 13 .. 20 at level 0", 0x200000, 25).map(6, 0x6001).done("90");
    }

    private static boolean isTold(int opcode) {
        String told = opcode < 0x40 ? "00 01 02 03 04 05"
                : "50-5F 63 68-6B 70-81 83-8B 8D 8F-99 9C 9D A4-C3 C6 C7 C9 D0-D3 E0-E3 E8 E9 EB F5-F9 FC-FF";
        return isIn(told, opcode < 0x40 ? opcode & 7 : opcode);
    }

    private static boolean isToldSecond(int opcode) {
        return isIn("05 07 40-4F 80-9F A3 AB AF-B1 B3 B6 B7 BA-BF C0 C1 C8-CF", opcode);
    }

    private static boolean isIn(String ranges, int value) {
        for (String range : ranges.split(" ")) {
            int first = Integer.parseInt(range.substring(0, 2), 16);
            int last = Integer.parseInt(range.substring(range.length() - 2), 16);
            if (value >= first && value <= last) {
                return true;
            }
        }
        return false;
    }

    private static void unknown() {
        for (int opcode = 0; opcode < 256; opcode++) {
            String text = Bench.hex(opcode, 1);
            boolean isPrefix = isIn("40-4F 66 F2 F3", opcode);
            if (opcode != 0x0F && !isPrefix && !isTold(opcode)) {
                atTheEnd(text).stays(text, Bench.UNKNOWN);
                atTheEnd("66 48" + text).stays(text + " with prefixes", Bench.UNKNOWN);
            }
            if (!isToldSecond(opcode)) {
                atTheEnd("0F" + text).stays("0F " + text, Bench.UNKNOWN);
                atTheEnd("F3 0F" + text).stays("F3 0F " + text, Bench.UNKNOWN);
            }
            if (opcode != 0x0F && !isPrefix && isTold(opcode)) {
                int reason = new Bench().set(6, Bench.DATA).set(7, Bench.DATA).set(5, Bench.TOP).step(text + "00 00000000");
                Bench.due(text + " is told", reason == Bench.UNKNOWN ? 1 : 0, 0);
            }
        }
        String[] opcodes = {"8F", "C6", "C7", "FE", "FF", "F6", "F7", "C0", "C1", "D0", "D1", "D2", "D3", "0F BA"};
        int[] told = {0x01, 0x01, 0x01, 0x03, 0x57, 0xFD, 0xFD, 0xBF, 0xBF, 0xBF, 0xBF, 0xBF, 0xBF, 0xF0};
        for (int i = 0; i < opcodes.length; i++) {
            for (int modrm = 0; modrm < 256; modrm++) {
                if ((told[i] >> (modrm >> 3 & 7) & 1) == 0) {
                    String text = opcodes[i] + Bench.hex(modrm, 1);
                    Bench.due(text, atTheEnd(text).core.step(), Bench.UNKNOWN);
                }
            }
        }
        // 0F alone tells nothing yet, nor does a MODRM whose REG is told.
        atTheEnd("0F").pageHere("0F", 0x8000, 16).set(Bench.NEXT, 0x7FFF);
        atTheEnd("C6 C0").pageHere("C6 C0", 0x8000, 16);
        // MODRM comes before the operand's place, whatever that is.
        new Bench().set(3, Bench.FIRST_WRONG).refused("FE 13", Bench.UNKNOWN).refused("8F 0B", Bench.UNKNOWN);
        new Bench().set(3, 0x9000).refused("C6 0B 00", Bench.UNKNOWN).refused("0F BA 03 00", Bench.UNKNOWN);
    }

    private static void stackOrWrong() {
        String[] codes = {"8B 40 00", "89 40 00", "01 40 00", "0F B6 40 00", "0F A3 40 00", "F7 60 00", "FF 60 00", "C6 40 00 00"};
        for (String text : codes) {
            for (int register = 0; register < 8; register++) {
                int modrm = text.startsWith("0F") ? 2 : 1;
                String[] bytes = text.split(" ");
                int old = Integer.parseInt(bytes[modrm], 16);
                bytes[modrm] = Bench.hex(old | register, 1) + (register == 4 ? "24" : "");
                Bench bench = new Bench().set(register, Bench.FIRST_WRONG).set(8 + register, Bench.FIRST_WRONG);
                int reason = register == 4 || register == 5 ? Bench.STACK : Bench.WRONG;
                bench.refused(String.join("", bytes), reason);
                bench.refused("41" + String.join("", bytes), Bench.WRONG);
            }
        }
        Bench bench = new Bench().set(4, Bench.FIRST_WRONG + 8).set(5, Bench.FIRST_WRONG).set(0, Bench.CODE);
        String[] ofTheStack = {"50", "66 50", "58", "66 58", "68 00000000", "6A 00", "FF F0", "8F C0", "E8 00000000", "FF D0", "C3",
            "C2 0000", "C9", "9C", "9D"};
        for (String text : ofTheStack) {
            bench.refused(text, Bench.STACK);
        }
        bench = new Bench().set(3, Bench.FIRST_WRONG).set(6, Bench.FIRST_WRONG).set(7, Bench.FIRST_WRONG).set(5, Bench.DATA);
        bench.refused("FF 33", Bench.STACK).refused("FF 13", Bench.STACK).refused("8F 03", Bench.STACK);
        bench.refused("FF 23", Bench.WRONG).refused("A4", Bench.WRONG).refused("AA", Bench.WRONG).refused("AC", Bench.WRONG);
        bench.refused("8B 44 1D 00", Bench.STACK).refused("8B 04 1D 00000000", Bench.WRONG);
        // The first byte may be right and a later one wrong.
        bench = new Bench().ends().set(3, Bench.FIRST_WRONG - 7).set(5, Bench.FIRST_WRONG - 7).set(4, Bench.FIRST_WRONG - 7);
        bench.refused("48 8B 03", Bench.WRONG).refused("48 89 03", Bench.WRONG).refused("48 8B 45 00", Bench.STACK);
        bench.refused("58", Bench.STACK).refused("C3", Bench.STACK).refused("C9", Bench.STACK);
        bench.set(3, Bench.FIRST_WRONG - 8).done("48 8B 03").set(4, Bench.FIRST_WRONG).done("50").done("58")
                .refused("58", Bench.STACK);
        bench.set(4, Bench.UPPER_HALF).refused("50", Bench.STACK).set(4, Bench.UPPER_HALF + 7).refused("50", Bench.STACK);
        bench.set(4, Bench.UPPER_HALF + 8).done("50").has("the upper half's first", 4, Bench.UPPER_HALF);
        // A byte that is REFUSED before one that is wrong is the one that tells.
        bench.map(511, 0).set(3, Bench.FIRST_WRONG - 7).page("48 8B 03", Bench.FIRST_WRONG - 7, 0);
    }

    private static void refusedOperands() {
        Bench bench = new Bench().set(3, 0x9123).set(5, 0x9123);
        bench.page("8A 03", 0x9123, 0).page("48 8B 03", 0x9123, 0).page("48 89 03", 0x9123, 2).page("48 8B 45 00", 0x9123, 0);
        for (int bytes = 2; bytes <= 8; bytes *= 2) {
            for (int within = 1; within < bytes; within++) {
                bench.set(3, 0x8000 - within).page(Bench.prefix(bytes) + "8B 03", 0x8000, 0);
                bench.page(Bench.prefix(bytes) + "89 03", 0x8000, 2);
                bench.set(3, 0x5000 - within).page(Bench.prefix(bytes) + "8B 03", 0x5000 - within, 0);
            }
            bench.set(3, 0x8000 - bytes).done(Bench.prefix(bytes) + "8B 03");
            bench.set(3, 0x5000).done(Bench.prefix(bytes) + "8B 03");
        }
        bench.set(4, 0x9008).page("50", 0x9000, 2).page("66 50", 0x9006, 2).page("58", 0x9008, 0).page("C3", 0x9008, 0);
        bench.set(4, 0x7FFC).page("58", 0x8000, 0).set(4, 0x5004).page("50", 0x4FFC, 2).set(4, 0x8004).page("50", 0x8000, 2);
        bench.set(5, 0x7FFF).page("C9", 0x8000, 0).set(4, 0).page("50", -8, 2);
        bench.set(6, 0x7FFD).set(7, Bench.DATA).page("A5", 0x8000, 0).set(6, Bench.DATA).set(7, 0x7FFD).page("A5", 0x8000, 2);
        bench.map(5, 0x8000000000005001L).set(3, 0x5010).done("48 8B 03").page("48 89 03", 0x5010, 3);
        bench.core.level(true);
        bench.page("48 8B 03", 0x5010, 5).page("48 01 03", 0x5010, 7);
    }

    private static void doneInFull() {
        // No place need be a multiple of the size.
        Bench bench = new Bench().set(0, 0x1122334455667788L);
        for (int more = 0; more < 8; more++) {
            bench.set(3, Bench.DATA + more).done("48 89 03").holds("any place", Bench.DATA + more, 0x1122334455667788L);
            bench.set(4, Bench.TOP + more).done("50").holds("any place", Bench.TOP + more - 8, 0x1122334455667788L).done("59");
        }
        // Code that writes over itself, and over the entry it was found by.
        bench.set(0, 0x06).done("88 05 FAFFFFFF").holds("over itself", Bench.CODE, 0xFFFFFFFA0506L);
        bench.map(5, Bench.LAST_TABLE | 7).set(3, 0x5000 + 8 * 5).set(0, 0);
        bench.done("48 89 03").holds("over its own entry", Bench.LAST_TABLE + 40, 0).page("48 8B 03", 0x5028, 0);
        // What is no jump may go up to a wrong place, and 0F 05 goes wherever ENTRY is.
        bench = new Bench().ends().at(0x7FFF, Bench.FIRST_WRONG - 1, "F9").goesOn("up to a wrong place", Bench.FIRST_WRONG);
        bench.has("up to a wrong place", Bench.FLAGS, Bench.CARRY);
        bench.set(Bench.ENTRY, Bench.FIRST_WRONG).goes("0F 05", Bench.FIRST_WRONG).has("0F 05", 1, Bench.CODE + 2);
        // A wrong place that isn't used is a number like any other.
        bench.set(3, Bench.FIRST_WRONG).done("48 8D 03").has("8D", 0, Bench.FIRST_WRONG).done("53").done("48 FF C3");
        bench.set(1, 0).set(6, Bench.FIRST_WRONG).set(7, Bench.FIRST_WRONG).done("F3 A4");
        bench.set(6, Bench.FIRST_WRONG - 1).set(7, Bench.DATA).done("A4").has("SOURCE then", 6, Bench.FIRST_WRONG);
        bench.set(4, Bench.FIRST_WRONG - 8).done("58").has("the stack's then", 4, Bench.FIRST_WRONG);
        bench.set(0, -1).set(2, 0).set(3, 1).done("48 F7 F3").has("the greatest quotient", 0, -1);
        bench.set(4, Bench.TOP).store(Bench.TOP, Bench.FIRST_WRONG).done("5D")
                .has("a POP of a wrong place", 5, Bench.FIRST_WRONG);
        bench.set(4, Bench.TOP).set(5, Bench.TOP).done("C9").has("C9 to a wrong place", 5, Bench.FIRST_WRONG);
    }

    private static void wrongJumps() {
        String[] texts = {"EB 7F", "E9 00000100", "75 7F", "0F 85 00000100", "E0 7F", "E2 7F", "E8 00000100"};
        for (String text : texts) {
            Bench bench = new Bench().ends().set(1, 2).at(0x7FE0, Bench.FIRST_WRONG - 32, text).stays(text, Bench.WRONG);
            int length = text.replace(" ", "").length() / 2;
            // The farthest right place, and the next one.
            int right = 32 - length - 1;
            String digits = text.replace(" ", "");
            String start = digits.substring(0, digits.length() - (digits.length() > 4 ? 8 : 2));
            int bytes = digits.length() > 4 ? 4 : 1;
            bench.at(0x7FE0, Bench.FIRST_WRONG - 32, start + Bench.hex(right, bytes)).goesOn(text, Bench.FIRST_WRONG - 1);
            bench.set(1, 2).at(0x7FE0, Bench.FIRST_WRONG - 32, start + Bench.hex(right + 1, bytes)).stays(text, Bench.WRONG);
            bench.at(0x5000, Bench.UPPER_HALF, start + Bench.hex(-length, bytes)).goesOn(text, Bench.UPPER_HALF);
            bench.set(1, 2).at(0x5000, Bench.UPPER_HALF, start + Bench.hex(-length - 1, bytes)).stays(text, Bench.WRONG);
        }
        Bench bench = new Bench().ends().set(1, 0).at(0x7FF0, Bench.FIRST_WRONG - 16, "E3 7F").stays("E3", Bench.WRONG);
        bench.set(1, 1).goesOn("E3 that isn't taken", Bench.FIRST_WRONG - 14);
        bench.at(0x7FF0, Bench.FIRST_WRONG - 16, "74 7F").goesOn("74 that isn't taken", Bench.FIRST_WRONG - 14);
        bench.at(0x7FF0, Bench.FIRST_WRONG - 16, "E2 7F").goesOn("E2 that isn't taken", Bench.FIRST_WRONG - 14);
        for (long place : new long[] {Bench.FIRST_WRONG, Bench.UPPER_HALF - 1, Long.MIN_VALUE, Long.MAX_VALUE}) {
            bench.set(0, place).set(3, Bench.DATA).store(Bench.DATA, place).store(Bench.TOP, place).set(4, Bench.TOP);
            bench.refused("FF E0", Bench.WRONG).refused("FF 23", Bench.WRONG).refused("FF D0", Bench.WRONG);
            bench.refused("FF 13", Bench.WRONG).refused("C3", Bench.WRONG).refused("C2 0800", Bench.WRONG);
            // Before a PUSH that would be refused itself.
            for (long stack : new long[] {Bench.FIRST_WRONG, 0x9008, 0x5004}) {
                bench.set(4, stack).refused("FF D0", Bench.WRONG).refused("FF 13", Bench.WRONG);
            }
        }
        for (long place : new long[] {Bench.FIRST_WRONG - 1, Bench.UPPER_HALF, 0, -1}) {
            bench.set(0, place).set(3, Bench.DATA).store(Bench.DATA, place).store(Bench.TOP, place).set(4, Bench.TOP);
            bench.goes("FF E0", place).goes("FF 23", place).goes("C3", place).goes("FF D0", place).goes("FF 13", place);
            bench.set(4, Bench.FIRST_WRONG + 8).refused("FF D0", Bench.STACK).set(4, 0x9008).page("FF D0", 0x9000, 2);
        }
        bench.set(4, Bench.FIRST_WRONG + 8).at(0x7FF0, Bench.FIRST_WRONG - 16, "E8 00010000")
                .stays("E8, before its PUSH", Bench.WRONG);
        bench.at(0x7FF0, Bench.FIRST_WRONG - 16, "E8 00000000").stays("E8, then its PUSH", Bench.STACK);
    }

    private static void order() {
        Bench bench = new Bench().set(6, 0x9100).set(7, 0xA200).set(3, 0xB300).set(4, 0xC408).set(1, 9);
        // SOURCE is read, GOAL is told behind it or written.
        bench.page("A4", 0x9100, 0).page("A6", 0x9100, 0).page("48 A7", 0x9100, 0).page("F3 A5", 0x9100, 0);
        bench.set(6, Bench.FIRST_WRONG).refused("A4", Bench.WRONG).refused("A6", Bench.WRONG);
        bench.set(6, 0x9100).set(7, Bench.FIRST_WRONG).page("A4", 0x9100, 0).page("A6", 0x9100, 0);
        bench.set(6, Bench.DATA).refused("A4", Bench.WRONG).refused("A6", Bench.WRONG).set(7, 0xA200).page("A4", 0xA200, 2);
        bench.page("A6", 0xA200, 0);
        // e is read, then the PUSH is written.
        bench.page("FF 33", 0xB300, 0).page("FF 13", 0xB300, 0).set(3, Bench.DATA).page("FF 33", 0xC400, 2);
        bench.store(Bench.DATA, 0x123).page("FF 13", 0xC400, 2).set(3, Bench.FIRST_WRONG).refused("FF 33", Bench.STACK);
        // What is POPPED is read, then e is written.
        bench.set(3, 0xB300).set(4, 0xC400).page("8F 03", 0xC400, 0).set(4, Bench.TOP).page("8F 03", 0xB300, 2);
        bench.set(4, Bench.FIRST_WRONG).set(3, 0xB300).refused("8F 03", Bench.STACK);
        bench.set(4, 0xC400).set(3, Bench.FIRST_WRONG).page("8F 03", 0xC400, 0);
        // What is told of an operand before what is told of its number: a DIVIDE comes last.
        bench.set(3, 0xB300).page("F7 33", 0xB300, 0).set(3, Bench.FIRST_WRONG).refused("F7 3B", Bench.WRONG);
        bench.set(3, Bench.DATA).store(Bench.DATA, 0).refused("F7 33", Bench.DIVIDE);
    }
}
