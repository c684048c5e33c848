/** Tests of the sentences about jumps, the stack and the calls of the system. */
final class FlowSentences {
    private static final long OLD = 0xFFEEDDCCBBAA9988L;
    private static final long OTHER = 0x1122334455667711L;

    private FlowSentences() {
    }

    static void all() {
        Sentences.test("JUMPS go to the next instruction's place and a number: 70 .. 7F by 1 byte if a CONDITION holds, 0F 80 .. 8F "
                + "by 4, EB by 1, E9 by 4.", FlowSentences::jumps);
        Sentences.test("E0 .. E2: register 1 becomes 1 less, without flags; by 1 byte if that isn't 0, and ZERO isn't set (E0), is "
                + "(E1); E3 if register 1 is 0.", FlowSentences::loops);
        Sentences.test("FF 4 to e, of 8 bytes.", FlowSentences::jumpsToE);
        Sentences.test("THE STACK: PUSH: the stack's register becomes 8 less (2 with 66 and no W), and the number of these bytes goes "
                + "there; POP takes it, and 8 (2) more.", FlowSentences::pushAndPop);
        Sentences.test("50 .. 57 o, 68 i z (2 bytes of size 2, else 4), 6A s, FF 6 e; 58 .. 5F o, 8F 0 e (its place with the stack's "
                + "register as it is then).", FlowSentences::whatIsPushed);
        Sentences.test("E8: a number of 4 bytes; FF 2: e of 8 bytes: PUSH of the next instruction's place, and a jump.",
                FlowSentences::calls);
        Sentences.test("C3: POP of a place and a jump; C2: then as many bytes more as 2 bytes tell.", FlowSentences::returns);
        Sentences.test("C9: the stack's register becomes the frame's, POP of the frame's.", FlowSentences::leave);
        Sentences.test("Jumps, calls, C2, C3, C9 with 66: UNKNOWN.", FlowSentences::shortened);
        Sentences.test("9C PUSH of the flags and 2; 9D POP of them: these seven.", FlowSentences::flagsOnTheStack);
        Sentences.test("0F 05: register 1 becomes the next place, 11 the flags and 2; NEXT is ENTRY; flags that are in MASK are "
                + "cleared; the level is 0.", FlowSentences::systemCalls);
        Sentences.test("0F 07: at level 3 WRONG; NEXT is register 1 (at a wrong place: WRONG), the flags those of register 11, the "
                + "level 3.", FlowSentences::systemReturns);
    }

    private static void jumps() {
        for (int number : new int[] {0, 1, 127, -128, -1, -2}) {
            String bytes = Bench.hex(number, 1);
            Bench bench = new Bench().set(Bench.FLAGS, Bench.SEVEN & ~Bench.OVER).goes("EB" + bytes, Bench.CODE + 2 + number);
            bench.goes("48 EB" + bytes, Bench.CODE + 3 + number).goes("72" + bytes, Bench.CODE + 2 + number);
            bench.goes("73" + bytes, Bench.CODE + 2).goes("F3 74" + bytes, Bench.CODE + 3 + number)
                    .goes("7D" + bytes, Bench.CODE + 2);
            bench.has("no flags", Bench.FLAGS, Bench.SEVEN & ~Bench.OVER).has("no stack", 4, Bench.TOP);
        }
        for (int number : new int[] {0, 128, 255, -1, -129, Integer.MAX_VALUE, Integer.MIN_VALUE}) {
            String bytes = Bench.hex(number, 4);
            Bench bench = new Bench().set(Bench.FLAGS, Bench.SIX).goes("E9" + bytes, Bench.CODE + 5L + number);
            bench.goes("48 E9" + bytes, Bench.CODE + 6L + number).goes("0F 82" + bytes, Bench.CODE + 6L + number);
            bench.goes("0F 83" + bytes, Bench.CODE + 6).goes("0F 80" + bytes, Bench.CODE + 6L + number)
                    .goes("0F 8C" + bytes, Bench.CODE + 6);
        }
        // Where it goes to need not be there.
        new Bench().goes("E9 00100000", 0x7005).goes("E9 00200000", 0x8005).pageHere("but the next step", 0x8005, 16);
        Bench bench = new Bench().ends().at(0x7FFE, -2, "EB 05").goesOn("around the end", 5).at(0x5000, 0, "EB FD")
                .goesOn("back", -1);
    }

    private static void loops() {
        for (int flags : new int[] {0, Bench.ZERO, Bench.SEVEN, Bench.SEVEN & ~Bench.ZERO}) {
            for (long count : new long[] {0, 1, 2, -1, 0x100000000L, 0x100000001L, Long.MIN_VALUE, 0x10000, 0x100}) {
                boolean zero = (flags & Bench.ZERO) != 0;
                boolean[] taken = {count != 1 && !zero, count != 1 && zero, count != 1, count == 0};
                for (int kind = 0; kind < 4; kind++) {
                    Bench bench = new Bench().set(Bench.FLAGS, flags).set(Bench.UNDEFINED, ~flags).set(1, count);
                    String opcode = Bench.hex(0xE0 + kind, 1);
                    bench.goes(opcode + "80", Bench.CODE + 2 - (taken[kind] ? 128 : 0));
                    bench.has(opcode, 1, kind == 3 ? count : count - 1).has("without flags", Bench.FLAGS, flags);
                    bench.set(1, count).goes("48" + opcode + "7F", Bench.CODE + 3 + (taken[kind] ? 127 : 0));
                    bench.set(1, count).goes("F2" + opcode + "7F", Bench.CODE + 3 + (taken[kind] ? 127 : 0));
                }
            }
        }
        Bench bench = new Bench().set(1, 1000).code("E2 FE");
        Bench.due("all of them", bench.core.run(1000), 1000);
        bench.has("none is left", 1, 0).has("behind it", Bench.NEXT, Bench.CODE + 2);
    }

    private static void jumpsToE() {
        long[] places = {0, 0x123456789AL, Bench.FIRST_WRONG - 1, Bench.UPPER_HALF, -1};
        for (long place : places) {
            Bench bench = new Bench().set(9, place).set(3, Bench.DATA).store(Bench.DATA, place).goes("41 FF E1", place);
            bench.goes("FF 23", place).goes("48 FF 23", place).goes("F3 FF 23", place).has("no stack", 4, Bench.TOP);
        }
        Bench bench = new Bench().set(3, 0x7FF8).store(0x7FF8, 0x1234).goes("FF 23", 0x1234).set(3, 0x7FFC)
                .page("FF 23", 0x8000, 0);
        bench.set(3, 0x7FF9).page("FF 23", 0x8000, 0).set(3, Bench.FIRST_WRONG).refused("FF 23", Bench.WRONG);
        bench.set(5, Bench.FIRST_WRONG).refused("FF 65 00", Bench.STACK).map(5, 0x5005).set(3, Bench.DATA).goes("FF 23", 0);
        bench.set(0, Bench.FIRST_WRONG).refused("FF E0", Bench.WRONG).refused("FF E8", Bench.UNKNOWN)
                .refused("FF 2B", Bench.UNKNOWN);
    }

    private static void pushAndPop() {
        String[] prefixes = {"", "66", "48", "66 48", "40", "66 40", "48 66"};
        int[] sizes = {8, 2, 8, 8, 8, 2, 2};
        for (int i = 0; i < prefixes.length; i++) {
            int bytes = sizes[i];
            Bench bench = new Bench().set(0, OLD).store(Bench.TOP - 16, OTHER).store(Bench.TOP - 8, OTHER)
                    .store(Bench.TOP, OTHER);
            bench.done(prefixes[i] + "50").has("PUSH", 4, Bench.TOP - bytes)
                    .holds("there", Bench.TOP - bytes, bytes == 8 ? OLD : Bench.kept(OTHER << 16, OLD, 2));
            bench.holds("above", Bench.TOP, OTHER)
                    .holds("below", Bench.TOP - bytes - 8, bytes == 8 ? OTHER : OTHER << 16 | OTHER >>> 48);
            bench.set(3, OTHER).done(prefixes[i] + "5B").has("POP", 4, Bench.TOP).has("taken", 3, Bench.kept(OTHER, OLD, bytes));
            // The last bytes of a page, and one too few.
            bench.set(4, 0x5000 + bytes).done(prefixes[i] + "50").has("the page's first", 4, 0x5000);
            bench.set(4, 0x5000 + bytes - 1).page(prefixes[i] + "50", 0x4FFF, 2).set(4, 0x8000).done(prefixes[i] + "50");
            bench.done(prefixes[i] + "5B").has("the page's last", 4, 0x8000).page(prefixes[i] + "5B", 0x8000, 0);
            bench.set(4, 0x8000 - bytes + 1).page(prefixes[i] + "5B", 0x8000, 0);
            bench.set(4, 0).page(prefixes[i] + "50", -bytes, 2).ends().done(prefixes[i] + "50").has("PUSH from 0", 4, -bytes);
            bench.done(prefixes[i] + "5B").has("POP to 0", 4, 0).map(7, 0x7005).set(4, Bench.TOP)
                    .page(prefixes[i] + "50", Bench.TOP - bytes, 3);
            bench.done(prefixes[i] + "5B").has("POP of what may not be written", 4, Bench.TOP + bytes)
                    .has("no flags", Bench.FLAGS, 0);
        }
    }

    private static void whatIsPushed() {
        for (int register = 0; register < 16; register++) {
            String rex = Bench.hex(0x40 | register >> 3, 1);
            Bench bench = new Bench().set(register, OLD).set(4, Bench.TOP).done(rex + Bench.hex(0x50 | register & 7, 1));
            bench.holds("50 .. 57", Bench.TOP - 8, register == 4 ? Bench.TOP : OLD).store(Bench.TOP - 8, OTHER);
            bench.done(rex + Bench.hex(0x58 | register & 7, 1)).has("58 .. 5F", register, OTHER);
            bench.has("the stack's", 4, register == 4 ? OTHER : Bench.TOP);
        }
        Bench bench = new Bench().done("68 00000080").holds("68", Bench.TOP - 8, 0xFFFFFFFF80000000L);
        bench.done("68 FFFFFF7F").holds("68", Bench.TOP - 16, 0x7FFFFFFFL).done("48 68 00000080")
                .holds("68", Bench.TOP - 24, 0xFFFFFFFF80000000L);
        bench.set(4, Bench.TOP).store(Bench.TOP - 8, 0).done("66 68 0080").holds("66 68", Bench.TOP - 8, 0x8000L << 48)
                .has("66 68", 4, Bench.TOP - 2);
        bench.set(4, Bench.TOP).done("66 48 68 00000080").holds("66 48 68", Bench.TOP - 8, 0xFFFFFFFF80000000L);
        bench.set(4, Bench.TOP).done("6A 80").holds("6A", Bench.TOP - 8, -128).done("6A 7F").holds("6A", Bench.TOP - 16, 127);
        bench.set(4, Bench.TOP).store(Bench.TOP - 8, 0).done("66 6A 80").holds("66 6A", Bench.TOP - 8, 0xFF80L << 48);
        bench.set(4, Bench.TOP).done("FF F4").holds("FF 6 of the stack's", Bench.TOP - 8, Bench.TOP).set(3, Bench.DATA)
                .store(Bench.DATA, OLD);
        bench.set(4, Bench.TOP).done("FF 33").holds("FF 6", Bench.TOP - 8, OLD).store(Bench.TOP - 8, 0).set(4, Bench.TOP)
                .done("66 FF 33");
        bench.holds("66 FF 6", Bench.TOP - 8, OLD << 48).set(4, Bench.TOP).store(Bench.TOP, OTHER).done("FF 34 24");
        bench.holds("FF 6 by the stack's as it is before", Bench.TOP - 8, OTHER).set(4, Bench.TOP).done("66 54")
                .holds("66 54", Bench.TOP - 2, OTHER << 16 | Bench.TOP);
        bench.set(3, 0x7FFE).done("66 FF 33").page("FF 33", 0x8000, 0);
        popped();
    }

    private static void popped() {
        Bench bench = new Bench().store(Bench.TOP, OTHER).set(3, Bench.DATA).done("8F 03").holds("8F", Bench.DATA, OTHER)
                .has("8F", 4, Bench.TOP + 8);
        bench.set(4, Bench.TOP).store(Bench.DATA, OLD).done("66 8F 03").holds("66 8F", Bench.DATA, Bench.kept(OLD, OTHER, 2))
                .has("66 8F", 4, Bench.TOP + 2);
        bench.set(4, Bench.TOP).done("8F C1").has("8F of a register", 1, OTHER).set(4, Bench.TOP).done("8F C4")
                .has("8F of the stack's", 4, OTHER);
        bench.set(4, Bench.TOP).done("8F 04 24").holds("its place by the stack's then", Bench.TOP + 8, OTHER)
                .has("8F", 4, Bench.TOP + 8);
        bench.set(4, Bench.TOP).done("8F 44 24 F8").holds("where it was", Bench.TOP, OTHER).set(4, Bench.TOP)
                .done("66 8F 44 24 20");
        bench.holds("2 more then", Bench.TOP + 34, OTHER & 0xFFFF).set(4, Bench.TOP).set(12, Bench.DATA).done("41 8F 44 24 30");
        bench.holds("register 12 stays", Bench.DATA + 48, OTHER).set(4, 0x7FF8).page("8F 04 24", 0x8000, 2)
                .page("8F 44 24 FC", 0x8000, 2);
        bench.set(4, 0x7FF8).done("8F 44 24 F8").has("no more than it needs", 4, 0x8000);
        for (int reg = 1; reg < 8; reg++) {
            bench.refused("8F" + Bench.hex(0xC0 | reg << 3, 1), Bench.UNKNOWN)
                    .refused("8F" + Bench.hex(0x03 | reg << 3, 1), Bench.UNKNOWN);
        }
        // POP of 2 to the stack's own register: it is 2 more before it gets the 2 bytes.
        bench = new Bench().map(0x1F, 0x5007).store(0x5FF8, 0x9999L << 48).set(4, 0x1FFFE).done("66 5C").has("66 5C", 4, 0x29999);
    }

    private static void calls() {
        for (int number : new int[] {0, 1, -5, -6, 256, Integer.MAX_VALUE, Integer.MIN_VALUE}) {
            Bench bench = new Bench().goes("E8" + Bench.hex(number, 4), Bench.CODE + 5L + number).has("E8", 4, Bench.TOP - 8);
            bench.holds("E8", Bench.TOP - 8, Bench.CODE + 5).goes("48 E8" + Bench.hex(number, 4), Bench.CODE + 6L + number);
            bench.holds("E8 with W", Bench.TOP - 16, Bench.CODE + 6);
        }
        for (long place : new long[] {0, Bench.FIRST_WRONG - 1, Bench.UPPER_HALF, -1}) {
            Bench bench = new Bench().set(9, place).goes("41 FF D1", place).holds("FF 2", Bench.TOP - 8, Bench.CODE + 3);
            bench.set(3, Bench.DATA).store(Bench.DATA, place).goes("FF 13", place).holds("FF 2", Bench.TOP - 16, Bench.CODE + 2);
            bench.has("FF 2", 4, Bench.TOP - 16).set(4, Bench.TOP).store(Bench.TOP, place).goes("FF 14 24", place);
            bench.holds("by the stack's as it is before", Bench.TOP - 8, Bench.CODE + 3);
        }
        Bench bench = new Bench().goes("FF D4", Bench.TOP).holds("the stack's own", Bench.TOP - 8, Bench.CODE + 2);
        bench.set(3, 0x7FFC).page("FF 13", 0x8000, 0).set(4, 0x5007).set(0, 0).page("FF D0", 0x4FFF, 2)
                .page("E8 00000000", 0x4FFF, 2);
        bench.set(4, 0x5008).goes("FF D0", 0).has("the page's first", 4, 0x5000);
        // The next place may be a wrong one: it is pushed, not jumped to.
        bench.ends().set(4, Bench.TOP).at(0x7FFE, Bench.FIRST_WRONG - 2, "FF D0").goesOn("at the end", 0);
        bench.holds("a wrong place", Bench.TOP - 8, Bench.FIRST_WRONG).at(0x7FFE, -2, "FF D0").goesOn("around the end", 0);
        bench.holds("place 0", Bench.TOP - 16, 0).has("no flags", Bench.FLAGS, 0);
    }

    private static void returns() {
        for (long place : new long[] {0, 0x123456, Bench.FIRST_WRONG - 1, Bench.UPPER_HALF, -1}) {
            Bench bench = new Bench().store(Bench.TOP, place).goes("C3", place).has("C3", 4, Bench.TOP + 8);
            for (int more : new int[] {0, 1, 8, 0x7FFF, 0x8000, 0xFFFF}) {
                bench.set(4, Bench.TOP).goes("C2" + Bench.hex(more, 2), place).has("C2", 4, Bench.TOP + 8 + more);
            }
            bench.set(4, Bench.TOP).goes("48 C3", place).set(4, Bench.TOP).goes("F3 C3", place)
                    .has("C3 with prefixes", 4, Bench.TOP + 8);
        }
        Bench bench = new Bench().store(Bench.TOP, Bench.FIRST_WRONG).refused("C3", Bench.WRONG).refused("C2 0000", Bench.WRONG);
        bench.store(0x7FF8, 0x5005).set(4, 0x7FF8).goes("C3", 0x5005).has("the page's last", 4, 0x8000).page("C3", 0x8000, 0);
        bench.set(4, 0x7FF9).page("C3", 0x8000, 0).page("C2 0000", 0x8000, 0).set(4, Bench.FIRST_WRONG)
                .refused("C2 0000", Bench.STACK);
        bench.ends().set(4, -8).goes("C2 0500", 0x5005).has("around the end", 4, 5).map(7, 0x7005).set(4, 0x7FF8)
                .goes("C3", 0x5005);
        bench.has("no flags", Bench.FLAGS, 0);
    }

    private static void leave() {
        Bench bench = new Bench().set(5, Bench.DATA).store(Bench.DATA, OLD).set(4, Bench.FIRST_WRONG);
        bench.done("C9").has("the frame's", 5, OLD).has("the stack's", 4, Bench.DATA + 8).set(5, Bench.DATA).done("48 C9")
                .has("with W", 5, OLD);
        bench.set(5, 0x7FF8).store(0x7FF8, 1).done("C9").has("the page's last", 4, 0x8000).has("the page's last", 5, 1);
        bench.set(5, 0x7FF9).page("C9", 0x8000, 0).set(5, 0x9000).page("C9", 0x9000, 0).set(5, Bench.FIRST_WRONG)
                .refused("C9", Bench.STACK);
        bench.ends().set(5, -8).done("C9").has("around the end", 4, 0).set(5, Bench.FIRST_WRONG - 8).done("C9")
                .has("up to a wrong place", 4, Bench.FIRST_WRONG);
        bench.set(5, Bench.FIRST_WRONG - 7).refused("C9", Bench.STACK).map(7, 0x7005).set(5, 0x7FF8).done("C9")
                .has("no flags", Bench.FLAGS, 0);
    }

    private static void shortened() {
        String[] texts = {"EB 00", "E9 00000000", "E8 00000000", "FF E0", "FF 23", "FF D0", "FF 13", "C2 0000", "C3", "C9", "E0 00", "E1 00",
            "E2 00", "E3 00"};
        Bench bench = new Bench().set(0, Bench.CODE).set(3, Bench.DATA).store(Bench.DATA, Bench.CODE).set(5, Bench.TOP).set(1, 5);
        for (String text : texts) {
            for (String prefix : new String[] {"66", "66 48", "66 F3", "F2 66", "48 66", "66 66"}) {
                bench.refused(prefix + text, Bench.UNKNOWN);
            }
        }
        for (int condition = 0; condition < 16; condition++) {
            bench.refused("66" + Bench.hex(0x70 | condition, 1) + "00", Bench.UNKNOWN);
            bench.refused("66 0F" + Bench.hex(0x80 | condition, 1) + "00000000", Bench.UNKNOWN);
            bench.refused("66 48 0F" + Bench.hex(0x80 | condition, 1) + "00000000", Bench.UNKNOWN);
        }
        // It comes before all that could be refused else.
        bench.set(0, Bench.FIRST_WRONG).refused("66 FF E0", Bench.UNKNOWN).set(3, 0x9000).refused("66 FF 23", Bench.UNKNOWN);
        bench.set(4, Bench.FIRST_WRONG).refused("66 C3", Bench.UNKNOWN).refused("66 E8 00000000", Bench.UNKNOWN);
        // PUSH, POP, 9C and 9D are told with it, and so is FF 6.
        bench.set(4, Bench.TOP).done("66 50").done("66 58").done("66 9C").done("66 9D").done("66 FF F0").done("66 8F C0");
    }

    private static void flagsOnTheStack() {
        for (int flags : new int[] {0, Bench.SEVEN, 1, 4, 16, 64, 128, 1024, 2048}) {
            Bench bench = new Bench().set(Bench.FLAGS, flags).store(Bench.TOP - 8, -1).done("9C").has("9C", 4, Bench.TOP - 8);
            bench.holds("9C", Bench.TOP - 8, flags | 2).has("they stay", Bench.FLAGS, flags).set(4, Bench.TOP)
                    .store(Bench.TOP - 8, -1);
            bench.done("66 9C").has("66 9C", 4, Bench.TOP - 2)
                    .holds("66 9C", Bench.TOP - 8, 0xFFFFFFFFFFFFL | (long) (flags | 2) << 48);
            bench.set(4, Bench.TOP).store(Bench.TOP, flags).set(Bench.FLAGS, Bench.SEVEN & ~flags).set(Bench.UNDEFINED, -1);
            bench.done("9D").has("9D", Bench.FLAGS, flags).has("9D", 4, Bench.TOP + 8)
                    .store(Bench.TOP, flags | ~(long) Bench.SEVEN);
            bench.set(4, Bench.TOP).set(Bench.FLAGS, 0).done("9D").has("these seven alone", Bench.FLAGS, flags).set(4, Bench.TOP);
            bench.set(Bench.FLAGS, 0).done("66 9D").has("66 9D", Bench.FLAGS, flags).has("66 9D", 4, Bench.TOP + 2);
        }
        Bench bench = new Bench().set(4, 0x8000).page("9D", 0x8000, 0).set(4, 0x5007).page("9C", 0x4FFF, 2)
                .set(4, Bench.FIRST_WRONG + 8);
        bench.refused("9C", Bench.STACK).refused("9D", Bench.STACK);
        bench.core.level(true);
        bench.set(4, Bench.TOP).store(Bench.TOP, -1).done("9D").has("at level 3", Bench.FLAGS, Bench.SEVEN).done("9C");
    }

    private static void systemCalls() {
        for (int user = 0; user < 2; user++) {
            for (long mask : new long[] {0, -1, 0x441, 0xFFFFFFFF00000000L, 2, Bench.DOWN, Bench.OVER, Bench.CARRY}) {
                for (int flags : new int[] {0, Bench.SEVEN}) {
                    Bench bench = new Bench().set(Bench.ENTRY, 0x123456789AL).set(Bench.MASK, mask).set(Bench.FLAGS, flags)
                            .set(1, -1).set(11, -1);
                    bench.core.level(user == 1);
                    bench.goes("0F 05", 0x123456789AL).has("register 1", 1, Bench.CODE + 2).has("register 11", 11, flags | 2);
                    bench.has("flags", Bench.FLAGS, flags & ~mask).has("the level", Bench.LEVEL, 0)
                            .has("the stack's", 4, Bench.TOP);
                    bench.has("MASK", Bench.MASK, mask).has("ENTRY", Bench.ENTRY, 0x123456789AL);
                }
            }
        }
        for (long place : new long[] {0, Bench.FIRST_WRONG - 1, Bench.UPPER_HALF, -1, Bench.FIRST_WRONG, Long.MIN_VALUE}) {
            new Bench().set(Bench.ENTRY, place).goes("48 0F 05", place).has("the next place", 1, Bench.CODE + 3)
                    .goes("F3 66 0F 05", place);
        }
        Bench bench = new Bench().ends().at(0x7FFE, -2, "0F 05").goesOn("around the end", 0).has("around the end", 1, 0);
        bench.at(0x7FFE, Bench.FIRST_WRONG - 2, "0F 05").goesOn("at the end", 0).has("a wrong next place", 1, Bench.FIRST_WRONG);
        bench.set(Bench.ENTRY, Bench.FIRST_WRONG).goes("0F 05", Bench.FIRST_WRONG).stays("the step after it", Bench.WRONG);
        // What it enters may be what level 3 may not use.
        bench = new Bench().map(7, 0x7003).set(Bench.ENTRY, 0x7000);
        bench.core.level(true);
        bench.goes("0F 05", 0x7000).bytes(0x7000, "90").goesOn("at level 0", 0x7001);
    }

    private static void systemReturns() {
        for (long place : new long[] {0, 0x123456, Bench.FIRST_WRONG - 1, Bench.UPPER_HALF, -1}) {
            for (long flags : new long[] {0, -1, 2, Bench.DOWN, ~(long) Bench.SEVEN, Bench.OVER, 0xFFFFFFFF00000001L}) {
                Bench bench = new Bench().set(1, place).set(11, flags).set(Bench.FLAGS, ~flags).set(Bench.MASK, -1)
                        .set(Bench.ENTRY, 5);
                bench.goes("0F 07", place).has("the flags", Bench.FLAGS, flags & Bench.SEVEN).has("the level", Bench.LEVEL, 3);
                bench.has("register 1", 1, place).has("register 11", 11, flags).has("the stack's", 4, Bench.TOP);
            }
        }
        for (long place : new long[] {Bench.FIRST_WRONG, Bench.UPPER_HALF - 1, Long.MIN_VALUE, Long.MAX_VALUE}) {
            new Bench().set(1, place).set(11, -1).refused("0F 07", Bench.WRONG).refused("48 0F 07", Bench.WRONG);
        }
        Bench bench = new Bench().set(1, 0x7000).set(11, Bench.CARRY).map(7, 0x7003).bytes(0x7000, "90");
        bench.core.level(true);
        bench.refused("0F 07", Bench.WRONG).set(1, Bench.FIRST_WRONG).refused("0F 07", Bench.WRONG).set(1, 0x7000);
        bench.core.level(false);
        bench.goes("48 0F 07", 0x7000).pageHere("at level 3", 0x7000, 21);
        bench = new Bench().set(1, 0x123456).goes("66 0F 07", 0x123456);
    }
}
