/** Tests of the sentences about strings, and about F2 and F3. */
final class StringSentences {
    private static final int[] SIZES = {1, 2, 4, 8};
    private static final int FROM = Bench.DATA + 0x100;
    private static final int TO = Bench.DATA + 0x200;
    private static final long OLD = 0xFFEEDDCCBBAA9988L;
    private static final long OTHER = 0x1122334455667711L;

    private StringSentences() {
    }

    static void all() {
        Sentences.test("STRINGS b, v: A4, A5 MOVS: what is at SOURCE goes to GOAL (SOURCE is looked up first); A6, A7 CMPS: CMP of "
                + "what is at SOURCE with what is at GOAL; AA, AB STOS: register 0 goes to GOAL; AC, AD LODS: SOURCE to register "
                + "0; AE, AF SCAS: CMP of register 0 with what is at GOAL.", StringSentences::strings);
        Sentences.test("(GOAL isn't of the stack.)", StringSentences::wrongStrings);
        Sentences.test("Then each place that was used becomes as many bytes more, with DOWN less.", StringSentences::farther);
        Sentences.test("With F2 or F3: if register 1 is 0, nothing; else it is done once, register 1 is 1 less, and NEXT stays at the "
                + "instruction, unless register 1 is 0 then, or, with CMPS and SCAS, ZERO isn't set (F3), is (F2).",
                StringSentences::repeated);
        Sentences.test("F2, F3 mean nothing elsewhere.", StringSentences::notRepeated);
    }

    private static String sized(int bytes, int opcode) {
        return Bench.prefix(bytes) + Bench.hex(opcode + (bytes == 1 ? 0 : 1), 1);
    }

    private static Bench withStrings(int flags) {
        return new Bench().store(FROM, OLD).store(TO, OTHER).set(6, FROM).set(7, TO).set(0, 0x8000000080008080L).set(1, 9)
                .set(Bench.FLAGS, flags);
    }

    private static void strings() {
        long a = 0x8000000080008080L;
        for (int bytes : SIZES) {
            long mask = Bench.mask(bytes);
            withStrings(Bench.SIX).done(sized(bytes, 0xA4)).holds("MOVS", TO, OTHER & ~mask | OLD & mask).holds("MOVS", FROM, OLD)
                    .has("MOVS", 0, a).has("no flags", Bench.FLAGS, Bench.SIX).has("register 1", 1, 9);
            withStrings(Bench.SIX).done(sized(bytes, 0xA6)).has("CMPS", Bench.FLAGS, SumTest.sumFlags(true, OLD, OTHER, 0, bytes))
                    .holds("CMPS", TO, OTHER).holds("CMPS", FROM, OLD).has("CMPS", 0, a);
            withStrings(Bench.SIX).done(sized(bytes, 0xAA)).holds("STOS", TO, OTHER & ~mask | a & mask)
                    .has("no flags", Bench.FLAGS, Bench.SIX);
            withStrings(Bench.SIX).done(sized(bytes, 0xAC)).has("LODS", 0, Bench.kept(a, OLD, bytes))
                    .has("no flags", Bench.FLAGS, Bench.SIX);
            withStrings(Bench.SIX).done(sized(bytes, 0xAE)).has("SCAS", Bench.FLAGS, SumTest.sumFlags(true, a, OTHER, 0, bytes))
                    .has("SCAS", 0, a).holds("SCAS", TO, OTHER);
            withStrings(0).set(7, FROM).done(sized(bytes, 0xA6)).has("alike", Bench.FLAGS, Bench.ZERO | Bench.PARITY);
            Bench bench = withStrings(0).set(6, 0x9100).set(7, 0xA200);
            bench.page(sized(bytes, 0xA4), 0x9100, 0).page(sized(bytes, 0xA6), 0x9100, 0).page(sized(bytes, 0xAC), 0x9100, 0);
            bench.page(sized(bytes, 0xAA), 0xA200, 2).page(sized(bytes, 0xAE), 0xA200, 0).set(6, FROM);
            bench.page(sized(bytes, 0xA4), 0xA200, 2).page(sized(bytes, 0xA6), 0xA200, 0).done(sized(bytes, 0xAC));
            bench.map(5, 0x5005).set(6, FROM).set(7, TO).page(sized(bytes, 0xA4), TO, 3).page(sized(bytes, 0xAA), TO, 3);
            bench.done(sized(bytes, 0xA6)).done(sized(bytes, 0xAC)).done(sized(bytes, 0xAE));
            if (bytes > 1) {
                bench.map(5, 0x5007).set(6, 0x7FFF).set(7, TO).page(sized(bytes, 0xA4), 0x8000, 0).set(6, FROM).set(7, 0x7FFF);
                bench.page(sized(bytes, 0xA4), 0x8000, 2).page(sized(bytes, 0xAA), 0x8000, 2).page(sized(bytes, 0xAE), 0x8000, 0);
            }
        }
        // All is read before one byte is written, though the two lie over one another.
        withStrings(0).set(7, FROM + 1).done("48 A5").holds("MOVS over itself", FROM + 1, OLD);
    }

    private static void wrongStrings() {
        String[] texts = {"A4", "A5", "A6", "A7", "AA", "AB", "AE", "AF", "48 A5", "66 AB", "F3 A4", "F2 AF"};
        for (String text : texts) {
            withStrings(0).set(7, Bench.FIRST_WRONG).refused(text, Bench.WRONG);
            withStrings(0).set(7, Bench.UPPER_HALF - 1).set(4, Bench.FIRST_WRONG).set(5, Bench.FIRST_WRONG)
                    .refused(text, Bench.WRONG);
        }
        for (String text : new String[] {"A4", "A5", "A6", "A7", "AC", "AD", "F3 AD"}) {
            withStrings(0).set(6, Bench.FIRST_WRONG).refused(text, Bench.WRONG);
        }
        withStrings(0).ends().set(7, Bench.FIRST_WRONG - 4).refused("48 AB", Bench.WRONG).done("AB").refused("AB", Bench.WRONG);
    }

    private static void farther() {
        int[] kinds = {0xA4, 0xA6, 0xAA, 0xAC, 0xAE};
        for (int kind : kinds) {
            boolean source = kind == 0xA4 || kind == 0xA6 || kind == 0xAC;
            boolean goal = kind != 0xAC;
            for (int bytes : SIZES) {
                for (int down = 0; down < 2; down++) {
                    int more = down == 1 ? -bytes : bytes;
                    int flags = down * Bench.DOWN;
                    Bench bench = withStrings(flags).done(sized(bytes, kind));
                    bench.has("SOURCE", 6, source ? FROM + more : FROM).has("GOAL", 7, goal ? TO + more : TO)
                            .has("register 1", 1, 9);
                    Bench.due("DOWN stays", bench.get(Bench.FLAGS) & Bench.DOWN, flags);
                    bench = withStrings(flags).code("F3" + sized(bytes, kind));
                    bench.core.step();
                    bench.has("SOURCE", 6, source ? FROM + more : FROM).has("GOAL", 7, goal ? TO + more : TO);
                }
                Bench bench = withStrings(0).ends().set(6, -bytes).set(7, Bench.FIRST_WRONG - bytes).done(sized(bytes, kind));
                bench.has("around the end", 6, source ? 0 : -bytes)
                        .has("to a wrong place", 7, goal ? Bench.FIRST_WRONG : Bench.FIRST_WRONG - bytes);
                bench.set(6, 0).set(7, Bench.UPPER_HALF).set(Bench.FLAGS, Bench.DOWN).done(sized(bytes, kind));
                bench.has("back around", 6, source ? -bytes : 0)
                        .has("back to a wrong place", 7, goal ? Bench.UPPER_HALF - bytes : Bench.UPPER_HALF);
            }
        }
        withStrings(0).set(7, FROM).set(6, FROM).done("A4").has("both", 6, FROM + 1).has("both", 7, FROM + 1);
    }

    private static void repeated() {
        for (String prefix : new String[] {"F2", "F3"}) {
            for (int kind : new int[] {0xA4, 0xA6, 0xAA, 0xAC, 0xAE}) {
                for (int bytes : SIZES) {
                    String text = prefix + sized(bytes, kind);
                    // Nothing at all, though both places are wrong.
                    Bench bench = withStrings(Bench.SEVEN).set(1, 0).set(6, Bench.FIRST_WRONG).set(7, Bench.FIRST_WRONG)
                            .code(text);
                    bench.done(text).has("nothing", 6, Bench.FIRST_WRONG).has("nothing", 7, Bench.FIRST_WRONG)
                            .has("nothing", 1, 0);
                    bench.has("nothing", 0, 0x8000000080008080L).has("nothing", Bench.FLAGS, Bench.SEVEN)
                            .holds("nothing", TO, OTHER);
                    // The last time, whatever ZERO is then.
                    withStrings(0).set(1, 1).done(text).has("the last time", 1, 0);
                    withStrings(0).set(1, 1).set(7, FROM).set(0, OLD).done(text).has("the last time", 1, 0);
                    onceMore(prefix, kind, bytes);
                }
            }
        }
        Bench bench = withStrings(0).set(7, 0x7FFE).set(1, 5).code("F3 AA");
        Bench.due("until it is refused", bench.core.run(9), 2);
        bench.has("register 1", 1, 3).has("GOAL", 7, 0x8000).has("NEXT", Bench.NEXT, Bench.CODE)
                .has("FAULT", Bench.FAULT, 0x8000);
        bench = withStrings(0).set(1, 1000).code("F3 AA");
        Bench.due("1000 times", bench.core.run(1000), 1000);
        bench.has("1000 times", 1, 0).has("1000 times", 7, TO + 1000).has("1000 times", Bench.NEXT, Bench.CODE + 2);
    }

    private static void onceMore(String prefix, int kind, int bytes) {
        boolean compares = kind == 0xA6 || kind == 0xAE;
        String text = prefix + sized(bytes, kind);
        for (long count : new long[] {2, 0x100000001L, -1, 0x100000000L}) {
            for (int alike = 0; alike < 2; alike++) {
                boolean stays = !compares || alike == 1 == prefix.equals("F3");
                Bench bench = withStrings(alike == 1 ? 0 : Bench.ZERO).set(1, count);
                if (alike == 1) {
                    bench.store(TO, OLD).set(0, OLD);
                }
                bench.goes(text, stays ? Bench.CODE : Bench.CODE + text.length() / 2).has(text, 1, count - 1);
            }
        }
        // ZERO as it was before is no matter.
        if (!compares) {
            withStrings(Bench.ZERO).goes(text, Bench.CODE).has(text, 1, 8);
            withStrings(0).goes(text, Bench.CODE).has(text, 1, 8);
        }
    }

    private static void notRepeated() {
        String[] texts = {"90", "48 FF C3", "B8 01000000", "50", "58", "0F BC CB", "0F BD CB", "01 CB", "C1 E3 02", "F7 E3", "89 0F", "8B 0F",
            "0F B6 CB", "C9", "9C", "9D", "86 CB", "0F A3 CB", "0F C1 CB", "99", "F5", "FD", "8D 03", "6A 05", "0F AF CB", "0F 44 CB", "63 CB"};
        for (String prefix : new String[] {"F2", "F3", "F2 F3"}) {
            for (long count : new long[] {0, 5}) {
                for (String text : texts) {
                    Bench with = withStrings(Bench.CARRY).set(1, count).set(3, 0x48).set(5, Bench.TOP).done(prefix + text);
                    Bench without = withStrings(Bench.CARRY).set(1, count).set(3, 0x48).set(5, Bench.TOP).done(text);
                    for (int register = 0; register <= 24; register++) {
                        if (register != Bench.NEXT) {
                            with.has(prefix + text, register, without.get(register));
                        }
                    }
                    with.holds(prefix + text, Bench.TOP - 8, without.core.stored(Bench.TOP - 8))
                            .holds(prefix + text, TO, without.core.stored(TO));
                }
                Bench bench = withStrings(0).set(1, count)
                        .goes(prefix + "EB 10", Bench.CODE + 0x12 + prefix.replace(" ", "").length() / 2);
                bench.refused(prefix + "0F B8 CB", Bench.UNKNOWN).refused(prefix + "06", Bench.UNKNOWN)
                        .refused(prefix + "0F 10 C0", Bench.UNKNOWN);
                bench.set(1, 1).goes(prefix + "E2 10", Bench.CODE + 2 + prefix.replace(" ", "").length() / 2).has("E2", 1, 0);
            }
        }
    }
}
