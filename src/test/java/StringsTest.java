/** Promise 7: MOVS, CMPS, STOS, LODS and SCAS, once and again and again. */
final class StringsTest {
    private static final int[] SIZES = {1, 2, 4, 8};
    private static final int FROM = Bench.DATA + 0x100;
    private static final int TO = Bench.DATA + 0x200;
    private static final long FIRST = 0x8877665544332211L;
    private static final long SECOND = 0x8877665544332212L;

    public static void main(String[] args) {
        for (int bytes : SIZES) {
            for (int down = 0; down < 2; down++) {
                once(bytes, down == 1);
            }
            repeated(bytes);
        }
        comparing();
        repeatedNothing();
        refusals();
        oneAfterTheOther();
        refusedInBetween();
        Bench.finish("StringsTest");
    }

    private static Bench withPlaces(boolean down) {
        Bench bench = new Bench().store(FROM, FIRST).store(TO, SECOND).set(6, FROM).set(7, TO).set(1, 9).set(0, -2);
        return bench.set(Bench.FLAGS, down ? Bench.SEVEN : Bench.SIX).set(Bench.UNDEFINED, 0);
    }

    private static String opcode(int kind, int bytes) {
        return Bench.prefix(bytes) + Bench.hex(kind + (bytes == 1 ? 0 : 1), 1);
    }

    private static void once(int bytes, boolean down) {
        int flags = down ? Bench.SEVEN : Bench.SIX;
        int farther = down ? -bytes : bytes;
        Bench bench = withPlaces(down).done(opcode(0xA4, bytes));
        bench.holds("MOVS", TO, SECOND & ~Bench.mask(bytes) | FIRST & Bench.mask(bytes)).holds("MOVS", FROM, FIRST);
        bench.has("MOVS", 6, FROM + farther).has("MOVS", 7, TO + farther).has("MOVS", 1, 9).has("MOVS", Bench.FLAGS, flags);
        bench = withPlaces(down).done(opcode(0xA6, bytes));
        bench.has("CMPS", 6, FROM + farther).has("CMPS", 7, TO + farther).has("CMPS", 0, -2).holds("CMPS", TO, SECOND);
        bench.has("CMPS", Bench.FLAGS, flags & Bench.DOWN | SumTest.sumFlags(true, FIRST, SECOND, 0, bytes));
        bench = withPlaces(down).done(opcode(0xAA, bytes));
        bench.holds("STOS", TO, SECOND & ~Bench.mask(bytes) | -2 & Bench.mask(bytes)).has("STOS", 6, FROM);
        bench.has("STOS", 7, TO + farther).has("STOS", 0, -2).has("STOS", Bench.FLAGS, flags);
        bench = withPlaces(down).done(opcode(0xAC, bytes)).has("LODS", 0, Bench.kept(-2, FIRST, bytes));
        bench.has("LODS", 6, FROM + farther).has("LODS", 7, TO).has("LODS", Bench.FLAGS, flags).has("LODS", 1, 9);
        bench = withPlaces(down).done(opcode(0xAE, bytes)).has("SCAS", 0, -2).has("SCAS", 6, FROM).has("SCAS", 7, TO + farther);
        bench.has("SCAS", Bench.FLAGS, flags & Bench.DOWN | SumTest.sumFlags(true, -2, SECOND, 0, bytes));
    }

    private static void repeated(int bytes) {
        for (String prefix : new String[] {"F2", "F3", "F3 F2", "F2 F3"}) {
            Bench bench = withPlaces(false).set(1, 2).code(prefix + opcode(0xAA, bytes));
            int length = (prefix.replace(" ", "") + opcode(0xAA, bytes)).length() / 2;
            Bench.due("repeated STOS", bench.core.step(), Bench.NONE);
            bench.has("repeated STOS", Bench.NEXT, Bench.CODE).has("repeated STOS", 1, 1).has("repeated STOS", 7, TO + bytes);
            Bench.due("repeated STOS again", bench.core.step(), Bench.NONE);
            bench.has("repeated STOS", Bench.NEXT, Bench.CODE + length).has("repeated STOS", 1, 0);
            bench.has("repeated STOS", 7, TO + 2 * bytes).has("repeated STOS", Bench.FLAGS, Bench.SIX);
        }
        Bench bench = withPlaces(false).set(1, 0x100000000L).code("F3" + opcode(0xAC, bytes));
        Bench.due("repeated LODS", bench.core.step(), Bench.NONE);
        bench.has("register 1 has 64 bits", 1, 0xFFFFFFFFL).has("register 1 has 64 bits", Bench.NEXT, Bench.CODE);
        bench = withPlaces(false).set(1, -1).code("F3" + opcode(0xA4, bytes));
        Bench.due("repeated MOVS", bench.core.run(16 / bytes), 16 / bytes);
        bench.holds("repeated MOVS", TO, FIRST).has("repeated MOVS", 1, -1 - 16 / bytes).has("repeated MOVS", Bench.NEXT, Bench.CODE);
    }

    /** CMPS and SCAS stop at what differs with F3, at what is alike with F2. */
    private static void comparing() {
        String[] texts = {"F3 A6", "F2 A6", "F3 AE", "F2 AE", "F2 F3 A6", "F3 F2 AE", "F3 48 A6", "48 F3 A6"};
        for (String text : texts) {
            for (int alike = 0; alike < 2; alike++) {
                for (int count = 1; count < 3; count++) {
                    Bench bench = withPlaces(false).set(1, count).set(0, alike == 1 ? 0x12 : 0x13).bytes(FROM, alike == 1 ? "12" : "13");
                    boolean whileAlike = text.replace(" ", "").replace("48", "").indexOf("F3A") >= 0;
                    boolean stays = count == 2 && whileAlike == (alike == 1);
                    bench.code(text);
                    Bench.due(text, bench.core.step(), Bench.NONE);
                    bench.has(text, Bench.NEXT, stays ? Bench.CODE : Bench.CODE + text.replace(" ", "").length() / 2);
                    bench.has(text, 1, count - 1).has(text, 7, TO + 1);
                    bench.has(text, Bench.FLAGS, alike == 1 ? Bench.ZERO | Bench.PARITY : 0);
                }
            }
        }
    }

    private static void repeatedNothing() {
        for (int kind : new int[] {0xA4, 0xA6, 0xAA, 0xAC, 0xAE}) {
            for (String prefix : new String[] {"F2", "F3"}) {
                Bench bench = new Bench().set(6, Bench.FIRST_WRONG).set(7, 0x9000).set(0, 5).set(1, 0).set(Bench.FLAGS, Bench.SEVEN);
                String text = prefix + Bench.hex(kind, 1);
                bench.done(text).has(text, 6, Bench.FIRST_WRONG).has(text, 7, 0x9000).has(text, 0, 5).has(text, 1, 0);
                bench.has(text, Bench.FLAGS, Bench.SEVEN);
            }
        }
    }

    private static void refusals() {
        Bench bench = withPlaces(false).set(6, 0x9000).set(7, 0xA000);
        bench.page("A4", 0x9000, 0).page("A6", 0x9000, 0).page("AA", 0xA000, 2).page("AC", 0x9000, 0).page("AE", 0xA000, 0);
        bench.page("F3 A4", 0x9000, 0).page("F2 AE", 0xA000, 0);
        bench.set(6, FROM).page("A4", 0xA000, 2).page("A6", 0xA000, 0).page("48 A5", 0xA000, 2);
        bench.set(7, Bench.FIRST_WRONG).refused("A4", Bench.WRONG).refused("AA", Bench.WRONG).refused("AE", Bench.WRONG);
        bench.set(6, 0x9000).page("A4", 0x9000, 0).page("A6", 0x9000, 0).set(6, Bench.FIRST_WRONG).set(7, 0x9000);
        bench.refused("A4", Bench.WRONG).refused("A6", Bench.WRONG).refused("AC", Bench.WRONG).refused("F3 AD", Bench.WRONG);
        bench.set(6, 0x7FFD).page("A5", 0x8000, 0).set(6, FROM).set(7, 0x7FFD).page("A5", 0x8000, 2).page("AB", 0x8000, 2);
        bench.store(Bench.LAST_TABLE + 40, 0x5005).set(7, TO).page("AA", TO, 3).page("A4", TO, 3).done("A6").done("AE");
    }

    /** What one string wrote to isn't written by the next. */
    private static void oneAfterTheOther() {
        Bench bench = withPlaces(false).done("48 AB").holds("STOS", TO, -2).store(TO, SECOND);
        bench.done("48 AD").has("LODS after STOS", 0, FIRST).holds("LODS after STOS", TO, SECOND);
        bench.done("48 AF").holds("SCAS after STOS", TO, SECOND).set(6, FROM).set(7, TO).done("48 A7");
        bench.holds("CMPS after STOS", TO, SECOND).holds("CMPS after STOS", FROM, FIRST);
    }

    private static void refusedInBetween() {
        Bench bench = withPlaces(false).set(7, 0x7FFE).set(1, 5).code("F3 AA");
        Bench.due("until the page ends", bench.core.run(9), 2);
        bench.has("until the page ends", 1, 3).has("until the page ends", 7, 0x8000).has("until the page ends", Bench.NEXT, Bench.CODE);
        bench.has("until the page ends", Bench.FAULT, 0x8000).has("until the page ends", Bench.FAULT_CODE, 2);
    }
}
