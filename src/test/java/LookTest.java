/** Promise 9: a place is looked up through four levels of tables, or refused with its code. */
final class LookTest {
    private static final int READ = 0;
    private static final int WRITE = 1;
    private static final int FETCH = 2;
    private static final long NO_FETCH = 1L << 63;
    private static final long[] TABLES = {0x1000, 0x2000, 0x3000, 0x4000};

    public static void main(String[] args) {
        found();
        wrongPlaces();
        notThere();
        forbidden();
        reserved();
        largePages();
        beyondMemory();
        whichEntry();
        tableBits();
        nothingChanges();
        Bench.finish("LookTest");
    }

    private static void found() {
        Bench bench = new Bench();
        Bench.due("a place", bench.look(0x5123, READ), 0x5123);
        Bench.due("for a write", bench.look(0x5FFF, WRITE), 0x5FFF);
        Bench.due("for a fetch", bench.look(0x6000, FETCH), 0x6000);
        Bench.due("how 3 is a read", bench.look(0x6000, 3), 0x6000);
        bench.store(Bench.LAST_TABLE + 40, 0x7FF0_0000_0000_6000L | 0xF98 | 7);
        Bench.due("other bits mean nothing", bench.look(0x5123, WRITE), 0x6123);
        bench.core.level(true);
        Bench.due("at level 3", bench.look(0x5123, FETCH), 0x6123);
    }

    private static void wrongPlaces() {
        Bench bench = new Bench();
        for (int how = -1; how < 4; how++) {
            Bench.due("first wrong", bench.look(Bench.FIRST_WRONG, how), -1);
            Bench.due("last wrong", bench.look(Bench.UPPER_HALF - 1, how), -1);
        }
        Bench.due("last of the lower half", bench.look(Bench.FIRST_WRONG - 1, READ), -2);
        Bench.due("first of the upper half", bench.look(Bench.UPPER_HALF, READ), -2);
        Bench.due("the last place", bench.look(-1, READ), -2);
        Bench.due("bit 63 alone", bench.look(Long.MIN_VALUE, READ), -1);
        Bench.due("all but bit 63", bench.look(Long.MAX_VALUE, READ), -1);
        Bench.due("bit 62", bench.look(1L << 62, READ), -1);
        bench.core.level(true);
        Bench.due("wrong at level 3", bench.look(Bench.FIRST_WRONG, WRITE), -1);
    }

    private static void notThere() {
        for (int depth = 0; depth < 4; depth++) {
            Bench bench = new Bench();
            int entry = (int) TABLES[depth] + (depth == 3 ? 40 : 0);
            long old = bench.core.stored(entry);
            // Not being there comes before all that the entry's other bits would say.
            bench.store(entry, old & ~7L | 128 | NO_FETCH);
            Bench.due("not there, read", bench.look(0x5000, READ), -2);
            Bench.due("not there, write", bench.look(0x5000, WRITE), -4);
            Bench.due("not there, fetch", bench.look(0x5000, FETCH), -18);
            Bench.due("not there, how -1", bench.look(0x5000, -1), -2);
            bench.core.level(true);
            Bench.due("not there, read, 3", bench.look(0x5000, READ), -6);
            Bench.due("not there, write, 3", bench.look(0x5000, WRITE), -8);
            Bench.due("not there, fetch, 3", bench.look(0x5000, FETCH), -22);
        }
    }

    private static void forbidden() {
        for (int depth = 0; depth < 4; depth++) {
            Bench bench = new Bench();
            int entry = (int) TABLES[depth] + (depth == 3 ? 40 : 0);
            long old = bench.core.stored(entry);
            bench.core.level(false);
            bench.store(entry, old & ~2L);
            Bench.due("level 0 doesn't write it", bench.look(0x5008, WRITE), -5);
            Bench.due("level 0 reads it", bench.look(0x5008, READ), 0x5008);
            bench.store(entry, old & ~4L);
            Bench.due("level 0 may use all", bench.look(0x5008, WRITE), 0x5008);
            Bench.due("level 0 fetches all", bench.look(0x5008, FETCH), 0x5008);
            bench.core.level(true);
            Bench.due("level 3 may not read it", bench.look(0x5008, READ), -7);
            Bench.due("level 3 may not write it", bench.look(0x5008, WRITE), -9);
            Bench.due("level 3 may not fetch it", bench.look(0x5008, FETCH), -23);
            bench.store(entry, old & ~2L);
            Bench.due("level 3 doesn't write it", bench.look(0x5008, WRITE), -9);
            Bench.due("level 3 reads it", bench.look(0x5008, READ), 0x5008);
            bench.store(entry, old | NO_FETCH);
            Bench.due("level 3 doesn't fetch it", bench.look(0x5008, FETCH), -23);
            Bench.due("level 3 writes it", bench.look(0x5008, WRITE), 0x5008);
            bench.core.level(false);
            Bench.due("level 0 doesn't fetch it", bench.look(0x5008, FETCH), -19);
        }
        Bench bench = new Bench().store(0x1000, 0x2001).store(Bench.LAST_TABLE + 40, 0);
        bench.core.level(true);
        Bench.due("not there comes before forbidden", bench.look(0x5000, WRITE), -8);
    }

    private static void reserved() {
        for (int depth = 0; depth < 2; depth++) {
            Bench bench = new Bench();
            int entry = (int) TABLES[depth];
            bench.store(entry, bench.core.stored(entry) | 128);
            Bench.due("bit 7, read", bench.look(0x5000, READ), -11);
            Bench.due("bit 7, write", bench.look(0x5000, WRITE), -13);
            Bench.due("bit 7, fetch", bench.look(0x5000, FETCH), -27);
            bench.core.level(true);
            Bench.due("bit 7, fetch, 3", bench.look(0x5000, FETCH), -31);
            bench.store(entry, 1 | 128 | NO_FETCH);
            Bench.due("bit 7 comes before forbidden", bench.look(0x5000, WRITE), -17);
        }
        Bench bench = new Bench().store(0x1000, 0x2001 | 128).store(0x2000, 0);
        Bench.due("the first entry decides", bench.look(0x5000, READ), -11);
        bench.store(0x1000, 0x2007).store(0x2000, 0x3007).store(Bench.LAST_TABLE + 40, 0x5007 | 128);
        Bench.due("bit 7 of the last level", bench.look(0x5000, READ), 0x5000);
    }

    private static void largePages() {
        Bench bench = new Bench().store(0x3000, 7 | 128);
        Bench.due("a large page", bench.look(0x1FFFFF, WRITE), 0x1FFFFF);
        bench.store(0x3000, 0x000FFFFFFFE00007L | 128);
        Bench.due("the farthest large page", bench.look(0x12345, READ), 0x000FFFFFFFE12345L);
        bench.store(0x3000, 7 | 128 | 0x1000);
        Bench.due("bit 12 means nothing", bench.look(0x12345, READ), 0x12345);
        for (int bit = 13; bit <= 20; bit++) {
            bench.store(0x3000, 7 | 128 | 1L << bit);
            Bench.due("bit " + bit, bench.look(0x12345, READ), -11);
        }
        bench.store(0x3000, 7 | 128 | 1L << 21);
        Bench.due("bit 21", bench.look(0x12345, READ), 0x212345);
        bench.store(0x3000, 5 | 128 | NO_FETCH);
        Bench.due("a large page that may not be written", bench.look(0x12345, WRITE), -5);
        Bench.due("a large page that may not be fetched", bench.look(0x12345, FETCH), -19);
        bench.store(0x3000, 0x1FE087).store(0x3008, Bench.LAST_TABLE | 7);
        Bench.due("the next 2 MB", bench.look(0x205432, READ), 0x5432);
    }

    private static void beyondMemory() {
        Bench bench = new Bench().store(Bench.LAST_TABLE + 40, 0x000FFFFFFFFFF007L);
        Bench.due("beyond memory", bench.look(0x5ABC, WRITE), 0x000FFFFFFFFFFABCL);
        bench.store(Bench.LAST_TABLE + 40, 0x8007);
        Bench.due("just beyond memory", bench.look(0x5ABC, WRITE), 0x8ABC);
        bench.store(0x3000, 0x8007);
        Bench.due("a table beyond memory", bench.look(0x5ABC, READ), -2);
        Bench.due("the first entry beyond memory", bench.look(0x0ABC, READ), -2);
        bench.store(0x3000, 0x000FFFFFFFFFF007L);
        Bench.due("a table far beyond memory", bench.look(0x5ABC, READ), -2);
        bench.set(Bench.TABLE, -1L);
        Bench.due("TABLE far beyond memory", bench.look(0x5ABC, READ), -2);
    }

    private static void whichEntry() {
        Bench bench = new Bench();
        long[] indexes = {1, 255, 256, 511};
        for (long index : indexes) {
            long top = index << 39;
            long place = (index >= 256 ? top | 0xFFFF000000000000L : top) | 3L << 30 | 4L << 21 | 6L << 12 | 0xABC;
            bench.store((int) (0x1000 + 8 * index), 0x2007).store(0x2000 + 24, 0x3007);
            bench.store(0x3000 + 32, Bench.LAST_TABLE | 7);
            Bench.due("entry " + index, bench.look(place, READ), 0x6ABC);
            bench.store((int) (0x1000 + 8 * index), 0);
            Bench.due("no entry " + index, bench.look(place, READ), -2);
        }
    }

    private static void tableBits() {
        Bench bench = new Bench().set(Bench.TABLE, 0xFFF0000000001FFFL);
        Bench.due("TABLE's other bits mean nothing", bench.look(0x5004, READ), 0x5004);
        bench.has("TABLE", Bench.TABLE, 0xFFF0000000001FFFL);
    }

    private static void nothingChanges() {
        Bench bench = new Bench();
        bench.set(6, 0x9010).page("A4", 0x9010, 0);
        String before = bench.state();
        bench.core.level(true);
        bench.core.level(false);
        bench.look(0x9000, WRITE);
        bench.look(Bench.FIRST_WRONG, WRITE);
        Bench.due("look changes nothing", bench.state().equals(before) ? 1 : 0, 1);
        bench.has("FAULT stays", Bench.FAULT, 0x9010).has("the CODE stays", Bench.FAULT_CODE, 0);
    }
}
