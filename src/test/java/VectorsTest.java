import java.io.IOException;
import java.nio.file.Files;
import java.nio.file.Path;
import java.util.List;

/**
 * Promise 7: single steps as a real processor did them, from src/test/resources/vectors.txt.
 *
 * <p>A line: seed of memory, NEXT, flags, bytes, 16 registers; then the trap (1 for none), NEXT,
 * flags, FAULT, CODE, and what was changed: registers as r5=value, memory as offset:value; all but
 * the trap in base 16. There are four pages from place 40000000 on. Where the document says
 * something else than that processor did, there is no line.
 */
final class VectorsTest {
    private static final long PLACE = 0x40000000L;
    private static final int MEMORY = 0x4000;

    public static void main(String[] args) throws IOException {
        List<String> lines = Files.readAllLines(Path.of("src/test/resources/vectors.txt"));
        for (String line : lines) {
            vector(line.split(" "));
        }
        Bench.due("there are vectors", lines.size() > 1000 ? 1 : 0, 1);
        Bench.finish("VectorsTest");
    }

    private static long number(String text) {
        return Long.parseUnsignedLong(text, 16);
    }

    private static void put(LongModeCore core, int place, long value) {
        core.store(place, (int) value, (int) (value >>> 32));
    }

    private static LongModeCore made(String[] fields, int undefined) {
        LongModeCore core = new LongModeCore();
        put(core, 0, 0x1007);
        put(core, 0x1008, 0x2007);
        put(core, 0x2000, 0x3007);
        for (int i = 0; i < 4; i++) {
            put(core, 0x3000 + 8 * i, MEMORY + 0x1000 * i | 7);
        }
        long state = number(fields[0]) | 1;
        for (int i = 0; i < MEMORY; i += 8) {
            state ^= state << 13;
            state ^= state >>> 7;
            state ^= state << 17;
            put(core, MEMORY + i, state >>> 60 < 4 ? PLACE + (state & 0x3FFF) : state);
        }
        long next = number(fields[1]);
        for (int i = 0; i < fields[3].length() / 2; i++) {
            int place = (int) (next - PLACE) + MEMORY + i;
            int from = place & ~7;
            int shift = 8 * (place & 7);
            put(core, from, core.stored(from) & ~(255L << shift) | number(fields[3].substring(2 * i, 2 * i + 2)) << shift);
        }
        core.set(16, (int) (next >>> 32), (int) next);
        core.set(20, 0, (int) number(fields[2]));
        core.set(21, undefined, undefined);
        core.level(true);
        for (int i = 0; i < 16; i++) {
            long value = number(fields[4 + i]);
            core.set(i, (int) (value >>> 32), (int) value);
        }
        return core;
    }

    private static void vector(String[] fields) {
        LongModeCore zeros = made(fields, 0);
        LongModeCore ones = made(fields, -1);
        long[] memory = new long[MEMORY / 8];
        for (int i = 0; i < memory.length; i++) {
            memory[i] = zeros.stored(MEMORY + 8 * i);
        }
        long[] registers = new long[16];
        for (int i = 0; i < 16; i++) {
            registers[i] = number(fields[4 + i]);
        }
        for (int i = 25; i < fields.length; i++) {
            String[] parts = fields[i].split("[=:]");
            if (fields[i].startsWith("r")) {
                registers[Integer.parseInt(parts[0].substring(1), 16)] = number(parts[1]);
            } else {
                memory[(int) number(parts[0]) / 8] = number(parts[1]);
            }
        }
        int trap = Integer.parseInt(fields[20]);
        String what = "vector " + fields[3];
        Bench.due(what, zeros.step(), trap == 1 ? Bench.NONE : trap);
        ones.step();
        long open = zeros.get(20) ^ ones.get(20);
        Bench.due(what + " flags", zeros.get(20) & ~open, number(fields[22]) & ~open);
        Bench.due(what + " NEXT", zeros.get(16), number(fields[21]));
        Bench.due(what + " FAULT", zeros.get(22), number(fields[23]));
        Bench.due(what + " CODE", zeros.get(23), number(fields[24]));
        for (int i = 0; i < 16; i++) {
            Bench.due(what + " register " + i, zeros.get(i), registers[i]);
        }
        for (int i = 0; i < memory.length; i++) {
            Bench.due(what + " memory", zeros.stored(MEMORY + 8 * i), memory[i]);
        }
    }
}
