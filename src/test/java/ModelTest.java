import java.util.ArrayList;
import java.util.List;
import java.util.function.LongSupplier;

/**
 * Promises 1 to 12 together: long mixed runs of calls, each answer held against a model that reads the
 * document's words in another way (wide arithmetic, lists, operands by meaning instead of by position).
 */
public final class ModelTest {
    private static final int OBJECTS = 3000;
    private static final int CALLS = 512;
    private static final int[] EDGES = {
        0, 1, -1, 2, 7, 8, 10, 11, 15, 16, 22, 23, 24, 25, 149, 150, 151, -16, Integer.MIN_VALUE, Integer.MAX_VALUE};

    // Fixed by the object's number, so that every run of this test makes the same calls.
    private static long seed;

    public static void main(String[] args) {
        for (int object = 0; object < OBJECTS; object++) {
            seed = object * 7919L + 13;
            compare(object, new TraceFrontEnd(), new Model());
        }
        Due.finish();
    }

    private static int below(int bound) {
        seed = seed * 6364136223846793005L + 1442695040888963407L;
        return (int) ((seed >>> 33) % bound);
    }

    /** Mostly inside 0 to bound - 1, sometimes an edge, in or out. */
    private static int near(int bound) {
        return below(12) == 0 ? EDGES[below(EDGES.length)] : below(bound);
    }

    private static int number() {
        return below(3) == 0 ? EDGES[below(EDGES.length)] : below(9) - 4;
    }

    private static void compare(int object, TraceFrontEnd t, Model m) {
        for (int call = 0; call < CALLS; call++) {
            int kind = below(100);
            if (kind < 25) {
                emit(object, t, m);
            } else if (kind < 45) {
                int n = below(4) == 0 ? EDGES[below(EDGES.length)] : below(12);
                same(object, "run(" + n + ")", () -> t.run(n), () -> m.run(n));
            } else if (kind < 53) {
                int i = near(24);
                int value = below(2) == 0 ? near(24) : number();
                same(object, "amend(" + i + ", " + value + ")", () -> t.amend(i, value), () -> m.amend(i, value));
            } else if (kind < 80) {
                look(object, t, m);
            } else if (kind < 92) {
                set(object, t, m);
            } else if (kind < 99 || below(3) != 0) {
                t.restart();
                m.restart();
            } else {
                t.clear();
                m.clear();
            }
        }
    }

    private static void emit(int object, TraceFrontEnd t, Model m) {
        int op = near(11);
        int x = op == TraceFrontEnd.JMP ? near(24) : near(8);
        int y = op == TraceFrontEnd.BZ || op == TraceFrontEnd.BN ? near(24) : near(8);
        int z = op >= TraceFrontEnd.ADDI && op <= TraceFrontEnd.STORE ? number() : near(8);
        String call = "emit(" + op + ", " + x + ", " + y + ", " + z + ")";
        same(object, call, () -> t.emit(op, x, y, z), () -> m.emit(op, x, y, z));
    }

    private static void look(int object, TraceFrontEnd t, Model m) {
        int r = near(8);
        int cell = near(16);
        switch (below(4)) {
            case 0 -> same(object, "register(" + r + ")", () -> t.register(r), () -> m.register(r));
            case 1 -> same(object, "memory(" + cell + ")", () -> t.memory(cell), () -> m.memory(cell));
            case 2 -> same(object, "place()", t::place, () -> m.pc);
            default -> same(object, "status()", t::status, () -> m.status);
        }
    }

    private static void set(int object, TraceFrontEnd t, Model m) {
        int value = number();
        if (below(2) == 0) {
            int r = near(8);
            String call = "setRegister(" + r + ", " + value + ")";
            same(object, call, () -> t.setRegister(r, value) ? 1 : 0, () -> Model.set(m.registers, r, value));
        } else {
            int cell = near(16);
            String call = "setMemory(" + cell + ", " + value + ")";
            same(object, call, () -> t.setMemory(cell, value) ? 1 : 0, () -> Model.set(m.memory, cell, value));
        }
    }

    private static void same(int object, String call, LongSupplier got, LongSupplier want) {
        Due.due("object " + object + ": " + call, got.getAsLong(), want.getAsLong());
    }

    /** An instruction by the meaning of its parts; a part that it does not have is 0. */
    private static final class Instruction {
        final String name;
        int target;
        int left;
        int right;
        long number;

        Instruction(String name) {
            this.name = name;
        }
    }

    private static final class Model {
        private static final String[] NAMES = {
            "ADD", "SUB", "XOR", "LESS", "ADDI", "LOAD", "STORE", "BZ", "BN", "JMP", "HALT"};

        final List<Instruction> program = new ArrayList<>();
        final List<Long> registers = new ArrayList<>();
        final List<Long> memory = new ArrayList<>();
        int pc;
        int status;

        Model() {
            clear();
        }

        void clear() {
            program.clear();
            registers.clear();
            memory.clear();
            for (int i = 0; i < 8; i++) {
                registers.add(0L);
            }
            for (int i = 0; i < 16; i++) {
                memory.add(0L);
            }
            restart();
        }

        void restart() {
            pc = 0;
            status = 0;
        }

        long register(int r) {
            return 0 <= r && r <= 7 ? registers.get(r) : 0;
        }

        long memory(int cell) {
            return 0 <= cell && cell <= 15 ? memory.get(cell) : 0;
        }

        static long set(List<Long> where, int i, int value) {
            if (i < 0 || i >= where.size()) {
                return 0;
            }
            where.set(i, (long) value);
            return 1;
        }

        private static boolean within(int last, int... values) {
            for (int v : values) {
                if (v < 0 || v > last) {
                    return false;
                }
            }
            return true;
        }

        long emit(int op, int x, int y, int z) {
            if (program.size() == 24) {
                return -2;
            }
            if (op < 0 || op > 10) {
                return -1;
            }
            Instruction made = new Instruction(NAMES[op]);
            boolean good = true;
            if (op <= 3) {
                good = within(7, x, y, z);
                made.target = x;
                made.left = y;
                made.right = z;
            } else if (op <= 6) {
                good = within(7, x, y);
                made.target = x;
                made.left = y;
                made.number = z;
            } else if (op <= 8) {
                good = within(7, x) && within(23, y);
                made.left = x;
                made.number = y;
            } else if (op == 9) {
                good = within(23, x);
                made.number = x;
            }
            if (!good) {
                return -1;
            }
            program.add(made);
            return program.size();
        }

        long amend(int i, int value) {
            if (i < 0 || i >= program.size()) {
                return -1;
            }
            Instruction it = program.get(i);
            boolean hasNumber = List.of("ADDI", "LOAD", "STORE").contains(it.name);
            boolean hasTarget = List.of("BZ", "BN", "JMP").contains(it.name);
            if (hasNumber || hasTarget && within(23, value)) {
                it.number = value;
                return i;
            }
            return -1;
        }

        long run(int n) {
            int turns = Math.max(0, Math.min(150, n));
            long executed = 0;
            while (turns-- > 0 && status == 0) {
                if (pc >= program.size()) {
                    status = 2;
                } else {
                    step(program.get(pc));
                    executed++;
                }
            }
            return executed;
        }

        private void step(Instruction it) {
            long left = registers.get(it.left);
            long right = registers.get(it.right);
            int cell = (int) Math.floorMod(left + it.number, 16L);
            boolean jumps = it.name.equals("JMP")
                || it.name.equals("BZ") && left == 0
                || it.name.equals("BN") && left < 0;
            switch (it.name) {
                case "ADD" -> write(it, left + right);
                case "SUB" -> write(it, left - right);
                case "XOR" -> write(it, left ^ right);
                case "LESS" -> write(it, left < right ? 1 : 0);
                case "ADDI" -> write(it, left + it.number);
                case "LOAD" -> write(it, memory.get(cell));
                case "STORE" -> memory.set(cell, registers.get(it.target));
                case "HALT" -> status = 1;
                default -> { }
            }
            if (jumps) {
                pc = (int) it.number;
            } else if (status == 0) {
                pc++;
            }
        }

        private void write(Instruction it, long value) {
            registers.set(it.target, (long) (int) value);
        }
    }
}
