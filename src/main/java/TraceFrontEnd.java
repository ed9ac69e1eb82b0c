/**
 * A speculative processor with a trace cache, seen from outside.
 *
 * From outside only the plain reading of the program can be seen, and the document leaves the inside
 * free, so instructions are read one by one: there is no speculation that could leave a trace.
 */
public final class TraceFrontEnd {
    public static final int ADD = 0;
    public static final int SUB = 1;
    public static final int XOR = 2;
    public static final int LESS = 3;
    public static final int ADDI = 4;
    public static final int LOAD = 5;
    public static final int STORE = 6;
    public static final int BZ = 7;
    public static final int BN = 8;
    public static final int JMP = 9;
    public static final int HALT = 10;
    public static final int RUNNING = 0;
    public static final int HALTED = 1;
    public static final int OUT = 2;
    public static final int BAD = -1;
    public static final int FULL = -2;

    private static final int REGISTERS = 8;
    private static final int CELLS = 16;
    private static final int CAPACITY = 24;
    private static final int LONGEST_RUN = 150;

    private final int[] registers = new int[REGISTERS];
    private final int[] cells = new int[CELLS];

    // Operands are kept as they were given. One that its instruction does not have was never tested,
    // so it must not be used as an index.
    private final int[] ops = new int[CAPACITY];
    private final int[] xs = new int[CAPACITY];
    private final int[] ys = new int[CAPACITY];
    private final int[] zs = new int[CAPACITY];
    private int length;

    private int pc;
    private int state;

    public TraceFrontEnd() {
        length = 0;
        pc = 0;
        state = RUNNING;
    }

    public int emit(int op, int x, int y, int z) {
        if (length >= CAPACITY) {
            return FULL;
        }
        if (!isWellFormed(op, x, y, z)) {
            return BAD;
        }
        ops[length] = op;
        xs[length] = x;
        ys[length] = y;
        zs[length] = z;
        length = length + 1;
        return length;
    }

    public int amend(int i, int value) {
        if (!isInstruction(i)) {
            return BAD;
        }
        switch (ops[i]) {
            case ADDI:
            case LOAD:
            case STORE:
                zs[i] = value;
                return i;
            case BZ:
            case BN:
                if (!isTarget(value)) {
                    return BAD;
                }
                ys[i] = value;
                return i;
            case JMP:
                if (!isTarget(value)) {
                    return BAD;
                }
                xs[i] = value;
                return i;
            default:
                return BAD;
        }
    }

    public void restart() {
        pc = 0;
        state = RUNNING;
    }

    public int run(int n) {
        int most = n > LONGEST_RUN ? LONGEST_RUN : n;
        int executed = 0;
        for (int turn = 0; turn < most && state == RUNNING; turn++) {
            if (isInstruction(pc)) {
                execute(pc);
                executed = executed + 1;
            } else {
                state = OUT;
            }
        }
        return executed;
    }

    public int register(int r) {
        return isRegister(r) ? registers[r] : 0;
    }

    public boolean setRegister(int r, int value) {
        if (!isRegister(r)) {
            return false;
        }
        registers[r] = value;
        return true;
    }

    public int memory(int cell) {
        return isCell(cell) ? cells[cell] : 0;
    }

    public boolean setMemory(int cell, int value) {
        if (!isCell(cell)) {
            return false;
        }
        cells[cell] = value;
        return true;
    }

    public int place() {
        return pc;
    }

    public int status() {
        return state;
    }

    public void clear() {
        for (int r = 0; r < REGISTERS; r++) {
            registers[r] = 0;
        }
        for (int cell = 0; cell < CELLS; cell++) {
            cells[cell] = 0;
        }
        // What stands in the program's arrays past its length is written anew before it is read.
        length = 0;
        pc = 0;
        state = RUNNING;
    }

    private static boolean isRegister(int r) {
        return r >= 0 && r < REGISTERS;
    }

    private static boolean isCell(int cell) {
        return cell >= 0 && cell < CELLS;
    }

    // A target may lie past the program's end: the instruction there may be emitted later.
    private static boolean isTarget(int t) {
        return t >= 0 && t < CAPACITY;
    }

    private boolean isInstruction(int i) {
        return i >= 0 && i < length;
    }

    private static boolean isWellFormed(int op, int x, int y, int z) {
        switch (op) {
            case ADD:
            case SUB:
            case XOR:
            case LESS:
                return isRegister(x) && isRegister(y) && isRegister(z);
            case ADDI:
            case LOAD:
            case STORE:
                return isRegister(x) && isRegister(y);
            case BZ:
            case BN:
                return isRegister(x) && isTarget(y);
            case JMP:
                return isTarget(x);
            case HALT:
                return true;
            default:
                return false;
        }
    }

    private void execute(int i) {
        int x = xs[i];
        int y = ys[i];
        int z = zs[i];
        int next = i + 1;
        switch (ops[i]) {
            case ADD:
                registers[x] = registers[y] + registers[z];
                break;
            case SUB:
                registers[x] = registers[y] - registers[z];
                break;
            case XOR:
                registers[x] = registers[y] ^ registers[z];
                break;
            case LESS:
                registers[x] = registers[y] < registers[z] ? 1 : 0;
                break;
            case ADDI:
                registers[x] = registers[y] + z;
                break;
            case LOAD:
                registers[x] = cells[(registers[y] + z) & (CELLS - 1)];
                break;
            case STORE:
                cells[(registers[y] + z) & (CELLS - 1)] = registers[x];
                break;
            case BZ:
                next = registers[x] == 0 ? y : next;
                break;
            case BN:
                next = registers[x] < 0 ? y : next;
                break;
            case JMP:
                next = x;
                break;
            default:
                state = HALTED;
                next = i;
                break;
        }
        pc = next;
    }
}
