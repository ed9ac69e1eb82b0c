/** Promise 5: run, with the table of instructions. */
public final class RunTest {
    private static final int MIN = Integer.MIN_VALUE;
    private static final int MAX = Integer.MAX_VALUE;

    public static void main(String[] args) {
        arithmetic();
        targetsAmongSources();
        everyRegister();
        addNumber();
        addNumberWraps();
        everyCell();
        loads();
        stores();
        branches();
        branchesAtTheLastPlace();
        jumps();
        halts();
        haltsAtEachPlace();
        countIsClamped();
        haltsInTheLastTurn();
        runsOutInTheLastTurn();
        runsOutOfAnEmptyProgram();
        runsOut();
        runsOutAtEachTarget();
        stoppedAlready();
        goesOnWhereItStood();
        unusedOperandsPlayNoPart();
        Due.finish();
    }

    /** One instruction, on a marked machine with y in register 2 and z in register 3, result in register 1. */
    private static void gives(int op, int y, int z, int want) {
        TraceFrontEnd t = new TraceFrontEnd();
        t.emit(op, 1, 2, 3);
        Due.mark(t);
        t.setRegister(2, y);
        t.setRegister(3, z);
        String call = "op " + op + " of " + y + " and " + z;
        Due.due(call + ": run(1)", t.run(1), 1);
        Due.registersAre(call, t, 100, want, y, z, 104, 105, 106, 107);
        Due.stands(call, t, 1, TraceFrontEnd.RUNNING);
        t.setRegister(1, 101);
        t.setRegister(2, 102);
        t.setRegister(3, 103);
        Due.stillMarked(call, t);
    }

    private static void arithmetic() {
        int[] values = {0, 1, -1, 2, -7, 15, 16, 1000, MIN, MIN + 1, MAX, MAX - 1};
        for (int y : values) {
            for (int z : values) {
                gives(TraceFrontEnd.ADD, y, z, (int) ((long) y + z));
                gives(TraceFrontEnd.SUB, y, z, (int) ((long) y - z));
                gives(TraceFrontEnd.XOR, y, z, (y & ~z) | (~y & z));
                gives(TraceFrontEnd.LESS, y, z, Integer.compare(y, z) < 0 ? 1 : 0);
            }
        }
        gives(TraceFrontEnd.ADD, MAX, 1, MIN);
        gives(TraceFrontEnd.SUB, MIN, 1, MAX);
        gives(TraceFrontEnd.LESS, MIN, MAX, 1);
        gives(TraceFrontEnd.LESS, 3, 3, 0);
    }

    private static void targetsAmongSources() {
        for (int op = TraceFrontEnd.ADD; op <= TraceFrontEnd.LESS; op++) {
            int[] want = {5 + 3, 5 - 3, 5 ^ 3, 0};
            int[] wantTwice = {5 + 5, 0, 0, 0};
            Due.due("op " + op + " into y", inPlace(op, 1, 1, 2), want[op]);
            Due.due("op " + op + " into z", inPlace(op, 2, 1, 2), want[op]);
            Due.due("op " + op + " into both", inPlace(op, 1, 1, 1), wantTwice[op]);
        }
    }

    private static int inPlace(int op, int x, int y, int z) {
        TraceFrontEnd t = new TraceFrontEnd();
        t.emit(op, x, y, z);
        t.setRegister(1, 5);
        t.setRegister(2, 3);
        t.run(1);
        return t.register(x);
    }

    /** Each register in each operand's part, on a marked machine. */
    private static void everyRegister() {
        for (int x = 0; x < 8; x++) {
            for (int y = 0; y < 8; y++) {
                for (int z = 0; z < 8; z++) {
                    leaves(TraceFrontEnd.ADD, x, y, z, 200 + y + z);
                    leaves(TraceFrontEnd.SUB, x, y, z, y - z);
                    leaves(TraceFrontEnd.XOR, x, y, z, 100 + y ^ 100 + z);
                    leaves(TraceFrontEnd.LESS, x, y, z, y < z ? 1 : 0);
                }
                leaves(TraceFrontEnd.ADDI, x, y, 1000, 1100 + y);
            }
        }
    }

    private static void leaves(int op, int x, int y, int z, int want) {
        TraceFrontEnd t = new TraceFrontEnd();
        t.emit(op, x, y, z);
        Due.mark(t);
        t.run(1);
        String call = "op " + op + ", " + x + ", " + y + ", " + z;
        Due.due(call + ": register(" + x + ")", t.register(x), want);
        t.setRegister(x, 100 + x);
        Due.stillMarked(call, t);
    }

    private static void addNumber() {
        for (int n : new int[] {0, 1, -1, 7, 8, 100, MIN, MAX}) {
            TraceFrontEnd t = new TraceFrontEnd();
            t.emit(TraceFrontEnd.ADDI, 1, 2, n);
            t.emit(TraceFrontEnd.ADDI, 7, 7, n);
            Due.mark(t);
            Due.due("ADDI " + n + ": run(2)", t.run(2), 2);
            Due.registersAre("ADDI " + n, t, 100, 102 + n, 102, 103, 104, 105, 106, 107 + n);
        }
    }

    private static void addNumberWraps() {
        int[][] sums = {{MAX, 1, MIN}, {MIN, -1, MAX}, {MAX, MAX, -2}, {MIN, MIN, 0}, {-1, MIN, MAX}, {1, MAX, MIN}};
        for (int[] s : sums) {
            TraceFrontEnd t = new TraceFrontEnd();
            t.emit(TraceFrontEnd.ADDI, 1, 2, s[1]);
            t.setRegister(2, s[0]);
            t.run(1);
            Due.due("ADDI of " + s[0] + " and " + s[1], t.register(1), s[2]);
        }
    }

    /** Each cell by the number n and by register y, through each register. */
    private static void everyCell() {
        for (int cell = 0; cell < 16; cell++) {
            for (int r = 0; r < 8; r++) {
                loadsAndStores(cell, r, 0, cell);
                loadsAndStores(cell, r, cell, 0);
                loadsAndStores(cell, r, cell + 16, -32);
            }
        }
    }

    private static void loadsAndStores(int cell, int r, int y, int n) {
        int other = (r + 1) % 8;
        TraceFrontEnd t = new TraceFrontEnd();
        t.emit(TraceFrontEnd.LOAD, other, r, n);
        t.emit(TraceFrontEnd.ADDI, other, other, 1000);
        t.emit(TraceFrontEnd.STORE, other, r, n);
        Due.mark(t);
        t.setRegister(r, y);
        t.run(3);
        String call = "register " + r + " = " + y + ", n = " + n;
        Due.due(call + ": register(" + other + ")", t.register(other), 1200 + cell);
        Due.due(call + ": memory(" + cell + ")", t.memory(cell), 1200 + cell);
        t.setRegister(r, 100 + r);
        t.setRegister(other, 100 + other);
        t.setMemory(cell, 200 + cell);
        Due.stillMarked(call, t);
    }

    /** Register y, n, and the cell that they name. */
    private static final int[][] ADDRESSES = {
        {0, 0, 0}, {0, 15, 15}, {0, 16, 0}, {0, -1, 15}, {15, 1, 0}, {-1, 0, 15}, {-16, 3, 3}, {-17, 0, 15},
        {MAX, 1, 0}, {MAX, 0, 15}, {MIN, 0, 0}, {MIN, -1, 15}, {MAX, MAX, 14}, {5, 6, 11}, {3, -5, 14}};

    private static void loads() {
        for (int[] a : ADDRESSES) {
            TraceFrontEnd t = new TraceFrontEnd();
            t.emit(TraceFrontEnd.LOAD, 1, 2, a[1]);
            Due.mark(t);
            t.setRegister(2, a[0]);
            String call = "LOAD from " + a[0] + " + " + a[1];
            Due.due(call + ": run(1)", t.run(1), 1);
            Due.registersAre(call, t, 100, 200 + a[2], a[0], 103, 104, 105, 106, 107);
            t.setRegister(1, 101);
            t.setRegister(2, 102);
            Due.stillMarked(call, t);
        }
        TraceFrontEnd t = new TraceFrontEnd();
        t.emit(TraceFrontEnd.LOAD, 4, 4, 2);
        Due.mark(t);
        t.setRegister(4, 6);
        t.run(1);
        Due.due("LOAD into its own y", t.register(4), 208);
        Due.stands("LOAD into its own y", t, 1, TraceFrontEnd.RUNNING);
        t.setRegister(4, 104);
        Due.stillMarked("LOAD into its own y", t);
    }

    private static void stores() {
        for (int[] a : ADDRESSES) {
            TraceFrontEnd t = new TraceFrontEnd();
            t.emit(TraceFrontEnd.STORE, 1, 2, a[1]);
            Due.mark(t);
            t.setRegister(2, a[0]);
            String call = "STORE to " + a[0] + " + " + a[1];
            Due.due(call + ": run(1)", t.run(1), 1);
            Due.due(call + ": memory(" + a[2] + ")", t.memory(a[2]), 101);
            t.setMemory(a[2], 200 + a[2]);
            Due.due(call + ": register(2)", t.register(2), a[0]);
            t.setRegister(2, 102);
            Due.stillMarked(call, t);
        }
        TraceFrontEnd t = new TraceFrontEnd();
        t.emit(TraceFrontEnd.STORE, 4, 4, 2);
        t.setRegister(4, 6);
        t.run(1);
        Due.due("STORE of its own y", t.memory(8), 6);

        // The values that a branch would look at move the place in no other instruction.
        for (int value : new int[] {0, -1}) {
            t = new TraceFrontEnd();
            t.emit(TraceFrontEnd.STORE, 1, 5, 0);
            t.emit(TraceFrontEnd.LOAD, 2, 5, 0);
            t.emit(TraceFrontEnd.ADDI, 3, 5, value);
            t.setRegister(1, value);
            for (int i = 1; i <= 3; i++) {
                t.run(1);
                Due.stands("step " + i + " with " + value, t, i, TraceFrontEnd.RUNNING);
            }
        }
    }

    private static void branches() {
        for (int value : new int[] {0, 1, -1, 5, -5, MIN, MAX}) {
            branchesTo(TraceFrontEnd.BZ, value, value == 0);
            branchesTo(TraceFrontEnd.BN, value, value < 0);
        }
    }

    private static void branchesTo(int op, int value, boolean taken) {
        for (int target = 0; target < 24; target++) {
            TraceFrontEnd t = new TraceFrontEnd();
            t.emit(op, 5, target, 0);
            Due.mark(t);
            t.setRegister(5, value);
            String call = "op " + op + " to " + target + " on " + value;
            Due.due(call + ": run(1)", t.run(1), 1);
            Due.stands(call, t, taken ? target : 1, TraceFrontEnd.RUNNING);
            Due.due(call + ": register(5)", t.register(5), value);
            t.setRegister(5, 105);
            Due.stillMarked(call, t);
        }
    }

    private static TraceFrontEnd atTheLastPlace(int op, int x, int y) {
        TraceFrontEnd t = new TraceFrontEnd();
        t.emit(TraceFrontEnd.JMP, 23, 0, 0);
        for (int i = 1; i < 23; i++) {
            t.emit(TraceFrontEnd.ADDI, 1, 1, 1);
        }
        t.emit(op, x, y, 0);
        Due.due("to the last place: run(1)", t.run(1), 1);
        return t;
    }

    private static void branchesAtTheLastPlace() {
        for (int op = TraceFrontEnd.BZ; op <= TraceFrontEnd.BN; op++) {
            TraceFrontEnd t = atTheLastPlace(op, 3, 0);
            t.setRegister(3, 1);
            Due.due("op " + op + " at 23, not taken: run(1)", t.run(1), 1);
            Due.stands("op " + op + " at 23, not taken", t, 24, TraceFrontEnd.RUNNING);
            Due.due("op " + op + " at 23, not taken: run(1) again", t.run(1), 0);
            Due.stands("op " + op + " at 23, not taken, run again", t, 24, TraceFrontEnd.OUT);

            t = atTheLastPlace(op, 3, 0);
            t.setRegister(3, op == TraceFrontEnd.BZ ? 0 : -1);
            Due.due("op " + op + " at 23, taken: run(1)", t.run(1), 1);
            Due.stands("op " + op + " at 23, taken", t, 0, TraceFrontEnd.RUNNING);
        }
    }

    private static void jumps() {
        for (int target = 0; target < 24; target++) {
            TraceFrontEnd t = new TraceFrontEnd();
            t.emit(TraceFrontEnd.JMP, target, 0, 0);
            Due.mark(t);
            Due.due("JMP " + target + ": run(1)", t.run(1), 1);
            Due.stands("JMP " + target, t, target, TraceFrontEnd.RUNNING);
            Due.stillMarked("JMP " + target, t);
        }
    }

    private static void halts() {
        TraceFrontEnd t = new TraceFrontEnd();
        t.emit(TraceFrontEnd.JMP, 2, 0, 0);
        t.emit(TraceFrontEnd.ADDI, 0, 0, 1);
        t.emit(TraceFrontEnd.HALT, 0, 0, 0);
        t.emit(TraceFrontEnd.ADDI, 0, 0, 1);
        Due.mark(t);
        Due.due("HALT counts: run(150)", t.run(150), 2);
        Due.stands("HALT", t, 2, TraceFrontEnd.HALTED);
        Due.due("halted: run(150)", t.run(150), 0);
        Due.stands("halted, run", t, 2, TraceFrontEnd.HALTED);
        Due.stillMarked("HALT", t);
    }

    private static void haltsAtEachPlace() {
        for (int place = 0; place < 24; place++) {
            TraceFrontEnd t = new TraceFrontEnd();
            for (int i = 0; i < place; i++) {
                t.emit(TraceFrontEnd.ADDI, 1, 1, 1);
            }
            t.emit(TraceFrontEnd.HALT, 0, 0, 0);
            Due.due("HALT at " + place + ": run(150)", t.run(150), place + 1);
            Due.stands("HALT at " + place, t, place, TraceFrontEnd.HALTED);
        }
    }

    private static void countIsClamped() {
        int[][] wanted = {{MIN, 0}, {-1, 0}, {0, 0}, {1, 1}, {2, 2}, {149, 149}, {150, 150}, {151, 150}, {MAX, 150}};
        for (int[] w : wanted) {
            TraceFrontEnd t = new TraceFrontEnd();
            t.emit(TraceFrontEnd.ADDI, 1, 1, 1);
            t.emit(TraceFrontEnd.JMP, 0, 0, 0);
            Due.due("run(" + w[0] + ")", t.run(w[0]), w[1]);
            Due.due("run(" + w[0] + "): register(1)", t.register(1), (w[1] + 1) / 2);
            Due.stands("run(" + w[0] + ")", t, w[1] % 2, TraceFrontEnd.RUNNING);
        }
    }

    /** Executes before + 149 instructions, the last of which goes to the number after this program's last. */
    private static TraceFrontEnd countdown(int before) {
        TraceFrontEnd t = new TraceFrontEnd();
        for (int i = 0; i < before; i++) {
            t.emit(TraceFrontEnd.ADDI, 2, 2, 1);
        }
        t.emit(TraceFrontEnd.ADDI, 1, 1, -1);
        t.emit(TraceFrontEnd.BZ, 1, before + 3, 0);
        t.emit(TraceFrontEnd.JMP, before, 0, 0);
        t.setRegister(1, 50);
        return t;
    }

    private static void haltsInTheLastTurn() {
        for (int n : new int[] {150, 151, MAX}) {
            TraceFrontEnd t = countdown(0);
            t.emit(TraceFrontEnd.HALT, 0, 0, 0);
            Due.due("HALT is the 150th: run(" + n + ")", t.run(n), 150);
            Due.stands("HALT is the 150th", t, 3, TraceFrontEnd.HALTED);

            t = countdown(1);
            t.emit(TraceFrontEnd.HALT, 0, 0, 0);
            Due.due("HALT is the 151st: run(" + n + ")", t.run(n), 150);
            Due.stands("HALT is the 151st", t, 4, TraceFrontEnd.RUNNING);
            Due.due("HALT is next: run(" + n + ")", t.run(n), 1);
            Due.stands("HALT was next", t, 4, TraceFrontEnd.HALTED);
        }
    }

    // Finding no instruction takes one of the turns, though it does not count as an instruction.
    private static void runsOutInTheLastTurn() {
        for (int n : new int[] {150, 151, MAX}) {
            TraceFrontEnd t = countdown(0);
            Due.due("out in the 150th turn: run(" + n + ")", t.run(n), 149);
            Due.stands("out in the 150th turn", t, 3, TraceFrontEnd.OUT);

            t = countdown(1);
            Due.due("out in the 151st turn: run(" + n + ")", t.run(n), 150);
            Due.stands("out in the 151st turn", t, 4, TraceFrontEnd.RUNNING);
            Due.due("out in the next turn: run(" + n + ")", t.run(n), 0);
            Due.stands("out in the next turn", t, 4, TraceFrontEnd.OUT);
        }
    }

    private static void runsOutOfAnEmptyProgram() {
        for (int n : new int[] {MIN, -1, 0, 1, 2, 149, 150, 151, MAX}) {
            TraceFrontEnd t = new TraceFrontEnd();
            Due.mark(t);
            Due.due("empty: run(" + n + ")", t.run(n), 0);
            Due.stands("empty: run(" + n + ")", t, 0, n > 0 ? TraceFrontEnd.OUT : TraceFrontEnd.RUNNING);
            Due.stillMarked("empty: run(" + n + ")", t);
        }
    }

    private static void runsOut() {
        TraceFrontEnd t = new TraceFrontEnd();
        t.emit(TraceFrontEnd.ADDI, 1, 1, 1);
        t.emit(TraceFrontEnd.ADDI, 1, 1, 1);
        Due.due("two instructions: run(2)", t.run(2), 2);
        Due.stands("two instructions: run(2)", t, 2, TraceFrontEnd.RUNNING);
        for (int n : new int[] {MIN, -1, 0}) {
            Due.due("two instructions, then run(" + n + ")", t.run(n), 0);
            Due.stands("two instructions, then run(" + n + ")", t, 2, TraceFrontEnd.RUNNING);
        }
        Due.due("two instructions, then run(1)", t.run(1), 0);
        Due.stands("two instructions, then run(1)", t, 2, TraceFrontEnd.OUT);

        t.restart();
        Due.due("two instructions: run(3)", t.run(3), 2);
        Due.stands("two instructions: run(3)", t, 2, TraceFrontEnd.OUT);
    }

    private static void runsOutAtEachTarget() {
        for (int target = 1; target < 24; target++) {
            TraceFrontEnd t = new TraceFrontEnd();
            t.emit(TraceFrontEnd.JMP, target, 0, 0);
            Due.due("JMP " + target + " alone: run(150)", t.run(150), 1);
            Due.stands("JMP " + target + " alone", t, target, TraceFrontEnd.OUT);
        }
    }

    private static void stoppedAlready() {
        for (int status : new int[] {TraceFrontEnd.HALTED, TraceFrontEnd.OUT}) {
            TraceFrontEnd t = Due.markedIn(status);
            for (int n : new int[] {MIN, -1, 0, 1, 149, 150, 151, MAX}) {
                Due.due("run(" + n + ") in status " + status, t.run(n), 0);
                Due.stands("run(" + n + ") in status " + status, t, Due.placeIn(status), status);
            }
            Due.stillMarkedIn(status, "run", t);
        }
    }

    private static void goesOnWhereItStood() {
        TraceFrontEnd t = new TraceFrontEnd();
        t.emit(TraceFrontEnd.ADDI, 1, 1, 1);
        t.run(1);
        t.emit(TraceFrontEnd.ADDI, 1, 1, 10);
        Due.due("emitted at pc: run(1)", t.run(1), 1);
        Due.due("emitted at pc: register(1)", t.register(1), 11);
        Due.stands("emitted at pc", t, 2, TraceFrontEnd.RUNNING);

        // What was executed before must be read anew once it is amended or its sources are set.
        t = new TraceFrontEnd();
        t.emit(TraceFrontEnd.ADDI, 1, 1, 1);
        t.emit(TraceFrontEnd.LOAD, 2, 3, 4);
        t.emit(TraceFrontEnd.JMP, 0, 0, 0);
        t.run(90);
        t.amend(0, 1000);
        t.setRegister(3, 1);
        t.setMemory(5, 77);
        t.run(2);
        Due.due("amended in a loop: register(1)", t.register(1), 1030);
        Due.due("set in a loop: register(2)", t.register(2), 77);
    }

    private static void unusedOperandsPlayNoPart() {
        for (int unused : new int[] {-1, 3, 8, 24, MIN, MAX}) {
            TraceFrontEnd t = new TraceFrontEnd();
            t.emit(TraceFrontEnd.BZ, 1, 2, unused);
            t.emit(TraceFrontEnd.HALT, unused, unused, unused);
            t.emit(TraceFrontEnd.JMP, 3, unused, unused);
            t.emit(TraceFrontEnd.BN, 2, 1, unused);
            Due.mark(t);
            t.setRegister(1, 0);
            t.setRegister(2, -1);
            Due.due("unused " + unused + ": run(150)", t.run(150), 4);
            Due.stands("unused " + unused, t, 1, TraceFrontEnd.HALTED);
            t.setRegister(1, 101);
            t.setRegister(2, 102);
            Due.stillMarked("unused " + unused, t);
        }
    }
}
