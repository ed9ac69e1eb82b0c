/** Promise 5: run, with the table of instructions. */
public final class RunTest {
    private static final int MIN = Integer.MIN_VALUE;
    private static final int MAX = Integer.MAX_VALUE;

    public static void main(String[] args) {
        arithmetic();
        targetsAmongSources();
        addNumber();
        loads();
        stores();
        branches();
        jumps();
        halts();
        countIsClamped();
        runsOut();
        goesOnWhereItStood();
        unusedOperandsPlayNoPart();
        Due.finish();
    }

    /** One instruction, on a marked machine with y in register 2 and z in register 3, result in register 1. */
    private static void gives(int op, int y, int z, int want) {
        TraceFrontEnd t = new TraceFrontEnd();
        t.emit(op, 1, 2, 3);
        Due.mark(t);
        t.setRegister(2, y);
        t.setRegister(3, z);
        String call = "op " + op + " of " + y + " and " + z;
        Due.due(call + ": run(1)", t.run(1), 1);
        Due.registersAre(call, t, 100, want, y, z, 104, 105, 106, 107);
        Due.stands(call, t, 1, TraceFrontEnd.RUNNING);
        t.setRegister(1, 101);
        t.setRegister(2, 102);
        t.setRegister(3, 103);
        Due.stillMarked(call, t);
    }

    private static void arithmetic() {
        int[] values = {0, 1, -1, 2, -7, 15, 16, 1000, MIN, MIN + 1, MAX, MAX - 1};
        for (int y : values) {
            for (int z : values) {
                gives(TraceFrontEnd.ADD, y, z, (int) ((long) y + z));
                gives(TraceFrontEnd.SUB, y, z, (int) ((long) y - z));
                gives(TraceFrontEnd.XOR, y, z, (y & ~z) | (~y & z));
                gives(TraceFrontEnd.LESS, y, z, Integer.compare(y, z) < 0 ? 1 : 0);
            }
        }
        gives(TraceFrontEnd.ADD, MAX, 1, MIN);
        gives(TraceFrontEnd.SUB, MIN, 1, MAX);
        gives(TraceFrontEnd.LESS, MIN, MAX, 1);
        gives(TraceFrontEnd.LESS, 3, 3, 0);
    }

    private static void targetsAmongSources() {
        for (int op = TraceFrontEnd.ADD; op <= TraceFrontEnd.LESS; op++) {
            int[] want = {5 + 3, 5 - 3, 5 ^ 3, 0};
            int[] wantTwice = {5 + 5, 0, 0, 0};
            Due.due("op " + op + " into y", inPlace(op, 1, 1, 2), want[op]);
            Due.due("op " + op + " into z", inPlace(op, 2, 1, 2), want[op]);
            Due.due("op " + op + " into both", inPlace(op, 1, 1, 1), wantTwice[op]);
        }
    }

    private static int inPlace(int op, int x, int y, int z) {
        TraceFrontEnd t = new TraceFrontEnd();
        t.emit(op, x, y, z);
        t.setRegister(1, 5);
        t.setRegister(2, 3);
        t.run(1);
        return t.register(x);
    }

    private static void addNumber() {
        for (int n : new int[] {0, 1, -1, 7, 8, 100, MIN, MAX}) {
            TraceFrontEnd t = new TraceFrontEnd();
            t.emit(TraceFrontEnd.ADDI, 1, 2, n);
            t.emit(TraceFrontEnd.ADDI, 7, 7, n);
            Due.mark(t);
            Due.due("ADDI " + n + ": run(2)", t.run(2), 2);
            Due.registersAre("ADDI " + n, t, 100, 102 + n, 102, 103, 104, 105, 106, 107 + n);
        }
    }

    /** Register y, n, and the cell that they name. */
    private static final int[][] ADDRESSES = {
        {0, 0, 0}, {0, 15, 15}, {0, 16, 0}, {0, -1, 15}, {15, 1, 0}, {-1, 0, 15}, {-16, 3, 3}, {-17, 0, 15},
        {MAX, 1, 0}, {MAX, 0, 15}, {MIN, 0, 0}, {MIN, -1, 15}, {MAX, MAX, 14}, {5, 6, 11}, {3, -5, 14}};

    private static void loads() {
        for (int[] a : ADDRESSES) {
            TraceFrontEnd t = new TraceFrontEnd();
            t.emit(TraceFrontEnd.LOAD, 1, 2, a[1]);
            Due.mark(t);
            t.setRegister(2, a[0]);
            String call = "LOAD from " + a[0] + " + " + a[1];
            Due.due(call + ": run(1)", t.run(1), 1);
            Due.registersAre(call, t, 100, 200 + a[2], a[0], 103, 104, 105, 106, 107);
            t.setRegister(1, 101);
            t.setRegister(2, 102);
            Due.stillMarked(call, t);
        }
        TraceFrontEnd t = new TraceFrontEnd();
        t.emit(TraceFrontEnd.LOAD, 4, 4, 2);
        Due.mark(t);
        t.setRegister(4, 6);
        t.run(1);
        Due.due("LOAD into its own y", t.register(4), 208);
        Due.stands("LOAD into its own y", t, 1, TraceFrontEnd.RUNNING);
        t.setRegister(4, 104);
        Due.stillMarked("LOAD into its own y", t);
    }

    private static void stores() {
        for (int[] a : ADDRESSES) {
            TraceFrontEnd t = new TraceFrontEnd();
            t.emit(TraceFrontEnd.STORE, 1, 2, a[1]);
            Due.mark(t);
            t.setRegister(2, a[0]);
            String call = "STORE to " + a[0] + " + " + a[1];
            Due.due(call + ": run(1)", t.run(1), 1);
            Due.due(call + ": memory(" + a[2] + ")", t.memory(a[2]), 101);
            t.setMemory(a[2], 200 + a[2]);
            Due.due(call + ": register(2)", t.register(2), a[0]);
            t.setRegister(2, 102);
            Due.stillMarked(call, t);
        }
        TraceFrontEnd t = new TraceFrontEnd();
        t.emit(TraceFrontEnd.STORE, 4, 4, 2);
        t.setRegister(4, 6);
        t.run(1);
        Due.due("STORE of its own y", t.memory(8), 6);

        // The values that a branch would look at move the place in no other instruction.
        for (int value : new int[] {0, -1}) {
            t = new TraceFrontEnd();
            t.emit(TraceFrontEnd.STORE, 1, 5, 0);
            t.emit(TraceFrontEnd.LOAD, 2, 5, 0);
            t.emit(TraceFrontEnd.ADDI, 3, 5, value);
            t.setRegister(1, value);
            for (int i = 1; i <= 3; i++) {
                t.run(1);
                Due.stands("step " + i + " with " + value, t, i, TraceFrontEnd.RUNNING);
            }
        }
    }

    private static void branches() {
        for (int value : new int[] {0, 1, -1, 5, -5, MIN, MAX}) {
            branchesTo(TraceFrontEnd.BZ, value, value == 0);
            branchesTo(TraceFrontEnd.BN, value, value < 0);
        }
    }

    private static void branchesTo(int op, int value, boolean taken) {
        for (int target = 0; target < 24; target++) {
            TraceFrontEnd t = new TraceFrontEnd();
            t.emit(op, 5, target, 0);
            Due.mark(t);
            t.setRegister(5, value);
            String call = "op " + op + " to " + target + " on " + value;
            Due.due(call + ": run(1)", t.run(1), 1);
            Due.stands(call, t, taken ? target : 1, TraceFrontEnd.RUNNING);
            Due.due(call + ": register(5)", t.register(5), value);
            t.setRegister(5, 105);
            Due.stillMarked(call, t);
        }
    }

    private static void jumps() {
        for (int target = 0; target < 24; target++) {
            TraceFrontEnd t = new TraceFrontEnd();
            t.emit(TraceFrontEnd.JMP, target, 0, 0);
            Due.mark(t);
            Due.due("JMP " + target + ": run(1)", t.run(1), 1);
            Due.stands("JMP " + target, t, target, TraceFrontEnd.RUNNING);
            Due.stillMarked("JMP " + target, t);
        }
    }

    private static void halts() {
        TraceFrontEnd t = new TraceFrontEnd();
        t.emit(TraceFrontEnd.JMP, 2, 0, 0);
        t.emit(TraceFrontEnd.ADDI, 0, 0, 1);
        t.emit(TraceFrontEnd.HALT, 0, 0, 0);
        t.emit(TraceFrontEnd.ADDI, 0, 0, 1);
        Due.mark(t);
        Due.due("HALT counts: run(150)", t.run(150), 2);
        Due.stands("HALT", t, 2, TraceFrontEnd.HALTED);
        Due.due("halted: run(150)", t.run(150), 0);
        Due.stands("halted, run", t, 2, TraceFrontEnd.HALTED);
        Due.stillMarked("HALT", t);
    }

    private static void countIsClamped() {
        int[][] wanted = {{MIN, 0}, {-1, 0}, {0, 0}, {1, 1}, {2, 2}, {149, 149}, {150, 150}, {151, 150}, {MAX, 150}};
        for (int[] w : wanted) {
            TraceFrontEnd t = new TraceFrontEnd();
            t.emit(TraceFrontEnd.ADDI, 1, 1, 1);
            t.emit(TraceFrontEnd.JMP, 0, 0, 0);
            Due.due("run(" + w[0] + ")", t.run(w[0]), w[1]);
            Due.due("run(" + w[0] + "): register(1)", t.register(1), (w[1] + 1) / 2);
            Due.stands("run(" + w[0] + ")", t, w[1] % 2, TraceFrontEnd.RUNNING);
        }
    }

    private static void runsOut() {
        TraceFrontEnd t = new TraceFrontEnd();
        Due.due("empty: run(0)", t.run(0), 0);
        Due.stands("empty: run(0)", t, 0, TraceFrontEnd.RUNNING);
        Due.due("empty: run(-1)", t.run(-1), 0);
        Due.stands("empty: run(-1)", t, 0, TraceFrontEnd.RUNNING);
        Due.due("empty: run(1)", t.run(1), 0);
        Due.stands("empty: run(1)", t, 0, TraceFrontEnd.OUT);

        // Finding no instruction takes a turn of its own: the last instruction alone leaves RUNNING.
        t = new TraceFrontEnd();
        t.emit(TraceFrontEnd.ADDI, 1, 1, 1);
        t.emit(TraceFrontEnd.ADDI, 1, 1, 1);
        Due.due("two instructions: run(2)", t.run(2), 2);
        Due.stands("two instructions: run(2)", t, 2, TraceFrontEnd.RUNNING);
        Due.due("two instructions: run(1)", t.run(1), 0);
        Due.stands("two instructions, out", t, 2, TraceFrontEnd.OUT);
        t.emit(TraceFrontEnd.ADDI, 1, 1, 1);
        Due.due("out, then emit: run(150)", t.run(150), 0);
        Due.due("out, then emit: register(1)", t.register(1), 2);
    }

    private static void goesOnWhereItStood() {
        TraceFrontEnd t = new TraceFrontEnd();
        t.emit(TraceFrontEnd.ADDI, 1, 1, 1);
        t.run(1);
        t.emit(TraceFrontEnd.ADDI, 1, 1, 10);
        Due.due("emitted at pc: run(1)", t.run(1), 1);
        Due.due("emitted at pc: register(1)", t.register(1), 11);
        Due.stands("emitted at pc", t, 2, TraceFrontEnd.RUNNING);

        // What was executed before must be read anew once it is amended or its sources are set.
        t = new TraceFrontEnd();
        t.emit(TraceFrontEnd.ADDI, 1, 1, 1);
        t.emit(TraceFrontEnd.LOAD, 2, 3, 4);
        t.emit(TraceFrontEnd.JMP, 0, 0, 0);
        t.run(90);
        t.amend(0, 1000);
        t.setRegister(3, 1);
        t.setMemory(5, 77);
        t.run(2);
        Due.due("amended in a loop: register(1)", t.register(1), 1030);
        Due.due("set in a loop: register(2)", t.register(2), 77);
    }

    private static void unusedOperandsPlayNoPart() {
        for (int unused : new int[] {-1, 3, 8, 24, MIN, MAX}) {
            TraceFrontEnd t = new TraceFrontEnd();
            t.emit(TraceFrontEnd.BZ, 1, 2, unused);
            t.emit(TraceFrontEnd.HALT, unused, unused, unused);
            t.emit(TraceFrontEnd.JMP, 3, unused, unused);
            t.emit(TraceFrontEnd.BN, 2, 1, unused);
            Due.mark(t);
            t.setRegister(1, 0);
            t.setRegister(2, -1);
            Due.due("unused " + unused + ": run(150)", t.run(150), 4);
            Due.stands("unused " + unused, t, 1, TraceFrontEnd.HALTED);
            t.setRegister(1, 101);
            t.setRegister(2, 102);
            Due.stillMarked("unused " + unused, t);
        }
    }
}
