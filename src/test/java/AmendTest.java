/** Promise 3: amend. */
public final class AmendTest {
    private static final int MIN = Integer.MIN_VALUE;
    private static final int MAX = Integer.MAX_VALUE;
    private static final int[] NO_TARGET = {-1, 24, 25, MIN, MAX};

    public static void main(String[] args) {
        numbers();
        numbersTakeEffect();
        targets();
        targetsTakeEffect();
        numbersTakeEffectInALoop();
        targetsTakeEffectInALoop();
        nothingToAmend();
        noInstruction();
        noInstructionInAnEmptyProgram();
        theLastInstructionAndTheNext();
        refusedTargetsChangeNothing();
        refusedNumbersChangeNothing();
        stateStays();
        Due.finish();
    }

    private static TraceFrontEnd allOps() {
        TraceFrontEnd t = new TraceFrontEnd();
        for (int op = TraceFrontEnd.ADD; op <= TraceFrontEnd.HALT; op++) {
            t.emit(op, 1, 2, 3);
        }
        return t;
    }

    private static void amends(int i, int value, int want) {
        Due.due("amend(" + i + ", " + value + ")", allOps().amend(i, value), want);
    }

    private static void numbers() {
        for (int i = TraceFrontEnd.ADDI; i <= TraceFrontEnd.STORE; i++) {
            for (int value : new int[] {0, -1, 15, 16, 24, -1000, MIN, MAX}) {
                amends(i, value, i);
            }
        }
    }

    private static void numbersTakeEffect() {
        for (int n : new int[] {0, 9, -4, 15, 16, 24, MIN, MAX}) {
            TraceFrontEnd t = new TraceFrontEnd();
            t.emit(TraceFrontEnd.ADDI, 1, 2, 5);
            t.emit(TraceFrontEnd.LOAD, 3, 4, 5);
            t.emit(TraceFrontEnd.STORE, 5, 6, 5);
            Due.mark(t);
            t.setRegister(4, 1);
            t.setRegister(6, 2);
            for (int i = 0; i < 3; i++) {
                t.amend(i, n);
            }
            t.run(3);
            Due.registersAre("number " + n, t, 100, 102 + n, 102, 200 + ((1 + n) & 15), 1, 105, 2, 107);
            int[] memory = new int[16];
            for (int cell = 0; cell < 16; cell++) {
                memory[cell] = 200 + cell;
            }
            memory[(2 + n) & 15] = 105;
            Due.memoryIs("number " + n, t, memory);
        }
    }

    private static void targets() {
        for (int i = TraceFrontEnd.BZ; i <= TraceFrontEnd.JMP; i++) {
            for (int value = 0; value < 24; value++) {
                amends(i, value, i);
            }
            for (int value : NO_TARGET) {
                amends(i, value, TraceFrontEnd.BAD);
            }
        }
    }

    /** Register 1 is 0 and register 2 negative, so that BZ 1 and BN 2 are taken. */
    private static TraceFrontEnd jumper(int op, int target) {
        TraceFrontEnd t = new TraceFrontEnd();
        t.emit(op, op == TraceFrontEnd.JMP ? target : op == TraceFrontEnd.BZ ? 1 : 2, target, 0);
        t.setRegister(2, -1);
        return t;
    }

    private static void targetsTakeEffect() {
        for (int op = TraceFrontEnd.BZ; op <= TraceFrontEnd.JMP; op++) {
            for (int target : new int[] {0, 1, 2, 8, 22, 23}) {
                TraceFrontEnd t = jumper(op, 5);
                t.amend(0, target);
                Due.due("op " + op + " amended to " + target + ": run(1)", t.run(1), 1);
                Due.stands("op " + op + " amended to " + target, t, target, TraceFrontEnd.RUNNING);
            }
        }
        // A branch keeps its register, and it still looks at it, when its target changes.
        for (int op = TraceFrontEnd.BZ; op <= TraceFrontEnd.BN; op++) {
            TraceFrontEnd t = jumper(op, 5);
            t.setRegister(1, -1);
            t.setRegister(2, 0);
            t.amend(0, 9);
            t.run(1);
            Due.due("op " + op + ", amended, is not taken: place()", t.place(), 1);
        }
    }

    // What has been executed many times is what a trace would hold: it must be read anew, without a restart too.
    private static void numbersTakeEffectInALoop() {
        TraceFrontEnd t = new TraceFrontEnd();
        t.emit(TraceFrontEnd.ADDI, 1, 2, 5);
        t.emit(TraceFrontEnd.LOAD, 3, 0, 5);
        t.emit(TraceFrontEnd.STORE, 1, 0, 6);
        t.emit(TraceFrontEnd.JMP, 0, 0, 0);
        Due.mark(t);
        t.setRegister(0, 0);
        t.run(148);
        Due.registersAre("before amend in a loop", t, 0, 107, 102, 205, 104, 105, 106, 107);
        for (int n = 7; n < 12; n++) {
            for (int i = 0; i < 3; i++) {
                Due.due("in a loop: amend(" + i + ", " + n + ")", t.amend(i, n), i);
            }
            Due.due("amended in a loop to " + n + ": run(4)", t.run(4), 4);
            Due.registersAre("amended in a loop to " + n, t, 0, 102 + n, 102, 200 + n, 104, 105, 106, 107);
            Due.due("amended in a loop: memory(" + n + ")", t.memory(n), 102 + n);
        }
        Due.due("before amend in a loop: memory(6)", t.memory(6), 107);
        Due.due("after amend in a loop: memory(12)", t.memory(12), 212);
    }

    private static void targetsTakeEffectInALoop() {
        for (int op = TraceFrontEnd.BZ; op <= TraceFrontEnd.JMP; op++) {
            for (int target = 1; target < 24; target++) {
                TraceFrontEnd t = jumper(op, 0);
                Due.due("op " + op + " to itself: run(150)", t.run(150), 150);
                Due.due("op " + op + " to itself: amend(0, 24)", t.amend(0, 24), TraceFrontEnd.BAD);
                Due.due("op " + op + " to itself, not amended: run(150)", t.run(150), 150);
                Due.due("op " + op + " to itself: amend(0, " + target + ")", t.amend(0, target), 0);
                Due.due("op " + op + " amended in a loop: run(150)", t.run(150), 1);
                Due.stands("op " + op + " amended in a loop to " + target, t, target, TraceFrontEnd.OUT);
            }
        }
    }

    private static void nothingToAmend() {
        for (int i : new int[] {0, 1, 2, 3, 10}) {
            for (int value : new int[] {0, 7, 23, 24, -1, MIN, MAX}) {
                amends(i, value, TraceFrontEnd.BAD);
            }
        }
    }

    private static void noInstruction() {
        for (int i : new int[] {-1, 11, 12, 23, 24, 25, MIN, MAX}) {
            amends(i, 0, TraceFrontEnd.BAD);
        }
        TraceFrontEnd t = new TraceFrontEnd();
        for (int i = 0; i < 24; i++) {
            t.emit(TraceFrontEnd.ADDI, 0, 0, 0);
        }
        Due.due("full: amend(0, 1)", t.amend(0, 1), 0);
        Due.due("full: amend(23, 1)", t.amend(23, 1), 23);
        Due.due("full: amend(24, 1)", t.amend(24, 1), TraceFrontEnd.BAD);
        Due.due("full: amend(-1, 1)", t.amend(-1, 1), TraceFrontEnd.BAD);
    }

    private static void noInstructionInAnEmptyProgram() {
        TraceFrontEnd t = new TraceFrontEnd();
        for (int i : new int[] {-1, 0, 1, 23, 24, MIN, MAX}) {
            Due.due("empty: amend(" + i + ", 0)", t.amend(i, 0), TraceFrontEnd.BAD);
        }
        Due.due("empty: emit(HALT)", t.emit(TraceFrontEnd.HALT, 0, 0, 0), 1);
    }

    private static void theLastInstructionAndTheNext() {
        TraceFrontEnd t = new TraceFrontEnd();
        for (int length = 1; length <= 24; length++) {
            t.emit(TraceFrontEnd.ADDI, 0, 0, 0);
            Due.due("of " + length + ": amend the last", t.amend(length - 1, 1), length - 1);
            Due.due("of " + length + ": amend the next", t.amend(length, 1), TraceFrontEnd.BAD);
        }
    }

    private static void refusedTargetsChangeNothing() {
        for (int op = TraceFrontEnd.BZ; op <= TraceFrontEnd.JMP; op++) {
            for (int value : NO_TARGET) {
                TraceFrontEnd t = jumper(op, 5);
                t.amend(0, value);
                t.run(1);
                Due.stands("op " + op + ", not amended to " + value, t, 5, TraceFrontEnd.RUNNING);
            }
        }
    }

    private static void refusedNumbersChangeNothing() {
        int[] want = {102 + 103, 102 - 103, 102 ^ 103, 1};
        for (int op = TraceFrontEnd.ADD; op <= TraceFrontEnd.LESS; op++) {
            TraceFrontEnd t = new TraceFrontEnd();
            t.emit(op, 1, 2, 3);
            Due.mark(t);
            t.amend(0, 6);
            t.run(1);
            Due.registersAre("op " + op + ", not amended", t, 100, want[op], 102, 103, 104, 105, 106, 107);
        }
        TraceFrontEnd t = new TraceFrontEnd();
        t.emit(TraceFrontEnd.HALT, 0, 0, 0);
        t.amend(0, 6);
        t.run(1);
        Due.stands("HALT, not amended", t, 0, TraceFrontEnd.HALTED);
    }

    private static void stateStays() {
        for (int status : Due.STATUSES) {
            TraceFrontEnd t = Due.markedIn(status);
            Due.due("amend(0, 5) in status " + status, t.amend(0, 5), 0);
            Due.stillMarkedIn(status, "amend", t);
            Due.due("amend adds nothing: emit(HALT)", t.emit(TraceFrontEnd.HALT, 0, 0, 0), 3);

            t = Due.markedIn(status);
            Due.due("amend(0, 24) in status " + status, t.amend(0, 24), TraceFrontEnd.BAD);
            Due.due("amend(1, 0) in status " + status, t.amend(1, 0), TraceFrontEnd.BAD);
            Due.due("amend(2, 0) in status " + status, t.amend(2, 0), TraceFrontEnd.BAD);
            Due.due("amend(-1, 0) in status " + status, t.amend(-1, 0), TraceFrontEnd.BAD);
            Due.stillMarkedIn(status, "refused amend", t);
        }
    }
}
