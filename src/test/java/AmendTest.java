/** Promise 3: amend. */
public final class AmendTest {
    private static final int MIN = Integer.MIN_VALUE;
    private static final int MAX = Integer.MAX_VALUE;

    public static void main(String[] args) {
        numbers();
        numbersTakeEffect();
        targets();
        targetsTakeEffect();
        nothingToAmend();
        noInstruction();
        refusedChangesNothing();
        stateStays();
        Due.finish();
    }

    private static TraceFrontEnd allOps() {
        TraceFrontEnd t = new TraceFrontEnd();
        for (int op = TraceFrontEnd.ADD; op <= TraceFrontEnd.HALT; op++) {
            t.emit(op, 1, 2, 3);
        }
        return t;
    }

    private static void amends(int i, int value, int want) {
        Due.due("amend(" + i + ", " + value + ")", allOps().amend(i, value), want);
    }

    private static void numbers() {
        for (int i = TraceFrontEnd.ADDI; i <= TraceFrontEnd.STORE; i++) {
            for (int value : new int[] {0, -1, 15, 16, 24, -1000, MIN, MAX}) {
                amends(i, value, i);
            }
        }
    }

    private static void numbersTakeEffect() {
        TraceFrontEnd t = new TraceFrontEnd();
        t.emit(TraceFrontEnd.ADDI, 1, 2, 5);
        t.emit(TraceFrontEnd.LOAD, 3, 4, 5);
        t.emit(TraceFrontEnd.STORE, 5, 6, 5);
        Due.mark(t);
        t.setRegister(4, 0);
        t.setRegister(6, 0);
        t.amend(0, MAX);
        t.amend(1, 9);
        t.amend(2, -4);
        t.run(3);
        Due.registersAre("amended numbers", t, 100, 102 + MAX, 102, 209, 0, 105, 0, 107);
        Due.due("amended STORE: memory(12)", t.memory(12), 105);
        Due.due("amended STORE: memory(5)", t.memory(5), 205);
    }

    private static void targets() {
        for (int i = TraceFrontEnd.BZ; i <= TraceFrontEnd.JMP; i++) {
            for (int value = 0; value < 24; value++) {
                amends(i, value, i);
            }
            for (int value : new int[] {-1, 24, 25, MIN, MAX}) {
                amends(i, value, TraceFrontEnd.BAD);
            }
        }
    }

    private static void targetsTakeEffect() {
        TraceFrontEnd t = new TraceFrontEnd();
        t.emit(TraceFrontEnd.BZ, 1, 0, 0);
        t.emit(TraceFrontEnd.BN, 2, 0, 0);
        t.emit(TraceFrontEnd.JMP, 0, 0, 0);
        t.setRegister(2, -1);
        t.amend(0, 1);
        t.amend(1, 2);
        t.amend(2, 23);
        Due.due("amended targets: run(3)", t.run(3), 3);
        Due.due("amended targets: place()", t.place(), 23);

        // A branch keeps its register, and it still looks at it, when its target changes.
        t.restart();
        t.setRegister(1, 1);
        t.setRegister(2, 0);
        t.amend(0, 9);
        t.amend(1, 9);
        t.run(2);
        Due.due("amended branches that are not taken: place()", t.place(), 2);
    }

    private static void nothingToAmend() {
        for (int i : new int[] {0, 1, 2, 3, 10}) {
            amends(i, 0, TraceFrontEnd.BAD);
            amends(i, 7, TraceFrontEnd.BAD);
        }
    }

    private static void noInstruction() {
        for (int i : new int[] {-1, 11, 12, 23, 24, 25, MIN, MAX}) {
            amends(i, 0, TraceFrontEnd.BAD);
        }
        TraceFrontEnd t = new TraceFrontEnd();
        for (int i = 0; i < 24; i++) {
            t.emit(TraceFrontEnd.ADDI, 0, 0, 0);
        }
        Due.due("full: amend(23, 1)", t.amend(23, 1), 23);
        Due.due("full: amend(24, 1)", t.amend(24, 1), TraceFrontEnd.BAD);
    }

    private static void refusedChangesNothing() {
        TraceFrontEnd t = new TraceFrontEnd();
        t.emit(TraceFrontEnd.BZ, 0, 2, 0);
        t.emit(TraceFrontEnd.HALT, 0, 0, 0);
        t.emit(TraceFrontEnd.BN, 1, 4, 0);
        t.emit(TraceFrontEnd.HALT, 0, 0, 0);
        t.emit(TraceFrontEnd.JMP, 6, 0, 0);
        t.emit(TraceFrontEnd.HALT, 0, 0, 0);
        t.emit(TraceFrontEnd.ADD, 2, 3, 4);
        t.amend(0, 24);
        t.amend(2, -1);
        t.amend(4, 24);
        t.amend(6, 1);
        t.setRegister(1, -1);
        t.setRegister(3, 30);
        t.setRegister(4, 4);
        Due.due("refused amends: run(150)", t.run(150), 4);
        Due.due("refused amends: register(2)", t.register(2), 34);
        Due.stands("refused amends", t, 7, TraceFrontEnd.OUT);
    }

    private static void stateStays() {
        TraceFrontEnd t = new TraceFrontEnd();
        t.emit(TraceFrontEnd.BZ, 0, 0, 0);
        t.emit(TraceFrontEnd.HALT, 0, 0, 0);
        Due.mark(t);
        t.run(1);
        t.amend(0, 5);
        Due.stillMarked("amend while running", t);
        Due.stands("amend while running", t, 1, TraceFrontEnd.RUNNING);
        t.run(1);
        t.amend(0, 6);
        Due.stands("amend while halted", t, 1, TraceFrontEnd.HALTED);
        Due.due("amend adds nothing: emit(HALT)", t.emit(TraceFrontEnd.HALT, 0, 0, 0), 3);
    }
}
