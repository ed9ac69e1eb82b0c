/** Promise 2: emit. */
public final class EmitTest {
    private static final int MIN = Integer.MIN_VALUE;
    private static final int MAX = Integer.MAX_VALUE;
    private static final int[] NO_REGISTER = {-1, 8, 15, 16, 23, MIN, MAX};
    private static final int[] NO_TARGET = {-1, 24, 25, MIN, MAX};
    private static final int[] ANY = {0, -1, 7, 8, 23, 24, MIN, MAX};

    public static void main(String[] args) {
        countsUp();
        fullComesFirst();
        unknownOps();
        threeRegisters();
        twoRegistersAndNumber();
        branches();
        jump();
        haltHasNothing();
        refusedAddsNothing();
        stateStays();
        Due.finish();
    }

    private static void emits(int op, int x, int y, int z, int want) {
        TraceFrontEnd t = new TraceFrontEnd();
        Due.due("emit(" + op + ", " + x + ", " + y + ", " + z + ")", t.emit(op, x, y, z), want);
    }

    private static void countsUp() {
        TraceFrontEnd t = new TraceFrontEnd();
        for (int i = 1; i <= 24; i++) {
            Due.due("emit number " + i, t.emit(i % 11, 0, 0, 0), i);
        }
        Due.due("emit number 25", t.emit(TraceFrontEnd.HALT, 0, 0, 0), TraceFrontEnd.FULL);
        Due.due("emit number 26", t.emit(TraceFrontEnd.HALT, 0, 0, 0), TraceFrontEnd.FULL);
    }

    private static void fullComesFirst() {
        TraceFrontEnd t = new TraceFrontEnd();
        for (int i = 0; i < 24; i++) {
            t.emit(TraceFrontEnd.ADDI, 1, 1, 1);
        }
        Due.due("full: emit(11)", t.emit(11, 0, 0, 0), TraceFrontEnd.FULL);
        Due.due("full: emit(-1)", t.emit(-1, 0, 0, 0), TraceFrontEnd.FULL);
        Due.due("full: emit(ADD, 8)", t.emit(TraceFrontEnd.ADD, 8, 0, 0), TraceFrontEnd.FULL);
        Due.due("full: run(150)", t.run(150), 24);
        Due.due("full: register(1)", t.register(1), 24);
        Due.stands("full, run", t, 24, TraceFrontEnd.OUT);
    }

    private static void unknownOps() {
        for (int op : new int[] {-1, -2, 11, 12, 16, 24, MIN, MAX}) {
            emits(op, 0, 0, 0, TraceFrontEnd.BAD);
        }
    }

    private static void threeRegisters() {
        for (int op = TraceFrontEnd.ADD; op <= TraceFrontEnd.LESS; op++) {
            for (int r = 0; r < 8; r++) {
                emits(op, r, 0, 7, 1);
                emits(op, 7, r, 0, 1);
                emits(op, 0, 7, r, 1);
            }
            for (int r : NO_REGISTER) {
                emits(op, r, 0, 0, TraceFrontEnd.BAD);
                emits(op, 0, r, 0, TraceFrontEnd.BAD);
                emits(op, 0, 0, r, TraceFrontEnd.BAD);
            }
        }
    }

    private static void twoRegistersAndNumber() {
        for (int op = TraceFrontEnd.ADDI; op <= TraceFrontEnd.STORE; op++) {
            for (int r = 0; r < 8; r++) {
                emits(op, r, 7, 0, 1);
                emits(op, 7, r, 0, 1);
            }
            for (int n : ANY) {
                emits(op, 0, 0, n, 1);
            }
            for (int r : NO_REGISTER) {
                emits(op, r, 0, 0, TraceFrontEnd.BAD);
                emits(op, 0, r, 0, TraceFrontEnd.BAD);
            }
        }
    }

    private static void branches() {
        for (int op = TraceFrontEnd.BZ; op <= TraceFrontEnd.BN; op++) {
            for (int r = 0; r < 8; r++) {
                emits(op, r, 0, 0, 1);
            }
            for (int target = 0; target < 24; target++) {
                emits(op, 0, target, 0, 1);
            }
            for (int unused : ANY) {
                emits(op, 7, 23, unused, 1);
            }
            for (int r : NO_REGISTER) {
                emits(op, r, 0, 0, TraceFrontEnd.BAD);
            }
            for (int target : NO_TARGET) {
                emits(op, 0, target, 0, TraceFrontEnd.BAD);
            }
        }
    }

    private static void jump() {
        for (int target = 0; target < 24; target++) {
            emits(TraceFrontEnd.JMP, target, 0, 0, 1);
        }
        for (int unused : ANY) {
            emits(TraceFrontEnd.JMP, 23, unused, 0, 1);
            emits(TraceFrontEnd.JMP, 23, 0, unused, 1);
        }
        for (int target : NO_TARGET) {
            emits(TraceFrontEnd.JMP, target, 0, 0, TraceFrontEnd.BAD);
        }
    }

    private static void haltHasNothing() {
        for (int unused : ANY) {
            emits(TraceFrontEnd.HALT, unused, 0, 0, 1);
            emits(TraceFrontEnd.HALT, 0, unused, 0, 1);
            emits(TraceFrontEnd.HALT, 0, 0, unused, 1);
        }
    }

    private static void refusedAddsNothing() {
        TraceFrontEnd t = new TraceFrontEnd();
        t.emit(TraceFrontEnd.ADDI, 1, 1, 1);
        t.emit(TraceFrontEnd.ADDI, 8, 1, 1);
        t.emit(99, 1, 1, 1);
        t.emit(TraceFrontEnd.JMP, 24, 0, 0);
        Due.due("after refusals: amend(1, 0)", t.amend(1, 0), TraceFrontEnd.BAD);
        Due.due("after refusals: emit(ADDI)", t.emit(TraceFrontEnd.ADDI, 1, 1, 10), 2);
        Due.due("after refusals: run(150)", t.run(150), 2);
        Due.due("after refusals: register(1)", t.register(1), 11);
    }

    private static void stateStays() {
        TraceFrontEnd t = new TraceFrontEnd();
        Due.mark(t);
        t.emit(TraceFrontEnd.BZ, 0, 0, 0);
        t.emit(TraceFrontEnd.HALT, 0, 0, 0);
        t.run(1);
        emitsAllAndStays("running", t, 1, TraceFrontEnd.RUNNING);
        t.run(1);
        emitsAllAndStays("halted", t, 1, TraceFrontEnd.HALTED);

        t = new TraceFrontEnd();
        Due.mark(t);
        t.run(1);
        emitsAllAndStays("out", t, 0, TraceFrontEnd.OUT);
        Due.due("out: run(150)", t.run(150), 0);
    }

    private static void emitsAllAndStays(String when, TraceFrontEnd t, int place, int status) {
        for (int op = -1; op <= 11; op++) {
            t.emit(op, 1, 2, 3);
        }
        Due.stillMarked("emit while " + when, t);
        Due.stands("emit while " + when, t, place, status);
    }
}
