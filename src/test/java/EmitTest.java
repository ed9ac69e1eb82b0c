/** Promise 2: emit. */
public final class EmitTest {
    private static final int MIN = Integer.MIN_VALUE;
    private static final int MAX = Integer.MAX_VALUE;
    private static final int[] NO_REGISTER = {-1, 8, 15, 16, 23, MIN, MAX};
    private static final int[] NO_TARGET = {-1, 24, 25, MIN, MAX};
    private static final int[] ANY = {0, -1, 7, 8, 23, 24, MIN, MAX};

    /** One call for each reason to answer BAD, each operand on both sides. */
    private static final int[][] BAD_ONES = {
        {-1, 0, 0, 0}, {11, 0, 0, 0},
        {TraceFrontEnd.ADD, -1, 0, 0}, {TraceFrontEnd.ADD, 0, 8, 0}, {TraceFrontEnd.SUB, 0, 0, -1},
        {TraceFrontEnd.XOR, 8, 0, 0}, {TraceFrontEnd.LESS, 0, -1, 0}, {TraceFrontEnd.LESS, 0, 0, 8},
        {TraceFrontEnd.ADDI, -1, 0, 0}, {TraceFrontEnd.ADDI, 0, 8, 0},
        {TraceFrontEnd.LOAD, 8, 0, 0}, {TraceFrontEnd.LOAD, 0, -1, 0},
        {TraceFrontEnd.STORE, 8, 0, 0}, {TraceFrontEnd.STORE, 0, 8, 0},
        {TraceFrontEnd.BZ, 8, 0, 0}, {TraceFrontEnd.BZ, 0, -1, 0}, {TraceFrontEnd.BZ, 0, 24, 0},
        {TraceFrontEnd.BN, -1, 0, 0}, {TraceFrontEnd.BN, 0, -1, 0}, {TraceFrontEnd.BN, 0, 24, 0},
        {TraceFrontEnd.JMP, -1, 0, 0}, {TraceFrontEnd.JMP, 24, 0, 0}};

    public static void main(String[] args) {
        countsUp();
        fullComesFirst();
        oneBelowFullIsNotFull();
        unknownOps();
        threeRegisters();
        twoRegistersAndNumber();
        branches();
        jump();
        haltHasNothing();
        nothingUnusedPlaysAPart();
        refusedAddsNothing();
        stateStays();
        outStaysOutWhenTheProgramGrows();
        Due.finish();
    }

    private static void emits(int op, int x, int y, int z, int want) {
        TraceFrontEnd t = new TraceFrontEnd();
        Due.due("emit(" + op + ", " + x + ", " + y + ", " + z + ")", t.emit(op, x, y, z), want);
    }

    private static void countsUp() {
        TraceFrontEnd t = new TraceFrontEnd();
        for (int i = 1; i <= 24; i++) {
            Due.due("emit number " + i, t.emit(i % 11, 0, 0, 0), i);
        }
        Due.due("emit number 25", t.emit(TraceFrontEnd.HALT, 0, 0, 0), TraceFrontEnd.FULL);
        Due.due("emit number 26", t.emit(TraceFrontEnd.HALT, 0, 0, 0), TraceFrontEnd.FULL);
    }

    private static TraceFrontEnd counting(int length) {
        TraceFrontEnd t = new TraceFrontEnd();
        for (int i = 0; i < length; i++) {
            t.emit(TraceFrontEnd.ADDI, 1, 1, 1);
        }
        return t;
    }

    private static void fullComesFirst() {
        TraceFrontEnd t = counting(24);
        for (int[] bad : BAD_ONES) {
            Due.due("full: emit(" + bad[0] + ", ..)", t.emit(bad[0], bad[1], bad[2], bad[3]), TraceFrontEnd.FULL);
        }
        for (int op = TraceFrontEnd.ADD; op <= TraceFrontEnd.HALT; op++) {
            Due.due("full: emit(" + op + ", 1, 2, 3)", t.emit(op, 1, 2, 3), TraceFrontEnd.FULL);
        }
        Due.due("full: run(150)", t.run(150), 24);
        Due.due("full: register(1)", t.register(1), 24);
        Due.stands("full, run", t, 24, TraceFrontEnd.OUT);
    }

    private static void oneBelowFullIsNotFull() {
        TraceFrontEnd t = counting(23);
        for (int[] bad : BAD_ONES) {
            Due.due("23 there: emit(" + bad[0] + ", ..)", t.emit(bad[0], bad[1], bad[2], bad[3]), TraceFrontEnd.BAD);
        }
        Due.due("23 there: emit(ADDI)", t.emit(TraceFrontEnd.ADDI, 1, 1, 10), 24);
        Due.due("24 there: run(150)", t.run(150), 24);
        Due.due("24 there: register(1)", t.register(1), 33);
    }

    private static void unknownOps() {
        for (int op : new int[] {-1, -2, 11, 12, 16, 24, MIN, MAX}) {
            emits(op, 0, 0, 0, TraceFrontEnd.BAD);
        }
    }

    private static void threeRegisters() {
        for (int op = TraceFrontEnd.ADD; op <= TraceFrontEnd.LESS; op++) {
            for (int r = 0; r < 8; r++) {
                emits(op, r, 0, 7, 1);
                emits(op, 7, r, 0, 1);
                emits(op, 0, 7, r, 1);
            }
            for (int r : NO_REGISTER) {
                emits(op, r, 0, 0, TraceFrontEnd.BAD);
                emits(op, 0, r, 0, TraceFrontEnd.BAD);
                emits(op, 0, 0, r, TraceFrontEnd.BAD);
            }
        }
    }

    private static void twoRegistersAndNumber() {
        for (int op = TraceFrontEnd.ADDI; op <= TraceFrontEnd.STORE; op++) {
            for (int r = 0; r < 8; r++) {
                emits(op, r, 7, 0, 1);
                emits(op, 7, r, 0, 1);
            }
            for (int n : ANY) {
                emits(op, 0, 0, n, 1);
            }
            for (int r : NO_REGISTER) {
                emits(op, r, 0, 0, TraceFrontEnd.BAD);
                emits(op, 0, r, 0, TraceFrontEnd.BAD);
            }
        }
    }

    private static void branches() {
        for (int op = TraceFrontEnd.BZ; op <= TraceFrontEnd.BN; op++) {
            for (int r = 0; r < 8; r++) {
                emits(op, r, 0, 0, 1);
            }
            for (int target = 0; target < 24; target++) {
                emits(op, 0, target, 0, 1);
            }
            for (int unused : ANY) {
                emits(op, 7, 23, unused, 1);
            }
            for (int r : NO_REGISTER) {
                emits(op, r, 0, 0, TraceFrontEnd.BAD);
            }
            for (int target : NO_TARGET) {
                emits(op, 0, target, 0, TraceFrontEnd.BAD);
            }
        }
    }

    private static void jump() {
        for (int target = 0; target < 24; target++) {
            emits(TraceFrontEnd.JMP, target, 0, 0, 1);
        }
        for (int unused : ANY) {
            emits(TraceFrontEnd.JMP, 23, unused, 0, 1);
            emits(TraceFrontEnd.JMP, 23, 0, unused, 1);
        }
        for (int target : NO_TARGET) {
            emits(TraceFrontEnd.JMP, target, 0, 0, TraceFrontEnd.BAD);
        }
    }

    private static void haltHasNothing() {
        for (int unused : ANY) {
            emits(TraceFrontEnd.HALT, unused, 0, 0, 1);
            emits(TraceFrontEnd.HALT, 0, unused, 0, 1);
            emits(TraceFrontEnd.HALT, 0, 0, unused, 1);
        }
    }

    private static void nothingUnusedPlaysAPart() {
        for (int one : ANY) {
            for (int other : ANY) {
                emits(TraceFrontEnd.JMP, 0, one, other, 1);
                emits(TraceFrontEnd.HALT, one, other, one, 1);
                // Good operands where there are none do not mend the one that is bad.
                emits(TraceFrontEnd.JMP, 24, one, other, TraceFrontEnd.BAD);
                emits(11, one, other, one, TraceFrontEnd.BAD);
            }
            emits(TraceFrontEnd.BZ, 8, 0, one, TraceFrontEnd.BAD);
            emits(TraceFrontEnd.BN, 0, 24, one, TraceFrontEnd.BAD);
        }
    }

    private static void refusedAddsNothing() {
        TraceFrontEnd t = counting(1);
        for (int[] bad : BAD_ONES) {
            t.emit(bad[0], bad[1], bad[2], bad[3]);
        }
        Due.due("after refusals: amend(1, 0)", t.amend(1, 0), TraceFrontEnd.BAD);
        Due.due("after refusals: emit(ADDI)", t.emit(TraceFrontEnd.ADDI, 1, 1, 10), 2);
        Due.due("after refusals: run(150)", t.run(150), 2);
        Due.due("after refusals: register(1)", t.register(1), 11);
    }

    private static void stateStays() {
        for (int status : Due.STATUSES) {
            acceptedKeepsTheState(status);
            badKeepsTheState(status);
            fullKeepsTheState(status);
        }
    }

    private static void acceptedKeepsTheState(int status) {
        TraceFrontEnd t = Due.markedIn(status);
        for (int op = TraceFrontEnd.ADD; op <= TraceFrontEnd.HALT; op++) {
            Due.due("emit(" + op + ", 1, 2, 3) in status " + status, t.emit(op, 1, 2, 3), 3 + op);
        }
        Due.stillMarkedIn(status, "emit", t);
    }

    private static void badKeepsTheState(int status) {
        TraceFrontEnd t = Due.markedIn(status);
        for (int[] bad : BAD_ONES) {
            Due.due("bad emit in status " + status, t.emit(bad[0], bad[1], bad[2], bad[3]), TraceFrontEnd.BAD);
        }
        Due.stillMarkedIn(status, "bad emit", t);
    }

    private static void fullKeepsTheState(int status) {
        TraceFrontEnd t = Due.markedIn(status);
        for (int i = 2; i < 24; i++) {
            t.emit(TraceFrontEnd.ADDI, 1, 1, 1);
        }
        Due.due("full: emit in status " + status, t.emit(TraceFrontEnd.ADDI, 1, 1, 1), TraceFrontEnd.FULL);
        Due.stillMarkedIn(status, "emit when full", t);
    }

    // The place that was outside the program is an instruction's number now; that alone starts nothing.
    private static void outStaysOutWhenTheProgramGrows() {
        TraceFrontEnd t = Due.markedIn(TraceFrontEnd.OUT);
        for (int i = 2; i < 24; i++) {
            t.emit(TraceFrontEnd.ADDI, 1, 1, 1);
        }
        Due.due("out, then emit: run(150)", t.run(150), 0);
        Due.stillMarkedIn(TraceFrontEnd.OUT, "out, then emit, then run", t);
    }
}
