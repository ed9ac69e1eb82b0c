/** Promise 12: clear. */
public final class ClearTest {
    public static void main(String[] args) {
        ofANewObject();
        ofAFullProgramRunning();
        ofAFullProgramHalted();
        ofAFullProgramOut();
        ofAShortProgram();
        Due.finish();
    }

    private static void ofANewObject() {
        TraceFrontEnd t = new TraceFrontEnd();
        t.clear();
        isAsNew("new", t);
    }

    private static void ofAFullProgramRunning() {
        TraceFrontEnd t = filled();
        t.run(1);
        Due.stands("before clear", t, 1, TraceFrontEnd.RUNNING);
        t.clear();
        isAsNew("full and running", t);
    }

    private static void ofAFullProgramHalted() {
        TraceFrontEnd t = filled();
        t.run(150);
        Due.stands("before clear", t, 1, TraceFrontEnd.HALTED);
        t.clear();
        isAsNew("full and halted", t);
    }

    private static void ofAFullProgramOut() {
        TraceFrontEnd t = filled();
        t.amend(0, 2);
        t.run(150);
        Due.stands("before clear", t, 24, TraceFrontEnd.OUT);
        t.clear();
        isAsNew("full and out", t);
        isAsNew("cleared before", t);
    }

    private static void ofAShortProgram() {
        for (int status : Due.STATUSES) {
            TraceFrontEnd t = Due.markedIn(status);
            t.clear();
            isAsNew("short, in status " + status, t);
        }
    }

    private static TraceFrontEnd filled() {
        TraceFrontEnd t = new TraceFrontEnd();
        t.emit(TraceFrontEnd.JMP, 1, 0, 0);
        t.emit(TraceFrontEnd.HALT, 0, 0, 0);
        for (int i = 2; i < 24; i++) {
            t.emit(TraceFrontEnd.ADDI, 1, 1, 1);
        }
        Due.mark(t);
        return t;
    }

    /** Clears the object again at its end, for what it adds to the program. */
    private static void isAsNew(String was, TraceFrontEnd t) {
        String when = "clear when " + was;
        Due.registersAre(when, t, new int[8]);
        Due.memoryIs(when, t, new int[16]);
        Due.stands(when, t, 0, TraceFrontEnd.RUNNING);
        Due.due(when + ": amend(0, 0)", t.amend(0, 0), TraceFrontEnd.BAD);
        Due.due(when + ": amend(2, 0)", t.amend(2, 0), TraceFrontEnd.BAD);
        Due.due(when + ": run(1)", t.run(1), 0);
        Due.stands(when + ", run", t, 0, TraceFrontEnd.OUT);
        t.restart();
        for (int i = 1; i <= 24; i++) {
            Due.due(when + ": emit number " + i, t.emit(TraceFrontEnd.ADDI, 2, 2, 3), i);
        }
        Due.due(when + ": emit number 25", t.emit(TraceFrontEnd.ADDI, 2, 2, 3), TraceFrontEnd.FULL);
        Due.due(when + ": run(150)", t.run(150), 24);
        Due.due(when + ": register(2)", t.register(2), 72);
        t.clear();
    }
}
