/** Promise 4: restart. */
public final class RestartTest {
    public static void main(String[] args) {
        fromEachStatus();
        ofAnEmptyProgram();
        fromTheMiddle();
        theProgramStays();
        Due.finish();
    }

    private static void fromEachStatus() {
        for (int status : Due.STATUSES) {
            TraceFrontEnd t = Due.markedIn(status);
            Due.stillMarkedIn(status, "before restart", t);
            t.restart();
            Due.stands("restart from status " + status, t, 0, TraceFrontEnd.RUNNING);
            Due.stillMarked("restart from status " + status, t);
            t.restart();
            Due.stands("restart twice from status " + status, t, 0, TraceFrontEnd.RUNNING);
        }
    }

    private static void ofAnEmptyProgram() {
        TraceFrontEnd t = new TraceFrontEnd();
        t.restart();
        Due.stands("restart when new", t, 0, TraceFrontEnd.RUNNING);
        t.run(1);
        t.restart();
        Due.stands("restart when empty and out", t, 0, TraceFrontEnd.RUNNING);
        Due.due("restart when empty: run(1)", t.run(1), 0);
        Due.stands("restart when empty, run", t, 0, TraceFrontEnd.OUT);
    }

    private static void fromTheMiddle() {
        TraceFrontEnd t = new TraceFrontEnd();
        t.emit(TraceFrontEnd.ADDI, 0, 0, 1);
        t.emit(TraceFrontEnd.ADDI, 0, 0, 1);
        t.run(1);
        t.restart();
        t.run(2);
        Due.due("restart while running: register(0)", t.register(0), 3);
    }

    private static void theProgramStays() {
        TraceFrontEnd t = Due.markedIn(TraceFrontEnd.HALTED);
        t.restart();
        Due.due("the program stays: run(150)", t.run(150), 2);
        Due.stands("the program stays", t, 1, TraceFrontEnd.HALTED);
        Due.due("the program stays: emit(HALT)", t.emit(TraceFrontEnd.HALT, 0, 0, 0), 3);

        t = Due.markedIn(TraceFrontEnd.OUT);
        t.amend(0, 23);
        t.restart();
        Due.due("what is amended stays: run(1)", t.run(1), 1);
        Due.stands("what is amended stays", t, 23, TraceFrontEnd.RUNNING);
    }
}
