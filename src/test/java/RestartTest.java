/** Promise 4: restart. */
public final class RestartTest {
    public static void main(String[] args) {
        fromHalted();
        fromOut();
        fromRunning();
        Due.finish();
    }

    private static void fromHalted() {
        TraceFrontEnd t = new TraceFrontEnd();
        t.emit(TraceFrontEnd.BZ, 0, 0, 0);
        t.emit(TraceFrontEnd.HALT, 0, 0, 0);
        Due.mark(t);
        t.run(2);
        Due.stands("halted", t, 1, TraceFrontEnd.HALTED);
        t.restart();
        Due.stands("restart from halted", t, 0, TraceFrontEnd.RUNNING);
        Due.stillMarked("restart from halted", t);
        Due.due("the program stays: run(150)", t.run(150), 2);
        Due.due("the program stays: emit(HALT)", t.emit(TraceFrontEnd.HALT, 0, 0, 0), 3);
    }

    private static void fromOut() {
        TraceFrontEnd t = new TraceFrontEnd();
        t.emit(TraceFrontEnd.JMP, 9, 0, 0);
        Due.mark(t);
        t.run(2);
        Due.stands("out", t, 9, TraceFrontEnd.OUT);
        t.restart();
        Due.stands("restart from out", t, 0, TraceFrontEnd.RUNNING);
        Due.stillMarked("restart from out", t);
        Due.due("the program stays: run(1)", t.run(1), 1);
    }

    private static void fromRunning() {
        TraceFrontEnd t = new TraceFrontEnd();
        t.emit(TraceFrontEnd.ADDI, 0, 0, 1);
        t.emit(TraceFrontEnd.ADDI, 0, 0, 1);
        t.run(1);
        t.restart();
        Due.stands("restart while running", t, 0, TraceFrontEnd.RUNNING);
        t.run(2);
        Due.due("restart while running: register(0)", t.register(0), 3);
    }
}
