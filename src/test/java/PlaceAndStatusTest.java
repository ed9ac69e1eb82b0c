/** Promises 10 and 11: place and status. */
public final class PlaceAndStatusTest {
    public static void main(String[] args) {
        placeFollowsEachStep();
        statusFollowsEachStep();
        askingChangesNothing();
        Due.finish();
    }

    private static void placeFollowsEachStep() {
        TraceFrontEnd t = new TraceFrontEnd();
        for (int i = 0; i < 24; i++) {
            t.emit(TraceFrontEnd.XOR, 0, 0, 0);
        }
        for (int i = 1; i <= 24; i++) {
            t.run(1);
            Due.stands("after " + i + " steps", t, i, TraceFrontEnd.RUNNING);
        }
        t.run(1);
        Due.stands("past the last instruction", t, 24, TraceFrontEnd.OUT);
        t.restart();
        Due.stands("restarted", t, 0, TraceFrontEnd.RUNNING);
    }

    private static void statusFollowsEachStep() {
        TraceFrontEnd t = new TraceFrontEnd();
        t.emit(TraceFrontEnd.BZ, 0, 2, 0);
        t.emit(TraceFrontEnd.HALT, 0, 0, 0);
        Due.due("RUNNING", t.status(), 0);
        t.run(150);
        Due.due("OUT", t.status(), 2);
        t.restart();
        Due.due("RUNNING again", t.status(), 0);
        t.setRegister(0, 1);
        t.run(150);
        Due.due("HALTED", t.status(), 1);
    }

    private static void askingChangesNothing() {
        TraceFrontEnd t = new TraceFrontEnd();
        t.emit(TraceFrontEnd.JMP, 1, 0, 0);
        t.emit(TraceFrontEnd.HALT, 0, 0, 0);
        Due.mark(t);
        t.run(1);
        for (int i = 0; i < 3; i++) {
            Due.stands("asked again", t, 1, TraceFrontEnd.RUNNING);
        }
        Due.stillMarked("asked again", t);
        Due.due("asked again: run(150)", t.run(150), 1);
    }
}
