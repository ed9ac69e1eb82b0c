/** Promise 1: an empty program, everything 0, status RUNNING. */
public final class NewObjectTest {
    public static void main(String[] args) {
        everythingIsZero();
        theProgramIsEmpty();
        objectsShareNothing();
        Due.finish();
    }

    private static void everythingIsZero() {
        TraceFrontEnd t = new TraceFrontEnd();
        Due.registersAre("new", t, new int[8]);
        Due.memoryIs("new", t, new int[16]);
        Due.stands("new", t, 0, TraceFrontEnd.RUNNING);
    }

    private static void theProgramIsEmpty() {
        TraceFrontEnd t = new TraceFrontEnd();
        Due.due("new: amend(0, 0)", t.amend(0, 0), TraceFrontEnd.BAD);
        Due.due("new: emit(HALT)", t.emit(TraceFrontEnd.HALT, 0, 0, 0), 1);

        t = new TraceFrontEnd();
        Due.due("new: run(150)", t.run(150), 0);
        Due.stands("new, run", t, 0, TraceFrontEnd.OUT);
    }

    private static void objectsShareNothing() {
        TraceFrontEnd one = new TraceFrontEnd();
        TraceFrontEnd other = new TraceFrontEnd();
        Due.mark(one);
        one.emit(TraceFrontEnd.HALT, 0, 0, 0);
        one.run(1);
        Due.registersAre("the other object", other, new int[8]);
        Due.memoryIs("the other object", other, new int[16]);
        Due.stands("the other object", other, 0, TraceFrontEnd.RUNNING);
        Due.due("the other object: emit(HALT)", other.emit(TraceFrontEnd.HALT, 0, 0, 0), 1);
    }
}
