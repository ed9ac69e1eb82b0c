/** The example in README.md answers what README.md says. */
public final class ReadmeTest {
    public static void main(String[] args) {
        TraceFrontEnd t = new TraceFrontEnd();
        Due.due("emit(ADDI)", t.emit(TraceFrontEnd.ADDI, 1, 1, -1), 1);
        Due.due("emit(BZ)", t.emit(TraceFrontEnd.BZ, 1, 3, 0), 2);
        Due.due("emit(JMP)", t.emit(TraceFrontEnd.JMP, 0, 0, 0), 3);
        Due.due("emit(HALT)", t.emit(TraceFrontEnd.HALT, 0, 0, 0), 4);
        Due.due("setRegister(1, 5)", t.setRegister(1, 5), true);
        Due.due("run(150)", t.run(150), 15);
        Due.due("status()", t.status(), TraceFrontEnd.HALTED);
        Due.due("place()", t.place(), 3);
        Due.due("register(1)", t.register(1), 0);
        Due.finish();
    }
}
