/** An object answers as promised up to its 512th call. */
public final class CallLimitTest {
    private static final int CALLS = 512;

    public static void main(String[] args) {
        runsAtFullLength();
        emitsWhenLongFull();
        setsAndLooks();
        amendsAndRuns();
        clearsAndEmits();
        haltsInTheLastCall();
        Due.finish();
    }

    private static void runsAtFullLength() {
        TraceFrontEnd t = new TraceFrontEnd();
        t.emit(TraceFrontEnd.ADDI, 1, 1, 1);
        t.emit(TraceFrontEnd.JMP, 0, 0, 0);
        for (int call = 3; call < CALLS; call++) {
            Due.due("call " + call + ": run(150)", t.run(150), 150);
        }
        Due.due("call 512: register(1)", t.register(1), 509 * 75);
    }

    private static void emitsWhenLongFull() {
        TraceFrontEnd t = new TraceFrontEnd();
        for (int call = 1; call <= CALLS; call++) {
            int want = call <= 24 ? call : TraceFrontEnd.FULL;
            Due.due("call " + call + ": emit(HALT)", t.emit(TraceFrontEnd.HALT, 0, 0, 0), want);
        }
    }

    private static void setsAndLooks() {
        TraceFrontEnd t = new TraceFrontEnd();
        for (int call = 1; call <= CALLS; call += 4) {
            Due.due("call " + call + ": setRegister", t.setRegister(call / 4 % 8, call), true);
            Due.due("call " + (call + 1) + ": register", t.register(call / 4 % 8), call);
            Due.due("call " + (call + 2) + ": setMemory", t.setMemory(call / 4 % 16, -call), true);
            Due.due("call " + (call + 3) + ": memory", t.memory(call / 4 % 16), -call);
        }
    }

    // The loop's number is another one in each pass: none of them may be remembered.
    private static void amendsAndRuns() {
        TraceFrontEnd t = new TraceFrontEnd();
        t.emit(TraceFrontEnd.ADDI, 1, 0, 0);
        t.emit(TraceFrontEnd.JMP, 0, 0, 0);
        for (int call = 3; call + 2 <= CALLS; call += 3) {
            Due.due("call " + call + ": amend(0, ..)", t.amend(0, call), 0);
            Due.due("call " + (call + 1) + ": run(2)", t.run(2), 2);
            Due.due("call " + (call + 2) + ": register(1)", t.register(1), call);
        }
    }

    private static void clearsAndEmits() {
        TraceFrontEnd t = new TraceFrontEnd();
        for (int call = 1; call <= CALLS; call += 4) {
            t.clear();
            Due.due("call " + (call + 1) + ": emit(ADDI)", t.emit(TraceFrontEnd.ADDI, 1, 1, call), 1);
            Due.due("call " + (call + 2) + ": run(1)", t.run(1), 1);
            Due.due("call " + (call + 3) + ": register(1)", t.register(1), call);
        }
    }

    private static void haltsInTheLastCall() {
        TraceFrontEnd t = new TraceFrontEnd();
        t.emit(TraceFrontEnd.BZ, 1, 3, 0);
        t.emit(TraceFrontEnd.ADDI, 1, 1, -1);
        t.emit(TraceFrontEnd.JMP, 0, 0, 0);
        t.emit(TraceFrontEnd.HALT, 0, 0, 0);
        t.setRegister(1, 253);
        for (int call = 6; call + 1 < CALLS; call += 2) {
            Due.due("call " + call + ": run(3)", t.run(3), 3);
            Due.due("call " + (call + 1) + ": status()", t.status(), TraceFrontEnd.RUNNING);
        }
        Due.due("call 512: run(3)", t.run(3), 2);
    }
}
