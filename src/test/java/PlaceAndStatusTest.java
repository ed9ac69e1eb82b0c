import java.util.LinkedHashMap;
import java.util.Map;
import java.util.function.Consumer;

/** Promises 10 and 11: place and status. */
public final class PlaceAndStatusTest {
    private static final Map<String, Consumer<TraceFrontEnd>> MOVE_NOTHING = new LinkedHashMap<>();

    public static void main(String[] args) {
        placeFollowsEachStep();
        statusFollowsEachStep();
        askingChangesNothing();
        listRefusedCalls();
        listAcceptedCalls();
        whatMovesNothing();
        restartMoves();
        Due.finish();
    }

    private static void placeFollowsEachStep() {
        TraceFrontEnd t = new TraceFrontEnd();
        for (int i = 0; i < 24; i++) {
            t.emit(TraceFrontEnd.XOR, 0, 0, 0);
        }
        for (int i = 1; i <= 24; i++) {
            t.run(1);
            Due.stands("after " + i + " steps", t, i, TraceFrontEnd.RUNNING);
        }
        t.run(1);
        Due.stands("past the last instruction", t, 24, TraceFrontEnd.OUT);
        t.restart();
        Due.stands("restarted", t, 0, TraceFrontEnd.RUNNING);
    }

    private static void statusFollowsEachStep() {
        TraceFrontEnd t = new TraceFrontEnd();
        t.emit(TraceFrontEnd.BZ, 0, 2, 0);
        t.emit(TraceFrontEnd.HALT, 0, 0, 0);
        Due.due("RUNNING", t.status(), 0);
        t.run(150);
        Due.due("OUT", t.status(), 2);
        t.restart();
        Due.due("RUNNING again", t.status(), 0);
        t.setRegister(0, 1);
        t.run(150);
        Due.due("HALTED", t.status(), 1);
    }

    private static void askingChangesNothing() {
        TraceFrontEnd t = new TraceFrontEnd();
        t.emit(TraceFrontEnd.JMP, 1, 0, 0);
        t.emit(TraceFrontEnd.HALT, 0, 0, 0);
        Due.mark(t);
        t.run(1);
        for (int i = 0; i < 3; i++) {
            Due.stands("asked again", t, 1, TraceFrontEnd.RUNNING);
        }
        Due.stillMarked("asked again", t);
        Due.due("asked again: run(150)", t.run(150), 1);
    }

    private static void listRefusedCalls() {
        MOVE_NOTHING.put("emit(11)", t -> t.emit(11, 0, 0, 0));
        MOVE_NOTHING.put("emit(-1)", t -> t.emit(-1, 0, 0, 0));
        MOVE_NOTHING.put("emit(ADD, 8)", t -> t.emit(TraceFrontEnd.ADD, 8, 0, 0));
        MOVE_NOTHING.put("emit(JMP, 24)", t -> t.emit(TraceFrontEnd.JMP, 24, 0, 0));
        MOVE_NOTHING.put("emit until it is FULL", t -> {
            for (int i = 0; i < 25; i++) {
                t.emit(TraceFrontEnd.JMP, 0, 0, 0);
            }
        });
        MOVE_NOTHING.put("amend(-1)", t -> t.amend(-1, 0));
        MOVE_NOTHING.put("amend(2)", t -> t.amend(2, 0));
        MOVE_NOTHING.put("amend of HALT", t -> t.amend(1, 0));
        MOVE_NOTHING.put("amend to 24", t -> t.amend(0, 24));
        MOVE_NOTHING.put("setRegister(8)", t -> t.setRegister(8, 3));
        MOVE_NOTHING.put("setRegister(-1)", t -> t.setRegister(-1, 3));
        MOVE_NOTHING.put("setMemory(16)", t -> t.setMemory(16, 3));
        MOVE_NOTHING.put("setMemory(-1)", t -> t.setMemory(-1, 3));
    }

    private static void listAcceptedCalls() {
        MOVE_NOTHING.put("emit(HALT)", t -> t.emit(TraceFrontEnd.HALT, 0, 0, 0));
        MOVE_NOTHING.put("emit(JMP)", t -> t.emit(TraceFrontEnd.JMP, 0, 0, 0));
        MOVE_NOTHING.put("amend to 0", t -> t.amend(0, 0));
        MOVE_NOTHING.put("amend to 23", t -> t.amend(0, 23));
        MOVE_NOTHING.put("run(0)", t -> t.run(0));
        MOVE_NOTHING.put("run(-1)", t -> t.run(-1));
        MOVE_NOTHING.put("run(MIN)", t -> t.run(Integer.MIN_VALUE));
        MOVE_NOTHING.put("register(0)", t -> t.register(0));
        MOVE_NOTHING.put("register(8)", t -> t.register(8));
        MOVE_NOTHING.put("memory(0)", t -> t.memory(0));
        MOVE_NOTHING.put("memory(16)", t -> t.memory(16));
        MOVE_NOTHING.put("setRegister(0, 0)", t -> t.setRegister(0, 0));
        MOVE_NOTHING.put("setMemory(0, 0)", t -> t.setMemory(0, 0));
    }

    private static void whatMovesNothing() {
        for (int status : Due.STATUSES) {
            MOVE_NOTHING.forEach((name, call) -> {
                TraceFrontEnd t = Due.markedIn(status);
                call.accept(t);
                Due.stands(name + " in status " + status, t, Due.placeIn(status), status);
            });
        }
    }

    private static void restartMoves() {
        for (int status : Due.STATUSES) {
            TraceFrontEnd t = Due.markedIn(status);
            t.restart();
            Due.stands("restart in status " + status, t, 0, TraceFrontEnd.RUNNING);
            t = Due.markedIn(status);
            t.clear();
            Due.stands("clear in status " + status, t, 0, TraceFrontEnd.RUNNING);
        }
    }
}
