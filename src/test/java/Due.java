/** Compares answers with those that are due, prints the wrong ones, and ends the test accordingly. */
final class Due {
    private static final int SHOWN = 20;
    private static int asked = 0;
    private static int wrong = 0;

    private Due() {
    }

    static void due(String call, long got, long want) {
        asked++;
        if (got != want) {
            wrong++;
            if (wrong <= SHOWN) {
                System.out.println(call + " answered " + got + ", due is " + want);
            }
        }
    }

    static void due(String call, boolean got, boolean want) {
        due(call, got ? 1L : 0L, want ? 1L : 0L);
    }

    static void sameText(String what, String got, String want) {
        asked++;
        if (!got.equals(want)) {
            wrong++;
            System.out.println(what + " is " + got + ", due is " + want);
        }
    }

    static void registersAre(String when, TraceFrontEnd t, int... want) {
        for (int r = 0; r < 8; r++) {
            due(when + ": register(" + r + ")", t.register(r), want[r]);
        }
    }

    static void memoryIs(String when, TraceFrontEnd t, int... want) {
        for (int cell = 0; cell < 16; cell++) {
            due(when + ": memory(" + cell + ")", t.memory(cell), want[cell]);
        }
    }

    static void stands(String when, TraceFrontEnd t, int place, int status) {
        due(when + ": place()", t.place(), place);
        due(when + ": status()", t.status(), status);
    }

    /** Registers 100 to 107 and cells 200 to 215, so that a change to any one of them shows. */
    static void mark(TraceFrontEnd t) {
        for (int r = 0; r < 8; r++) {
            t.setRegister(r, 100 + r);
        }
        for (int cell = 0; cell < 16; cell++) {
            t.setMemory(cell, 200 + cell);
        }
    }

    static void stillMarked(String when, TraceFrontEnd t) {
        for (int r = 0; r < 8; r++) {
            due(when + ": register(" + r + ")", t.register(r), 100 + r);
        }
        for (int cell = 0; cell < 16; cell++) {
            due(when + ": memory(" + cell + ")", t.memory(cell), 200 + cell);
        }
    }

    static final int[] STATUSES = {TraceFrontEnd.RUNNING, TraceFrontEnd.HALTED, TraceFrontEnd.OUT};

    /** A marked object of two instructions that has come to the status, at a place other than 0. */
    static TraceFrontEnd markedIn(int status) {
        TraceFrontEnd t = new TraceFrontEnd();
        t.emit(TraceFrontEnd.JMP, placeIn(status), 0, 0);
        t.emit(TraceFrontEnd.HALT, 0, 0, 0);
        mark(t);
        t.run(status == TraceFrontEnd.RUNNING ? 1 : 2);
        return t;
    }

    static int placeIn(int status) {
        return status == TraceFrontEnd.OUT ? 9 : 1;
    }

    static void stillMarkedIn(int status, String when, TraceFrontEnd t) {
        stands(when + " in status " + status, t, placeIn(status), status);
        stillMarked(when + " in status " + status, t);
    }

    static void finish() {
        if (wrong > SHOWN) {
            System.out.println(".. " + (wrong - SHOWN) + " more ..");
        }
        System.out.println(wrong == 0 ? asked + " answers are as due" : wrong + " answers are not as due");
        if (wrong != 0 || asked == 0) {
            System.exit(1);
        }
    }
}
