/** Promises 6 and 7: register and setRegister. */
public final class RegisterTest {
    private static final int MIN = Integer.MIN_VALUE;
    private static final int MAX = Integer.MAX_VALUE;
    private static final int[] OUTSIDE = {-1, -8, 8, 9, 15, 16, MIN, MAX};

    public static void main(String[] args) {
        setsOneAlone();
        takesAnyInt();
        refusesOutside();
        worksInEveryStatus();
        Due.finish();
    }

    private static void setsOneAlone() {
        for (int r = 0; r < 8; r++) {
            TraceFrontEnd t = new TraceFrontEnd();
            Due.mark(t);
            Due.due("setRegister(" + r + ", -9)", t.setRegister(r, -9), true);
            Due.due("register(" + r + ")", t.register(r), -9);
            t.setRegister(r, 100 + r);
            Due.stillMarked("setRegister(" + r + ")", t);
            Due.stands("setRegister(" + r + ")", t, 0, TraceFrontEnd.RUNNING);
        }
    }

    private static void takesAnyInt() {
        TraceFrontEnd t = new TraceFrontEnd();
        for (int value : new int[] {0, 1, -1, 65536, MIN, MAX, 0}) {
            Due.due("setRegister(7, " + value + ")", t.setRegister(7, value), true);
            Due.due("register(7)", t.register(7), value);
        }
    }

    private static void refusesOutside() {
        for (int status : Due.STATUSES) {
            TraceFrontEnd t = Due.markedIn(status);
            for (int r : OUTSIDE) {
                Due.due("setRegister(" + r + ", 5)", t.setRegister(r, 5), false);
                Due.due("register(" + r + ")", t.register(r), 0);
            }
            Due.stillMarkedIn(status, "refused setRegister", t);
        }
    }

    private static void worksInEveryStatus() {
        int last = 7;
        for (int status : Due.STATUSES) {
            TraceFrontEnd t = Due.markedIn(status);
            for (int r : new int[] {0, last}) {
                Due.due("setRegister(" + r + ", 4) in status " + status, t.setRegister(r, 4), true);
                Due.due("register(" + r + ") in status " + status, t.register(r), 4);
                t.setRegister(r, 100 + r);
            }
            Due.stillMarkedIn(status, "setRegister", t);
        }
    }
}
