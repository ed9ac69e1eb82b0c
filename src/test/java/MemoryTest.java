/** Promises 8 and 9: memory and setMemory. */
public final class MemoryTest {
    private static final int MIN = Integer.MIN_VALUE;
    private static final int MAX = Integer.MAX_VALUE;
    private static final int[] OUTSIDE = {-1, -16, 16, 17, 31, 32, MIN, MAX};

    public static void main(String[] args) {
        setsOneAlone();
        takesAnyInt();
        refusesOutside();
        worksInEveryStatus();
        Due.finish();
    }

    private static void setsOneAlone() {
        for (int cell = 0; cell < 16; cell++) {
            TraceFrontEnd t = new TraceFrontEnd();
            Due.mark(t);
            Due.due("setMemory(" + cell + ", -9)", t.setMemory(cell, -9), true);
            Due.due("memory(" + cell + ")", t.memory(cell), -9);
            t.setMemory(cell, 200 + cell);
            Due.stillMarked("setMemory(" + cell + ")", t);
            Due.stands("setMemory(" + cell + ")", t, 0, TraceFrontEnd.RUNNING);
        }
    }

    private static void takesAnyInt() {
        TraceFrontEnd t = new TraceFrontEnd();
        for (int value : new int[] {0, 1, -1, 65536, MIN, MAX, 0}) {
            Due.due("setMemory(15, " + value + ")", t.setMemory(15, value), true);
            Due.due("memory(15)", t.memory(15), value);
        }
    }

    // A cell's number is not masked here, as an address in a LOAD or STORE is.
    private static void refusesOutside() {
        for (int status : Due.STATUSES) {
            TraceFrontEnd t = Due.markedIn(status);
            for (int cell : OUTSIDE) {
                Due.due("setMemory(" + cell + ", 5)", t.setMemory(cell, 5), false);
                Due.due("memory(" + cell + ")", t.memory(cell), 0);
            }
            Due.stillMarkedIn(status, "refused setMemory", t);
        }
    }

    private static void worksInEveryStatus() {
        int last = 15;
        for (int status : Due.STATUSES) {
            TraceFrontEnd t = Due.markedIn(status);
            for (int cell : new int[] {0, last}) {
                Due.due("setMemory(" + cell + ", 4) in status " + status, t.setMemory(cell, 4), true);
                Due.due("memory(" + cell + ") in status " + status, t.memory(cell), 4);
                t.setMemory(cell, 200 + cell);
            }
            Due.stillMarkedIn(status, "setMemory", t);
        }
    }
}
