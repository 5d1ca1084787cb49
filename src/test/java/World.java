import java.util.function.ToLongFunction;

/** An object in which there is something of each kind, and all that can be asked of it. */
final class World {
    /** PLACES 0 to 3, of which 3 alone is FREE in MINUTE 0; SLEEPERS 0 to 2, one of each kind. */
    static final String TEXT = "z4;s01;m12;r20/1234";
    /** What lies on SHEET 0, as bytes, and on SHEET 1, as shorts; SHEET 2 has nothing, SHEET 3 the TEXT, as bytes. */
    static final int[] BYTES = {1, 2, 0}, SHORTS = {0, 3, -1};
    static final int READINGS = 8;
    /** What fault() tells in it: NULL. */
    static final int FAULT = 1;

    private World() {
    }

    static SleepRoads made() {
        SleepRoads x = Due.townOf(TEXT);
        Due.row(x, 0, 0, BYTES);
        Due.row(x, 1, 1, SHORTS);
        x.lay(3, 9);
        x.stride(0, 2);
        for (int k = 0; k < READINGS; k++) {
            Due.is("reading", x.reading(k % 3, k, x.where(k % 3, k)), k);
        }
        x.tell(1);
        Due.is("a fault", x.put(2, 0, 0), -10 - FAULT);
        return x;
    }

    /** All that it tells, but for fault(); it isn't the same any more behind this. */
    static String told(SleepRoads x) {
        StringBuilder all = new StringBuilder();
        all.append("trace ").append(x.trace());
        for (int what = 0; what < 4; what++) {
            all.append(" many ").append(x.many(what));
        }
        for (int a = 0; a < 4; a++) {
            for (int what = 0; what < 3; what++) {
                all.append(" sleeper ").append(x.ofSleeper(a, what));
            }
        }
        for (int p = 0; p < 9; p++) {
            all.append(" goods ").append(x.goods(p));
        }
        for (int k = 0; k < 4; k++) {
            for (int lane = 0; lane < 3; lane++) {
                for (int i = 0; i < 4; i++) {
                    all.append(" cell ").append(x.cell(k, i, lane));
                }
            }
            all.append(" last ").append(x.cell(k, 18, 0));
        }
        tellReadings(x, all);
        return all.toString();
    }

    private static void tellReadings(SleepRoads x, StringBuilder all) {
        for (int k = 0; k <= READINGS; k++) {
            for (int a = 0; a < 3; a++) {
                all.append(" sets ").append(x.strides(a)).append(' ').append(x.kinds(a)).append(' ').append(x.starts(a));
            }
            all.append(" left ").append(x.back(1));
        }
    }

    /** A call that must be answered so in a new World, change nothing in it, and leave this FAULT. */
    static void changesNothing(String call, ToLongFunction<SleepRoads> done, long want, int fault) {
        SleepRoads x = made();
        Due.is(call, done.applyAsLong(x), want);
        Due.is("the fault of " + call, x.fault(), fault);
        String before = told(made());
        String after = told(x);
        if (!before.equals(after)) {
            System.out.println("before: " + before + "\nbehind: " + after);
        }
        Due.is("nothing is changed by " + call, before.equals(after) ? 1 : 0, 1);
    }
}
