/** What the project's tests share: answers held against those that are due, and short ways to tell rows. */
final class Due {
    private static int wrong = 0;
    private static int held = 0;

    private Due() {
    }

    static void is(String call, long got, long want) {
        held++;
        if (got != want) {
            wrong++;
            System.out.println(call + " answered " + got + ", due is " + want);
        }
    }

    static void finish(String name) {
        System.out.println(name + ": " + held + " answers, " + wrong + " of them not as due");
        if (wrong != 0 || held == 0) {
            System.exit(1);
        }
    }

    /** Puts a row of a LANE on a SHEET. */
    static void row(SleepRoads x, int k, int lane, int... numbers) {
        is("sheet", x.sheet(k, lane, numbers.length), 1);
        for (int i = 0; i < numbers.length; i++) {
            is("put", x.put(k, i, numbers[i]), 1);
        }
    }

    /** What town answers to a TEXT, which is put on SHEET 3 as bytes. */
    static int read(SleepRoads x, String text) {
        row(x, 3, 0, text.chars().toArray());
        return x.town(3, 0, 0, text.length());
    }

    static SleepRoads townOf(String text) {
        SleepRoads x = new SleepRoads();
        is("town of " + text, read(x, text), text.chars().filter(code -> code == ';').count());
        return x;
    }

    /** Numbers that are not 0 .. last: the nearest ones and the farthest. */
    static int[] beside(int last) {
        return new int[] {-1, last + 1, Integer.MIN_VALUE, Integer.MAX_VALUE};
    }

    /** A set told by its numbers. */
    static int set(int... numbers) {
        int set = 0;
        for (int k : numbers) {
            set |= 1 << k;
        }
        return set;
    }
}
