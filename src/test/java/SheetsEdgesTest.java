/** Head 5 and promises 21 to 31: each sentence that names a boundary case, with a test of its own. */
public final class SheetsEdgesTest {
    private static final int UNKNOWN = -1, OUTSIDE = -2;
    private static final int NULL = -11, CAST = -12, INDEX = -13, SIZE = -14;
    private static final long LOST = Long.MIN_VALUE;
    /** One SLEEPER of each kind, and two more. */
    private static final String FOUR = "z3;s03;m02;r01;m00/000";

    private SheetsEdgesTest() {
    }

    public static void main(String[] args) {
        sheetsHaveNothingAtFirst();
        aRowOf0To60Numbers();
        itsNumbersAre0AtFirst();
        whatComesToACellIsCut();
        sheetUnknown();
        sheetOutside();
        sheetSize();
        loseARow();
        putCells();
        cellsAsARowOfALane();
        cellRefused();
        copyToAnother();
        copyToTheSame();
        copyNone();
        copyAll();
        copyBeyond();
        copyUnlikeLanes();
        copyOfNothing();
        bodiesLeaveTheirNumber();
        tellingOfEachKind();
        tellingByStrides0To3();
        wakenedByALentBody();
        wakenedByTheirOwnBody();
        tellAndWakenUnknown();
        asKinds();
        asRefused();
        traceIs0AtFirst();
        traceWraps();
        the512thCall();
        traceOfARefusedCall();
        faultIs0AheadOfAny();
        faultOfTheLatestCallThatNamesOne();
        faultOfACallThatCameToNone();
        callsThatNameNoFaultLeaveIt();
        manyWithoutATown();
        manyOfATown();
        manyOutside();
        Due.finish("SheetsEdgesTest");
    }

    private static void isRow(SleepRoads x, int k, int lane, int... numbers) {
        for (int i = 0; i < numbers.length; i++) {
            Due.is("cell " + i, x.cell(k, i, lane), numbers[i]);
        }
        Due.is("no more", x.cell(k, numbers.length, lane), LOST);
    }

    /** "SHEETS 0 .. 3 have nothing (at first)" */
    private static void sheetsHaveNothingAtFirst() {
        SleepRoads x = new SleepRoads();
        for (int k = 0; k < 4; k++) {
            Due.is("put", x.put(k, 0, 0), NULL);
            Due.is("cell", x.cell(k, 0, 0), LOST);
            Due.is("fault", x.fault(), 1);
            Due.is("town", x.town(k, 0, 0, 0), NULL);
            Due.is("copy", x.copy(k, 0, k, 0, 0), NULL);
            Due.is("lose", x.lose(k), 0);
        }
    }

    /** "or a row of 0 .. 60 numbers" */
    private static void aRowOf0To60Numbers() {
        for (int n : new int[] {0, 1, 59, 60}) {
            for (int lane = 0; lane < 3; lane++) {
                SleepRoads x = new SleepRoads();
                Due.is("a row of " + n, x.sheet(2, lane, n), 1);
                Due.is("none behind", x.put(2, n, 1), INDEX);
                Due.is("the last", x.put(2, n - 1, 1), n == 0 ? INDEX : 1);
                Due.is("the first", x.put(2, 0, 1), n == 0 ? INDEX : 1);
                Due.is("it was there", x.lose(2), 1);
            }
        }
    }

    /** "(0 at first)", in a row that is new in place of another, too. */
    private static void itsNumbersAre0AtFirst() {
        for (int lane = 0; lane < 3; lane++) {
            SleepRoads x = new SleepRoads();
            x.sheet(0, lane, 60);
            for (int i = 0; i < 60; i++) {
                Due.is("cell " + i, x.cell(0, i, lane), 0);
                x.put(0, i, i + 1);
            }
            int next = (lane + 1) % 3;
            Due.is("a shorter row", x.sheet(0, next, 3), 1);
            isRow(x, 0, next, 0, 0, 0);
            Due.is("a longer row", x.sheet(0, lane, 60), 1);
            for (int i = 0; i < 60; i++) {
                Due.is("cell " + i, x.cell(0, i, lane), 0);
            }
        }
        SleepRoads y = new SleepRoads();
        Due.row(y, 0, 0, 1, 2, 3);
        Due.is("as long a row of the same lane", y.sheet(0, 0, 3), 1);
        isRow(y, 0, 0, 0, 0, 0);
        Due.row(y, 0, 0, 1, 2, 3);
        Due.is("it is lost", y.lose(0), 1);
        Due.is("it is there again", y.sheet(0, 0, 3), 1);
        isRow(y, 0, 0, 0, 0, 0);
    }

    /** "a LANE: 0 bytes, 1 shorts, 2 ints; what comes to a cell of it is cut to its LANE" */
    private static void whatComesToACellIsCut() {
        int[] numbers = {0, 127, 128, 255, 256, 257, -128, -129, -256, 32767, 32768, 65535, 65536, -32768, -32769,
            Integer.MAX_VALUE, Integer.MIN_VALUE, Integer.MIN_VALUE + 127};
        int[] asByte = {0, 127, -128, -1, 0, 1, -128, 127, 0, -1, 0, -1, 0, 0, -1, -1, 0, 127};
        int[] asShort = {0, 127, 128, 255, 256, 257, -128, -129, -256, 32767, -32768, -1, 0, -32768, 32767, -1, 0, 127};
        SleepRoads x = new SleepRoads();
        for (int lane = 0; lane < 3; lane++) {
            Due.row(x, lane, lane, numbers);
        }
        isRow(x, 0, 0, asByte);
        isRow(x, 1, 1, asShort);
        isRow(x, 2, 2, numbers);
    }

    /** Promise 21: "UNKNOWN". */
    private static void sheetUnknown() {
        SleepRoads x = new SleepRoads();
        for (int k : Due.beside(3)) {
            Due.is("sheet " + k, x.sheet(k, 0, 1), UNKNOWN);
            Due.is("sheet " + k + " of less than none", x.sheet(k, 0, -1), UNKNOWN);
        }
        for (int k = 0; k < 4; k++) {
            Due.is("sheet " + k + " has nothing", x.lose(k), 0);
        }
    }

    /** Promise 21: "OUTSIDE: lane, n above 60". */
    private static void sheetOutside() {
        SleepRoads x = new SleepRoads();
        Due.row(x, 0, 1, 300);
        for (int lane : Due.beside(2)) {
            Due.is("lane " + lane, x.sheet(0, lane, 1), OUTSIDE);
            Due.is("lane " + lane + ", n below 0", x.sheet(0, lane, -1), OUTSIDE);
        }
        Due.is("n 61", x.sheet(0, 0, 61), OUTSIDE);
        Due.is("n greatest", x.sheet(0, 0, Integer.MAX_VALUE), OUTSIDE);
        Due.is("no fault", x.fault(), 0);
        isRow(x, 0, 1, 300);
        Due.is("n 60", x.sheet(0, 0, 60), 1);
    }

    /** Promise 21: "SIZE." */
    private static void sheetSize() {
        SleepRoads x = new SleepRoads();
        Due.row(x, 0, 1, 300);
        Due.is("n -1", x.sheet(0, 0, -1), SIZE);
        Due.is("the fault", x.fault(), 4);
        Due.is("n least", x.sheet(0, 0, Integer.MIN_VALUE), SIZE);
        isRow(x, 0, 1, 300);
        Due.is("n -1 where there is nothing", x.sheet(1, 0, -1), SIZE);
        Due.is("it has nothing still", x.lose(1), 0);
        Due.is("n 0", x.sheet(0, 0, 0), 1);
        Due.is("no fault", x.fault(), 0);
    }

    /** Promise 22: "A SHEET has nothing: 1; 0: it had nothing. UNKNOWN." */
    private static void loseARow() {
        SleepRoads x = new SleepRoads();
        for (int k = 0; k < 4; k++) {
            Due.is("it had nothing", x.lose(k), 0);
            Due.is("an empty row", x.sheet(k, 2, 0), 1);
            Due.is("it had that", x.lose(k), 1);
            Due.is("it had nothing", x.lose(k), 0);
            Due.row(x, k, 2, 1, 2);
            Due.is("it had a row", x.lose(k), 1);
            Due.is("nothing", x.put(k, 0, 1), NULL);
            Due.is("nothing of any lane", x.cell(k, 0, 0), LOST);
            Due.is("nothing is no cast", x.fault(), 1);
        }
        for (int k : Due.beside(3)) {
            Due.is("sheet " + k, x.lose(k), UNKNOWN);
        }
        Due.row(x, 0, 0, 5);
        Due.row(x, 1, 0, 6);
        Due.is("one is lost", x.lose(0), 1);
        isRow(x, 1, 0, 6);
    }

    /** Promise 23: "Cell i of a SHEET becomes v: 1. UNKNOWN; NULL; INDEX." */
    private static void putCells() {
        SleepRoads x = new SleepRoads();
        Due.is("60 cells", x.sheet(3, 2, 60), 1);
        Due.is("the first", x.put(3, 0, Integer.MIN_VALUE), 1);
        Due.is("the last", x.put(3, 59, Integer.MAX_VALUE), 1);
        Due.is("the first", x.cell(3, 0, 2), Integer.MIN_VALUE);
        Due.is("beside it", x.cell(3, 1, 2), 0);
        Due.is("the last", x.cell(3, 59, 2), Integer.MAX_VALUE);
        for (int i : Due.beside(59)) {
            Due.is("cell " + i, x.put(3, i, 1), INDEX);
            Due.is("cell " + i + " of nothing", x.put(2, i, 1), NULL);
            Due.is("cell " + i + " of no sheet", x.put(4, i, 1), UNKNOWN);
            Due.is("cell " + i + " of no sheet", x.put(-1, i, 1), UNKNOWN);
        }
        Due.is("3 cells", x.sheet(3, 2, 3), 1);
        Due.is("cell 3, where there was one", x.put(3, 3, 1), INDEX);
    }

    /** Promise 24: "Cell i of what a SHEET has, taken as a row of a LANE .. CAST (nothing is no CAST), NULL, INDEX." */
    private static void cellsAsARowOfALane() {
        for (int has = 0; has < 3; has++) {
            SleepRoads x = new SleepRoads();
            Due.row(x, 1, has, 7, 8);
            for (int lane = 0; lane < 3; lane++) {
                Due.is("the first", x.cell(1, 0, lane), lane == has ? 7 : LOST);
                Due.is("fault", x.fault(), lane == has ? 0 : 2);
                Due.is("the last", x.cell(1, 1, lane), lane == has ? 8 : LOST);
                Due.is("behind it", x.cell(1, 2, lane), LOST);
                Due.is("fault", x.fault(), lane == has ? 3 : 2);
                Due.is("below it", x.cell(1, -1, lane), LOST);
                Due.is("fault", x.fault(), lane == has ? 3 : 2);
                Due.is("of nothing", x.cell(0, 2, lane), LOST);
                Due.is("fault", x.fault(), 1);
            }
        }
    }

    /** Promise 24: "LOST: UNKNOWN, OUTSIDE: lane". */
    private static void cellRefused() {
        SleepRoads x = new SleepRoads();
        Due.row(x, 1, 0, 7);
        for (int k : Due.beside(3)) {
            x.put(0, 0, 0);
            Due.is("sheet " + k, x.cell(k, 0, 0), LOST);
            Due.is("no fault", x.fault(), 0);
        }
        for (int lane : Due.beside(2)) {
            x.put(0, 0, 0);
            Due.is("lane " + lane, x.cell(1, 0, lane), LOST);
            Due.is("no fault", x.fault(), 0);
            x.put(0, 0, 0);
            Due.is("lane " + lane + " of nothing", x.cell(0, 0, lane), LOST);
            Due.is("no fault", x.fault(), 0);
        }
    }

    /** Promise 25: "n cells of a SHEET from i on go to another one .. from j on .. n" */
    private static void copyToAnother() {
        for (int lane = 0; lane < 3; lane++) {
            SleepRoads x = new SleepRoads();
            Due.row(x, 0, lane, 1, 2, 3, 4, 5);
            Due.row(x, 3, lane, 6, 7, 8, 9);
            Due.is("two", x.copy(0, 1, 3, 2, 2), 2);
            isRow(x, 3, lane, 6, 7, 2, 3);
            isRow(x, 0, lane, 1, 2, 3, 4, 5);
            Due.is("the last", x.copy(3, 3, 0, 4, 1), 1);
            isRow(x, 0, lane, 1, 2, 3, 4, 3);
            Due.is("the first", x.copy(3, 0, 0, 0, 1), 1);
            isRow(x, 0, lane, 6, 2, 3, 4, 3);
            isRow(x, 3, lane, 6, 7, 2, 3);
        }
    }

    /** "(perhaps the same) .. as they were" */
    private static void copyToTheSame() {
        SleepRoads x = new SleepRoads();
        Due.row(x, 0, 2, 1, 2, 3, 4, 5);
        Due.is("on by one", x.copy(0, 0, 0, 1, 4), 4);
        isRow(x, 0, 2, 1, 1, 2, 3, 4);
        Due.row(x, 0, 2, 1, 2, 3, 4, 5);
        Due.is("back by one", x.copy(0, 1, 0, 0, 4), 4);
        isRow(x, 0, 2, 2, 3, 4, 5, 5);
        Due.row(x, 0, 2, 1, 2, 3, 4, 5);
        Due.is("on by two", x.copy(0, 0, 0, 2, 3), 3);
        isRow(x, 0, 2, 1, 2, 1, 2, 3);
        Due.is("where they are", x.copy(0, 0, 0, 0, 5), 5);
        isRow(x, 0, 2, 1, 2, 1, 2, 3);
        Due.is("none is left over", x.copy(0, 0, 0, 4, 1), 1);
        isRow(x, 0, 2, 1, 2, 1, 2, 1);
    }

    /** n is 0: no cell goes; i and j may be as many as there are. */
    private static void copyNone() {
        SleepRoads x = new SleepRoads();
        Due.row(x, 0, 0, 1, 2);
        Due.row(x, 1, 0);
        Due.is("from the first", x.copy(0, 0, 1, 0, 0), 0);
        Due.is("from the end", x.copy(0, 2, 1, 0, 0), 0);
        Due.is("to the end", x.copy(1, 0, 0, 2, 0), 0);
        Due.is("of none to none", x.copy(1, 0, 1, 0, 0), 0);
        Due.is("no fault", x.fault(), 0);
        Due.is("from behind the end", x.copy(0, 3, 1, 0, 0), INDEX);
        Due.is("to behind the end", x.copy(0, 2, 1, 1, 0), INDEX);
        isRow(x, 0, 0, 1, 2);
    }

    /** The whole of 60 cells. */
    private static void copyAll() {
        SleepRoads x = new SleepRoads();
        Due.is("60 cells", x.sheet(0, 1, 60), 1);
        Due.is("60 cells", x.sheet(1, 1, 60), 1);
        for (int i = 0; i < 60; i++) {
            x.put(0, i, i * 500);
        }
        Due.is("all", x.copy(0, 0, 1, 0, 60), 60);
        for (int i = 0; i < 60; i++) {
            Due.is("cell " + i, x.cell(1, i, 1), i * 500);
        }
        Due.is("61", x.copy(0, 0, 1, 0, 61), INDEX);
        Due.is("60 from 1 on", x.copy(0, 1, 1, 0, 60), INDEX);
        Due.is("60 to 1 on", x.copy(0, 0, 1, 1, 60), INDEX);
    }

    /** "INDEX: i, j, n below 0 or beyond" */
    private static void copyBeyond() {
        SleepRoads x = new SleepRoads();
        Due.row(x, 0, 0, 1, 2, 3);
        Due.row(x, 1, 0, 4, 5, 6, 7, 8);
        int max = Integer.MAX_VALUE;
        int min = Integer.MIN_VALUE;
        int[][] beyond = {{-1, 0, 1}, {0, -1, 1}, {0, 0, -1}, {min, 0, 1}, {0, min, 1}, {0, 0, min}, {3, 0, 1},
            {0, 5, 1}, {1, 0, 3}, {0, 3, 3}, {0, 0, 4}, {max, 0, 1}, {0, max, 1}, {0, 0, max}, {1, 1, max},
            {max, max, max}, {min, min, min}, {max, 0, max}, {4, 0, 0}, {0, 6, 0}, {4, 0, -1}, {-1, 0, 0}, {0, -1, 0}};
        for (int[] row : beyond) {
            Due.is("beyond", x.copy(0, row[0], 1, row[1], row[2]), INDEX);
            Due.is("the fault", x.fault(), 3);
        }
        isRow(x, 0, 0, 1, 2, 3);
        isRow(x, 1, 0, 4, 5, 6, 7, 8);
        Due.is("to the very end", x.copy(0, 0, 1, 2, 3), 3);
        isRow(x, 1, 0, 4, 5, 1, 2, 3);
    }

    /** "CAST (unlike LANES)" */
    private static void copyUnlikeLanes() {
        for (int one = 0; one < 3; one++) {
            for (int other = 0; other < 3; other++) {
                SleepRoads x = new SleepRoads();
                Due.row(x, 0, one, 1, 2);
                Due.row(x, 1, other, 3, 4);
                Due.is("copy", x.copy(0, 0, 1, 0, 2), one == other ? 2 : CAST);
                Due.is("copy of none", x.copy(0, 0, 1, 0, 0), one == other ? 0 : CAST);
                Due.is("copy beyond", x.copy(0, 0, 1, 0, 3), one == other ? INDEX : CAST);
                isRow(x, 1, other, one == other ? 1 : 3, one == other ? 2 : 4);
            }
        }
    }

    /** "UNKNOWN; FAULTS NULL (the first, the other)" */
    private static void copyOfNothing() {
        SleepRoads x = new SleepRoads();
        Due.row(x, 0, 1, 1);
        Due.is("the first", x.copy(1, 0, 0, 0, 1), NULL);
        Due.is("the fault", x.fault(), 1);
        Due.is("the other", x.copy(0, 0, 1, 0, 1), NULL);
        Due.is("the fault", x.fault(), 1);
        Due.is("both", x.copy(1, 0, 2, 0, 0), NULL);
        Due.is("the same", x.copy(1, 0, 1, 0, 0), NULL);
        for (int k : Due.beside(3)) {
            Due.is("no such sheet", x.copy(k, 0, 0, 0, 1), UNKNOWN);
            Due.is("to no such sheet", x.copy(0, 0, k, 0, 1), UNKNOWN);
            Due.is("no such sheet to nothing", x.copy(k, 0, 1, 0, 1), UNKNOWN);
            Due.is("nothing to no such sheet", x.copy(1, 0, k, 0, 1), UNKNOWN);
        }
        isRow(x, 0, 1, 1);
    }

    /** "bodies that leave their number in TRACE .. as they begin" */
    private static void bodiesLeaveTheirNumber() {
        Due.is("sleeper", traceOf(0, true), 1);
        Due.is("moonstruck, sleeper", traceOf(1, true), 31 * 2 + 1);
        Due.is("restless, moonstruck, sleeper, sleeper", traceOf(2, true), 31 * (31 * (31 * 3 + 2) + 1) + 1);
        Due.is("lent", traceOf(0, false), 4);
        Due.is("lent", traceOf(1, false), 4);
        Due.is("of the restless", traceOf(2, false), 5);
    }

    private static int traceOf(int a, boolean tells) {
        SleepRoads x = Due.townOf(FOUR);
        Due.is("trace", x.trace(), 0);
        int told = tells ? x.tell(a) : x.waken(a);
        Due.is("it answers", told >= 0 ? 1 : 0, 1);
        return x.trace();
    }

    /** "SLEEPER (1): STRIDE. MOONSTRUCK (2): .. and 100. RESTLESS (3): .. (MOONSTRUCK's left out)." */
    private static void tellingOfEachKind() {
        SleepRoads x = Due.townOf(FOUR);
        Due.is("sleeper", x.tell(0), 3);
        Due.is("moonstruck", x.tell(1), 102);
        Due.is("restless", x.tell(2), 102);
        Due.is("moonstruck, the last", x.tell(3), 100);
    }

    /** The least and the greatest STRIDE. */
    private static void tellingByStrides0To3() {
        SleepRoads x = Due.townOf(FOUR);
        for (int v = 0; v <= 3; v++) {
            for (int a = 0; a < 3; a++) {
                x.stride(a, v);
                Due.is("by " + v, x.tell(a), a == 0 ? v : a == 1 ? 100 + v : 100 + v + v);
            }
        }
    }

    /** "WAKENED by a lent body (4): his number": 0 to 3. */
    private static void wakenedByALentBody() {
        SleepRoads x = Due.townOf("z3;s00;m00;s11;m22/000");
        for (int a = 0; a < 4; a++) {
            Due.is("his number", x.waken(a), a);
        }
        Due.is("trace", x.trace(), 31 * (31 * (31 * 4 + 4) + 4) + 4);
    }

    /** "RESTLESS ones have their own (5): 90." */
    private static void wakenedByTheirOwnBody() {
        SleepRoads x = Due.townOf("z3;r00;r03;r20;r22/000");
        for (int a = 0; a < 4; a++) {
            Due.is("whatever his number", x.waken(a), 90);
        }
        Due.is("trace", x.trace(), 31 * (31 * (31 * 5 + 5) + 5) + 5);
    }

    /** Promises 26 and 27: "UNKNOWN." */
    private static void tellAndWakenUnknown() {
        SleepRoads x = Due.townOf(FOUR);
        for (int a : Due.beside(3)) {
            Due.is("tell of " + a, x.tell(a), UNKNOWN);
            Due.is("waken of " + a, x.waken(a), UNKNOWN);
        }
        Due.is("no body began", x.trace(), 0);
    }

    /** Promise 28: "A SLEEPER, taken as one of a kind: 1. .. CAST: he is none." */
    private static void asKinds() {
        int[] kindOf = {0, 1, 2, 1};
        SleepRoads x = Due.townOf(FOUR);
        for (int a = 0; a < 4; a++) {
            for (int kind = 0; kind < 3; kind++) {
                boolean isOne = kind <= kindOf[a];
                Due.is("he as " + kind, x.as(a, kind), isOne ? 1 : CAST);
                Due.is("the fault", x.fault(), isOne ? 0 : 2);
            }
            Due.is("he is what he was", x.ofSleeper(a, 0), kindOf[a]);
        }
        Due.is("no body began", x.trace(), 0);
    }

    /** Promise 28: "UNKNOWN; OUTSIDE". */
    private static void asRefused() {
        SleepRoads x = Due.townOf(FOUR);
        for (int a : Due.beside(3)) {
            x.as(0, 2);
            Due.is("sleeper " + a, x.as(a, 0), UNKNOWN);
            Due.is("sleeper " + a + ", no kind", x.as(a, 3), UNKNOWN);
            Due.is("no fault", x.fault(), 0);
        }
        for (int kind : Due.beside(2)) {
            x.as(0, 2);
            Due.is("kind " + kind, x.as(2, kind), OUTSIDE);
            Due.is("no fault", x.fault(), 0);
        }
    }

    /** Promise 29: TRACE, "0 at first". */
    private static void traceIs0AtFirst() {
        SleepRoads x = new SleepRoads();
        Due.is("at first", x.trace(), 0);
        Due.is("a town", Due.read(x, FOUR), 4);
        Due.is("no body began", x.trace(), 0);
        Due.is("his number", x.waken(0), 0);
        Due.is("lent", x.trace(), 4);
        Due.is("a new town", Due.read(x, FOUR), 4);
        Due.is("it stays", x.trace(), 4);
    }

    /** "(an int that wraps ..)" */
    private static void traceWraps() {
        SleepRoads x = Due.townOf(FOUR);
        long unwrapped = 0;
        for (int k = 0; k < 6; k++) {
            x.waken(2);
            unwrapped = unwrapped * 31 + 5;
        }
        Due.is("it fits", x.trace(), unwrapped);
        x.waken(2);
        unwrapped = unwrapped * 31 + 5;
        Due.is("it is too large", unwrapped, 4585435685L);
        Due.is("it has wrapped", x.trace(), 4585435685L - 4294967296L);
        x.waken(2);
        Due.is("and again", x.trace(), 414585472);
        x.waken(2);
        Due.is("below 0", x.trace(), -32752251);
    }

    /** "An object is used for at most 512 calls": the last of them is answered as the first is. */
    private static void the512thCall() {
        SleepRoads x = Due.townOf("z3;r11/000");
        int want = 0;
        for (int call = 13; call <= 511; call++) {
            Due.is("call " + call, x.waken(0), 90);
            want = want * 31 + 5;
        }
        Due.is("call 512", x.trace(), want);
    }

    /** A call that is refused begins no body. */
    private static void traceOfARefusedCall() {
        SleepRoads x = Due.townOf(FOUR);
        Due.is("moonstruck", x.tell(1), 102);
        x.tell(4);
        x.tell(-1);
        x.waken(4);
        x.waken(-1);
        x.as(1, 2);
        Due.is("it stays", x.trace(), 63);
    }

    /** Promise 30: "(0 ahead of any)" */
    private static void faultIs0AheadOfAny() {
        SleepRoads x = new SleepRoads();
        Due.is("at first", x.fault(), 0);
        x.goods(0);
        x.lose(0);
        x.many(9);
        x.free(0);
        Due.is("ahead of any that names one", x.fault(), 0);
    }

    /** "The FAULT of the latest call that names one" */
    private static void faultOfTheLatestCallThatNamesOne() {
        SleepRoads x = Due.townOf(FOUR);
        Due.row(x, 0, 0, 9);
        x.put(1, 0, 0);
        Due.is("put", x.fault(), 1);
        x.as(0, 1);
        Due.is("as", x.fault(), 2);
        x.copy(0, 0, 0, 1, 1);
        Due.is("copy", x.fault(), 3);
        x.sheet(0, 0, -1);
        Due.is("sheet", x.fault(), 4);
        x.cell(0, 0, 1);
        Due.is("cell", x.fault(), 2);
        x.town(0, 0, 0, -1);
        Due.is("town", x.fault(), 4);
        x.walk(1, 1, 0, 0, 0, 0);
        Due.is("walk", x.fault(), 1);
        Due.is("it is told again", x.fault(), 1);
    }

    /** "0: it came to none, or was refused" */
    private static void faultOfACallThatCameToNone() {
        SleepRoads x = Due.townOf("z3;s00/000");
        for (int call = 0; call < 14; call++) {
            Due.is("a fault", x.put(3, 60, 0), INDEX);
            Due.is("it is told", x.fault(), 3);
            Due.is("call " + call + " isn't refused", namesFaults(x, call) >= 0 ? 1 : 0, call < 7 ? 1 : 0);
            Due.is("none, of call " + call, x.fault(), 0);
        }
    }

    /** Calls that name FAULTS: 7 that come to none, 7 that are refused. */
    private static long namesFaults(SleepRoads x, int call) {
        switch (call) {
            case 0: return x.town(3, 0, 0, 10);
            case 1: return x.walk(1, 3, 0, 0, 0, 0);
            case 2: return x.sheet(0, 0, 3);
            case 3: return x.put(0, 0, 0);
            case 4: return x.cell(0, 0, 0);
            case 5: return x.copy(0, 0, 0, 0, 3);
            case 6: return x.as(0, 0);
            case 7: return x.town(3, 0, 0, 9);
            case 8: return x.walk(0, 3, 0, 0, 0, 0);
            case 9: return x.sheet(0, 0, 61);
            case 10: return x.put(4, 0, 0);
            case 11: return x.cell(0, 0, 3);
            case 12: return x.copy(0, 0, 4, 0, 3);
            default: return x.as(0, 3);
        }
    }

    /** Calls that name none leave what the latest came to, whether they are refused or not. */
    private static void callsThatNameNoFaultLeaveIt() {
        SleepRoads x = Due.townOf(FOUR);
        Due.is("a fault", x.as(0, 1), CAST);
        for (int k = 0; k < 5; k += 4) {
            x.ofSleeper(k, 0);
            x.goods(k);
            x.lay(k, 1);
            x.stride(k, 1);
            x.where(k, 0);
            x.taken(k, 0);
            x.free(k * 20);
            x.meet(k, 1);
            x.soonest(k, 0, -1);
            x.soonest(1, k, 0);
            x.steer(k, 0, 0);
            x.guard();
            x.reading(k, 0, 0);
            x.back(k);
            x.strides(k);
            x.kinds(k);
            x.starts(k);
            x.odds(k, 0, 0, 0);
            x.lose(k);
            x.tell(k);
            x.waken(k);
            x.trace();
            x.many(k);
            Due.is("it stays", x.fault(), 2);
        }
    }

    /** Promise 31: "(0 all without a TOWN)" */
    private static void manyWithoutATown() {
        SleepRoads x = new SleepRoads();
        for (int what = 0; what < 4; what++) {
            Due.is("many " + what, x.many(what), 0);
        }
        Due.is("a text that isn't taken", Due.read(x, "z9;s00;s00/99999999"), -119);
        for (int what = 0; what < 4; what++) {
            Due.is("many " + what, x.many(what), 0);
        }
    }

    /** Promise 31: "0 SLEEPERS, 1 PLACES, 2 GOODS of all, 3 READINGS" */
    private static void manyOfATown() {
        SleepRoads least = Due.townOf("z3;s00/000");
        int[] few = {1, 3, 0, 0};
        SleepRoads most = Due.townOf("z9;s00;s00;s00;s00/999999999");
        int[] many = {4, 9, 81, 8};
        for (int k = 0; k < 8; k++) {
            most.reading(0, 0, 0);
        }
        for (int what = 0; what < 4; what++) {
            Due.is("the least", least.many(what), few[what]);
            Due.is("the most", most.many(what), many[what]);
        }
        most.lay(8, 0);
        Due.is("less is laid", most.many(2), 72);
        most.taken(0, 60);
        Due.is("what is taken counts", most.many(2), 72);
    }

    /** Promise 31: "OUTSIDE." */
    private static void manyOutside() {
        SleepRoads x = Due.townOf(FOUR);
        for (int what : Due.beside(3)) {
            Due.is("what " + what, x.many(what), OUTSIDE);
            Due.is("what " + what + " without a town", new SleepRoads().many(what), OUTSIDE);
        }
    }
}
