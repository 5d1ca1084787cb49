import java.util.function.ToLongFunction;

/** The part "Terms", ahead of its heads: each sentence that names a boundary case, with a test of its own. */
public final class TermsEdgesTest {
    private static final int UNKNOWN = -1, OUTSIDE = -2, STATE = -3, FULL = -4, NONE = -9;
    private static final int NULL = -11, CAST = -12, INDEX = -13, SIZE = -14;
    private static final long LOST = Long.MIN_VALUE;

    private TermsEdgesTest() {
    }

    public static void main(String[] args) {
        thereIsNoSuchPlace();
        thereIsNoSuchSleeper();
        thereIsNoSuchSheet();
        withoutATownThereIsNone();
        anotherNumberIsNotAsTold();
        ofSeveralRefusalsTheFirst();
        ofSeveralRefusalsOfAWalkTheFirst();
        refusalsChangeNothing();
        refusalsChangeTheFaultOfCallsThatNameFaults();
        nullThereIsNothing();
        castItIsOfAnotherLane();
        castItIsOfAnotherKind();
        indexOfCells();
        indexOfCellsOfWhichNoneIsTaken();
        sizeBelowZero();
        ofSeveralFaultsTheFirst();
        ofSeveralFaultsOfACopyTheFirst();
        itAnswersTenLess();
        whereALongIsAnsweredItIsLost();
        faultsChangeNothing();
        noneIsMinusNine();
        setsAreBits();
        sharesAreInLeastTerms();
        theLowerNumberIsAboveZero();
        Due.finish("TermsEdgesTest");
    }

    private static void faulty(String call, ToLongFunction<SleepRoads> done, int want) {
        World.changesNothing(call, done, want, -10 - want);
    }

    private static void refused(String call, ToLongFunction<SleepRoads> done, long want) {
        World.changesNothing(call, done, want, World.FAULT);
    }

    private static void refusedAndNamesFaults(String call, ToLongFunction<SleepRoads> done, long want) {
        World.changesNothing(call, done, want, 0);
    }

    /** "UNKNOWN (there is no such PLACE ..)" */
    private static void thereIsNoSuchPlace() {
        SleepRoads x = World.made();
        for (int p : Due.beside(3)) {
            Due.is("goods of " + p, x.goods(p), UNKNOWN);
            Due.is("lay at " + p, x.lay(p, 0), UNKNOWN);
            Due.is("walk from " + p, x.walk(p, 0, 0, 0, 0, 0), UNKNOWN);
            Due.is("soonest from " + p, x.soonest(p, 3, -1), UNKNOWN);
            Due.is("soonest to " + p, x.soonest(3, p, -1), UNKNOWN);
            Due.is("soonest from and to " + p, x.soonest(p, p, -1), UNKNOWN);
            Due.is("steer to " + p, x.steer(0, p, 0), UNKNOWN);
            Due.is("odds from " + p, x.odds(p, 3, 0, 0), LOST);
            Due.is("odds to " + p, x.odds(3, p, 0, 0), LOST);
            x.back(1);
            Due.is("reading at " + p, x.reading(0, 0, p), UNKNOWN);
        }
        Due.is("the last place is there", x.goods(3), 9);
        Due.is("the first place is there", x.goods(0), 1);
    }

    /** "UNKNOWN (there is no such .. SLEEPER ..)" */
    private static void thereIsNoSuchSleeper() {
        SleepRoads x = World.made();
        for (int a : Due.beside(2)) {
            Due.is("kind of " + a, x.ofSleeper(a, 0), UNKNOWN);
            Due.is("stride of " + a, x.stride(a, 0), UNKNOWN);
            Due.is("where " + a, x.where(a, 0), UNKNOWN);
            Due.is("taken by " + a, x.taken(a, 0), UNKNOWN);
            Due.is("meet of " + a, x.meet(a, 0), UNKNOWN);
            Due.is("meet with " + a, x.meet(0, a), UNKNOWN);
            Due.is("steer of " + a, x.steer(a, 0, 0), UNKNOWN);
            Due.is("strides of " + a, x.strides(a), UNKNOWN);
            Due.is("kinds of " + a, x.kinds(a), UNKNOWN);
            Due.is("starts of " + a, x.starts(a), UNKNOWN);
            Due.is("tell of " + a, x.tell(a), UNKNOWN);
            Due.is("waken of " + a, x.waken(a), UNKNOWN);
            Due.is("as of " + a, x.as(a, 0), UNKNOWN);
            x.back(1);
            Due.is("reading of " + a, x.reading(a, 0, 0), UNKNOWN);
        }
        Due.is("the last sleeper is there", x.ofSleeper(2, 0), 2);
        Due.is("the first sleeper is there", x.ofSleeper(0, 0), 0);
    }

    /** "UNKNOWN (there is no such .. SHEET ..)" */
    private static void thereIsNoSuchSheet() {
        SleepRoads x = World.made();
        for (int k : Due.beside(3)) {
            Due.is("town of " + k, x.town(k, 0, 0, 0), UNKNOWN);
            Due.is("walk of " + k, x.walk(3, k, 0, 0, 0, 0), UNKNOWN);
            Due.is("sheet " + k, x.sheet(k, 0, 0), UNKNOWN);
            Due.is("lose of " + k, x.lose(k), UNKNOWN);
            Due.is("put on " + k, x.put(k, 0, 0), UNKNOWN);
            Due.is("cell of " + k, x.cell(k, 0, 0), LOST);
            Due.is("copy of " + k, x.copy(k, 0, 0, 0, 0), UNKNOWN);
            Due.is("copy to " + k, x.copy(0, 0, k, 0, 0), UNKNOWN);
        }
        Due.is("the last sheet is there", x.lose(3), 1);
        Due.is("the first sheet is there", x.lose(0), 1);
    }

    /** There is no TOWN at first: no PLACE and no SLEEPER is known. */
    private static void withoutATownThereIsNone() {
        SleepRoads x = new SleepRoads();
        Due.is("goods", x.goods(0), UNKNOWN);
        Due.is("lay", x.lay(0, 0), UNKNOWN);
        Due.is("stride", x.stride(0, 0), UNKNOWN);
        Due.is("ofSleeper", x.ofSleeper(0, 0), UNKNOWN);
        Due.is("where", x.where(0, 0), UNKNOWN);
        Due.is("taken", x.taken(0, 0), UNKNOWN);
        Due.is("meet", x.meet(0, 1), UNKNOWN);
        Due.is("walk", x.walk(0, 0, 0, 0, 0, 0), UNKNOWN);
        Due.is("soonest", x.soonest(0, 0, -1), UNKNOWN);
        Due.is("steer", x.steer(0, 0, 0), UNKNOWN);
        Due.is("reading", x.reading(0, 0, 0), UNKNOWN);
        Due.is("strides", x.strides(0), UNKNOWN);
        Due.is("kinds", x.kinds(0), UNKNOWN);
        Due.is("starts", x.starts(0), UNKNOWN);
        Due.is("odds", x.odds(0, 0, 0, 0), LOST);
        Due.is("tell", x.tell(0), UNKNOWN);
        Due.is("waken", x.waken(0), UNKNOWN);
        Due.is("as", x.as(0, 0), UNKNOWN);
    }

    /** "OUTSIDE (another number is not as told)" */
    private static void anotherNumberIsNotAsTold() {
        SleepRoads x = World.made();
        for (int far : new int[] {Integer.MIN_VALUE, Integer.MAX_VALUE}) {
            Due.is("town", x.town(3, far, 0, 0), OUTSIDE);
            Due.is("ofSleeper", x.ofSleeper(0, far), OUTSIDE);
            Due.is("lay", x.lay(0, far), OUTSIDE);
            Due.is("stride", x.stride(0, far), OUTSIDE);
            Due.is("where", x.where(0, far), OUTSIDE);
            Due.is("taken", x.taken(0, far), OUTSIDE);
            Due.is("free", x.free(far), OUTSIDE);
            Due.is("walk, lane", x.walk(3, 0, far, 0, 0, 0), OUTSIDE);
            Due.is("walk, n", x.walk(3, 0, 0, 0, far, 0), OUTSIDE);
            Due.is("walk, what", x.walk(3, 0, 0, 0, 0, far), OUTSIDE);
            Due.is("soonest", x.soonest(3, 3, far), OUTSIDE);
            Due.is("steer", x.steer(0, 0, far), OUTSIDE);
            Due.is("reading", x.reading(0, far, 0), OUTSIDE);
            Due.is("back", x.back(far), OUTSIDE);
            Due.is("odds, n", x.odds(3, 3, far, 0), LOST);
            Due.is("odds, which", x.odds(3, 3, 0, far), LOST);
            Due.is("sheet", x.sheet(0, far, 0), OUTSIDE);
            Due.is("cell", x.cell(0, 0, far), LOST);
            Due.is("as", x.as(0, far), OUTSIDE);
            Due.is("many", x.many(far), OUTSIDE);
        }
        Due.is("sheet, n", x.sheet(0, 0, Integer.MAX_VALUE), OUTSIDE);
    }

    /** "of several the first in the order in which a call's line tells them" */
    private static void ofSeveralRefusalsTheFirst() {
        SleepRoads x = World.made();
        Due.is("town", x.town(4, 3, 0, 0), UNKNOWN);
        Due.is("ofSleeper", x.ofSleeper(3, 3), UNKNOWN);
        Due.is("lay", x.lay(4, 10), UNKNOWN);
        Due.is("stride", x.stride(3, 4), UNKNOWN);
        Due.is("where", x.where(3, 61), UNKNOWN);
        Due.is("taken", x.taken(3, 61), UNKNOWN);
        Due.is("free without a town", new SleepRoads().free(61), OUTSIDE);
        Due.is("soonest, no such place, k", x.soonest(3, 4, 60), UNKNOWN);
        Due.is("soonest, no such place, not free", x.soonest(0, 4, -1), UNKNOWN);
        Due.is("soonest, k, not free", x.soonest(0, 3, 60), OUTSIDE);
        Due.is("steer of no such sleeper", x.steer(3, 0, 61), UNKNOWN);
        Due.is("steer to no such place", x.steer(0, 4, 61), UNKNOWN);
        Due.is("reading of no such sleeper", x.reading(3, 61, 0), UNKNOWN);
        Due.is("reading at no such place", x.reading(0, 61, 4), UNKNOWN);
        Due.is("reading where there is no room", x.reading(0, 61, 0), OUTSIDE);
        Due.is("reading of no such sleeper where there is no room", x.reading(3, 0, 0), UNKNOWN);
        Due.is("reading at no such place where there is no room", x.reading(0, 0, 4), UNKNOWN);
        Due.is("reading", x.reading(0, 0, 0), FULL);
        Due.is("sheet, lane", x.sheet(4, 3, 0), UNKNOWN);
        Due.is("sheet, n", x.sheet(4, 0, 61), UNKNOWN);
        Due.is("as", x.as(3, 3), UNKNOWN);
    }

    /** The same, of the call that has the most of them. */
    private static void ofSeveralRefusalsOfAWalkTheFirst() {
        SleepRoads x = World.made();
        Due.is("place, lane", x.walk(4, 0, 3, 0, 0, 0), UNKNOWN);
        Due.is("sheet, lane", x.walk(3, 4, 3, 0, 0, 0), UNKNOWN);
        Due.is("sheet, n", x.walk(3, 4, 0, 0, 41, 0), UNKNOWN);
        Due.is("sheet, what", x.walk(3, 4, 0, 0, 0, 4), UNKNOWN);
        Due.is("sheet, not free", x.walk(0, 4, 0, 0, 0, 0), UNKNOWN);
        Due.is("lane, not free", x.walk(0, 0, 3, 0, 0, 0), OUTSIDE);
        Due.is("n, not free", x.walk(0, 0, 0, 0, 41, 0), OUTSIDE);
        Due.is("what, not free", x.walk(0, 0, 0, 0, 0, 4), OUTSIDE);
        Due.is("what, of a walk that is wrong", x.walk(3, 0, 0, 0, 1, 4), OUTSIDE);
        Due.is("not free, no act", x.walk(0, 1, 1, 1, 1, 0), STATE);
        Due.is("no act", x.walk(3, 1, 1, 1, 1, 0), OUTSIDE);
    }

    /** "They change nothing" */
    private static void refusalsChangeNothing() {
        refused("goods", x -> x.goods(4), UNKNOWN);
        refused("ofSleeper", x -> x.ofSleeper(0, 3), OUTSIDE);
        refused("lay", x -> x.lay(0, 10), OUTSIDE);
        refused("lay", x -> x.lay(0, -1), OUTSIDE);
        refused("lay", x -> x.lay(4, 1), UNKNOWN);
        refused("stride", x -> x.stride(0, 4), OUTSIDE);
        refused("stride", x -> x.stride(0, -1), OUTSIDE);
        refused("stride", x -> x.stride(3, 1), UNKNOWN);
        refused("where", x -> x.where(0, 61), OUTSIDE);
        refused("taken", x -> x.taken(0, 61), OUTSIDE);
        refused("free", x -> x.free(61), OUTSIDE);
        refused("meet", x -> x.meet(0, 0), UNKNOWN);
        refused("soonest", x -> x.soonest(0, 3, -1), STATE);
        refused("soonest", x -> x.soonest(3, 3, 60), OUTSIDE);
        refused("steer", x -> x.steer(0, 0, 61), OUTSIDE);
        refused("reading", x -> x.reading(0, 0, 0), FULL);
        refused("reading", x -> x.reading(0, 61, 0), OUTSIDE);
        refused("reading", x -> x.reading(0, 0, 4), UNKNOWN);
        refused("back", x -> x.back(9), OUTSIDE);
        refused("back", x -> x.back(-1), OUTSIDE);
        refused("strides", x -> x.strides(3), UNKNOWN);
        refused("kinds", x -> x.kinds(3), UNKNOWN);
        refused("starts", x -> x.starts(3), UNKNOWN);
        refused("odds", x -> x.odds(4, 0, 0, 0), LOST);
        refused("odds", x -> x.odds(3, 3, 0, 2), LOST);
        refused("lose", x -> x.lose(4), UNKNOWN);
        refused("tell", x -> x.tell(3), UNKNOWN);
        refused("waken", x -> x.waken(3), UNKNOWN);
        refused("many", x -> x.many(4), OUTSIDE);
    }

    /** "(but fault(), of a call that names FAULTS)" */
    private static void refusalsChangeTheFaultOfCallsThatNameFaults() {
        refusedAndNamesFaults("town", x -> x.town(4, 0, 0, 19), UNKNOWN);
        refusedAndNamesFaults("town", x -> x.town(3, 3, 0, 19), OUTSIDE);
        refusedAndNamesFaults("town", x -> x.town(3, 0, 0, 18), -118);
        refusedAndNamesFaults("town", x -> x.town(0, 0, 0, 3), -100);
        refusedAndNamesFaults("walk", x -> x.walk(4, 0, 0, 0, 0, 0), UNKNOWN);
        refusedAndNamesFaults("walk", x -> x.walk(3, 0, 0, 0, 41, 0), OUTSIDE);
        refusedAndNamesFaults("walk", x -> x.walk(0, 0, 0, 0, 0, 0), STATE);
        refusedAndNamesFaults("walk", x -> x.walk(3, 1, 1, 0, 2, 0), OUTSIDE);
        refusedAndNamesFaults("sheet", x -> x.sheet(4, 0, 0), UNKNOWN);
        refusedAndNamesFaults("sheet", x -> x.sheet(0, 3, 0), OUTSIDE);
        refusedAndNamesFaults("sheet", x -> x.sheet(0, 0, 61), OUTSIDE);
        refusedAndNamesFaults("put", x -> x.put(4, 0, 7), UNKNOWN);
        refusedAndNamesFaults("cell", x -> x.cell(4, 0, 0), LOST);
        refusedAndNamesFaults("cell", x -> x.cell(0, 0, 3), LOST);
        refusedAndNamesFaults("copy", x -> x.copy(4, 0, 0, 1, 1), UNKNOWN);
        refusedAndNamesFaults("copy", x -> x.copy(0, 0, 4, 1, 1), UNKNOWN);
        refusedAndNamesFaults("as", x -> x.as(3, 0), UNKNOWN);
        refusedAndNamesFaults("as", x -> x.as(0, 3), OUTSIDE);
    }

    /** "1 NULL (there is nothing)" */
    private static void nullThereIsNothing() {
        SleepRoads x = World.made();
        for (int lane = 0; lane < 3; lane++) {
            Due.is("town", x.town(2, lane, 0, 0), NULL);
            Due.is("walk", x.walk(3, 2, lane, 0, 0, 0), NULL);
            Due.is("cell", x.cell(2, 0, lane), LOST);
            Due.is("its fault", x.fault(), 1);
        }
        Due.is("put", x.put(2, 0, 0), NULL);
        Due.is("copy of it", x.copy(2, 0, 0, 0, 0), NULL);
        Due.is("copy to it", x.copy(0, 0, 2, 0, 0), NULL);
        Due.is("copy to itself", x.copy(2, 0, 2, 0, 0), NULL);
        Due.is("an empty row is not nothing", x.sheet(2, 0, 0), 1);
        Due.is("put", x.put(2, 0, 0), INDEX);
        Due.is("copy", x.copy(2, 0, 2, 0, 0), 0);
        Due.is("walk", x.walk(3, 2, 0, 0, 0, 0), 3);
        Due.is("town", x.town(2, 0, 0, 0), -100);
    }

    /** "2 CAST (it is of another LANE ..)" */
    private static void castItIsOfAnotherLane() {
        for (int lane = 0; lane < 3; lane++) {
            for (int other = 0; other < 3; other++) {
                SleepRoads x = World.made();
                Due.row(x, 0, lane, 0);
                Due.row(x, 1, other, 0);
                boolean alike = lane == other;
                Due.is("cell", x.cell(0, 0, other), alike ? 0 : LOST);
                Due.is("fault of cell", x.fault(), alike ? 0 : 2);
                Due.is("town", x.town(0, other, 0, 0), alike ? -100 : CAST);
                Due.is("walk", x.walk(3, 0, other, 0, 0, 0), alike ? 3 : CAST);
                Due.is("copy", x.copy(0, 0, 1, 0, 1), alike ? 1 : CAST);
            }
        }
    }

    /** "2 CAST (it is of another .. kind)" */
    private static void castItIsOfAnotherKind() {
        int[][] want = {{1, CAST, CAST}, {1, 1, CAST}, {1, 1, 1}};
        for (int a = 0; a < 3; a++) {
            for (int kind = 0; kind < 3; kind++) {
                SleepRoads x = World.made();
                Due.is("he of kind " + a + " as " + kind, x.as(a, kind), want[a][kind]);
                Due.is("the fault", x.fault(), want[a][kind] == 1 ? 0 : 2);
            }
        }
    }

    /** "3 INDEX" of one cell, and of cells that go beyond the last. */
    private static void indexOfCells() {
        SleepRoads x = World.made();
        for (int i : Due.beside(2)) {
            Due.is("put at " + i, x.put(0, i, 0), INDEX);
            Due.is("cell " + i, x.cell(0, i, 0), LOST);
            Due.is("fault of cell " + i, x.fault(), 3);
            Due.is("town from " + i, x.town(0, 0, i, 1), INDEX);
            Due.is("walk from " + i, x.walk(3, 0, 0, i, 1, 0), INDEX);
            Due.is("copy from " + i, x.copy(0, i, 0, 0, 1), INDEX);
            Due.is("copy to " + i, x.copy(0, 0, 0, i, 1), INDEX);
        }
        for (int i = 0; i < 3; i++) {
            Due.is("town beyond", x.town(0, 0, i, 4 - i), INDEX);
            Due.is("walk beyond", x.walk(3, 0, 0, i, 4 - i, 0), INDEX);
            Due.is("copy beyond", x.copy(0, i, 3, 0, 4 - i), INDEX);
            Due.is("copy to beyond", x.copy(3, 0, 0, i, 4 - i), INDEX);
            Due.is("town to the last", x.town(0, 0, i, 3 - i), -100);
            Due.is("walk to the last", x.walk(3, 0, 0, i, 3 - i, 1) >= NONE ? 1 : 0, 1);
            Due.is("copy to the last", x.copy(0, i, 3, 0, 3 - i), 3 - i);
            Due.is("copy onto the last", x.copy(3, 0, 0, i, 3 - i), 3 - i);
        }
    }

    /** "(of cells from i on also where i is not 0 .. how many there are, if none of them is taken, too)" */
    private static void indexOfCellsOfWhichNoneIsTaken() {
        for (int length : new int[] {0, 1, 60}) {
            SleepRoads x = World.made();
            Due.is("a row", x.sheet(0, 0, length), 1);
            for (int i : Due.beside(length)) {
                Due.is("town, none from " + i, x.town(0, 0, i, 0), INDEX);
                Due.is("walk, none from " + i, x.walk(3, 0, 0, i, 0, 0), INDEX);
                Due.is("copy, none from " + i, x.copy(0, i, 3, 0, 0), INDEX);
                Due.is("copy, none to " + i, x.copy(3, 0, 0, i, 0), INDEX);
            }
            for (int i : new int[] {0, length}) {
                Due.is("town, none from " + i, x.town(0, 0, i, 0), -100);
                Due.is("walk, none from " + i, x.walk(3, 0, 0, i, 0, 0), 3);
                Due.is("copy, none from " + i, x.copy(0, i, 3, 0, 0), 0);
                Due.is("copy, none to " + i, x.copy(3, 0, 0, i, 0), 0);
            }
        }
    }

    /** "4 SIZE (a length below 0)" */
    private static void sizeBelowZero() {
        for (int n : new int[] {-1, -60, Integer.MIN_VALUE}) {
            SleepRoads x = World.made();
            Due.is("sheet of " + n, x.sheet(0, 0, n), SIZE);
            Due.is("fault", x.fault(), 4);
            Due.is("town of " + n, x.town(3, 0, 0, n), SIZE);
            Due.is("fault", x.fault(), 4);
            Due.is("copy of " + n + " is told otherwise", x.copy(0, 0, 3, 0, n), INDEX);
            Due.is("walk of " + n + " is told otherwise", x.walk(3, 0, 0, 0, n, 0), OUTSIDE);
        }
        Due.is("sheet of 0", new SleepRoads().sheet(0, 0, 0), 1);
    }

    /** "Of a call the first that is come to, in the order told" */
    private static void ofSeveralFaultsTheFirst() {
        SleepRoads x = World.made();
        Due.is("town, nothing, n", x.town(2, 0, -1, -1), NULL);
        Due.is("town, nothing, i", x.town(2, 0, -1, 0), NULL);
        Due.is("town, lane, n", x.town(0, 1, 0, -1), CAST);
        Due.is("town, lane, i", x.town(0, 1, 4, 0), CAST);
        Due.is("town, n, i", x.town(0, 0, 4, -1), SIZE);
        Due.is("town, i, no text", x.town(0, 0, 1, 3), INDEX);
        Due.is("walk, nothing, i", x.walk(3, 2, 0, -1, 0, 0), NULL);
        Due.is("walk, lane, i", x.walk(3, 0, 1, 4, 0, 0), CAST);
        Due.is("walk, lane, no act", x.walk(3, 1, 0, 1, 1, 0), CAST);
        Due.is("walk, beyond, no act", x.walk(3, 1, 1, 1, 3, 0), INDEX);
        Due.is("put on nothing", x.put(2, -1, 0), NULL);
        cellComesTo(x, 2, -1, 0, 1);
        cellComesTo(x, 0, -1, 1, 2);
        cellComesTo(x, 0, 3, 2, 2);
        cellComesTo(x, 0, 3, 0, 3);
        Due.is("sheet, lane, n", x.sheet(0, 3, -1), OUTSIDE);
    }

    private static void cellComesTo(SleepRoads x, int k, int i, int lane, int fault) {
        Due.is("cell", x.cell(k, i, lane), LOST);
        Due.is("its fault", x.fault(), fault);
    }

    /** The same, of the call that takes two SHEETS. */
    private static void ofSeveralFaultsOfACopyTheFirst() {
        SleepRoads x = World.made();
        Due.is("no such sheet, nothing", x.copy(2, 0, 4, 0, 0), UNKNOWN);
        Due.is("nothing, no such sheet", x.copy(4, 0, 2, 0, 0), UNKNOWN);
        Due.is("nothing, i", x.copy(2, -1, 0, 0, 0), NULL);
        Due.is("nothing, j", x.copy(0, 0, 2, -1, 0), NULL);
        Due.is("nothing, n", x.copy(2, 0, 2, 0, -1), NULL);
        Due.is("lane, i", x.copy(0, -1, 1, 0, 0), CAST);
        Due.is("lane, j", x.copy(0, 0, 1, 4, 0), CAST);
        Due.is("lane, n", x.copy(0, 0, 1, 0, -1), CAST);
        Due.is("i, j, n", x.copy(0, -1, 3, -1, -1), INDEX);
    }

    /** "it answers -10 less it .. fault() tells it" */
    private static void itAnswersTenLess() {
        SleepRoads x = World.made();
        Due.is("NULL", x.put(2, 0, 0), -11);
        Due.is("it is told", x.fault(), 1);
        Due.is("CAST", x.as(0, 2), -12);
        Due.is("it is told", x.fault(), 2);
        Due.is("INDEX", x.put(0, 3, 0), -13);
        Due.is("it is told", x.fault(), 3);
        Due.is("SIZE", x.sheet(0, 0, -1), -14);
        Due.is("it is told", x.fault(), 4);
    }

    /** "(LOST, where a long is answered, as for refusals)" */
    private static void whereALongIsAnsweredItIsLost() {
        Due.is("LOST", SleepRoads.LOST, Long.MIN_VALUE);
        SleepRoads x = World.made();
        Due.is("no such sheet", x.cell(-1, 0, 0), Long.MIN_VALUE);
        Due.is("no such lane", x.cell(0, 0, -1), Long.MIN_VALUE);
        Due.is("nothing", x.cell(2, 0, 0), Long.MIN_VALUE);
        Due.is("another lane", x.cell(0, 0, 1), Long.MIN_VALUE);
        Due.is("no such cell", x.cell(0, 3, 0), Long.MIN_VALUE);
        Due.is("no such place", x.odds(4, 0, 0, 0), Long.MIN_VALUE);
        Due.is("no such n", x.odds(3, 0, -1, 0), Long.MIN_VALUE);
        Due.row(x, 2, 2, Integer.MIN_VALUE);
        Due.is("the least int isn't lost", x.cell(2, 0, 2), -2147483648L);
    }

    /** "and changes nothing; fault() tells it" */
    private static void faultsChangeNothing() {
        faulty("town of nothing", x -> x.town(2, 0, 0, 0), NULL);
        faulty("town of another lane", x -> x.town(3, 1, 0, 19), CAST);
        faulty("town of cells beyond", x -> x.town(3, 0, 0, 20), INDEX);
        faulty("town of cells below", x -> x.town(3, 0, -1, 19), INDEX);
        faulty("town of less than none", x -> x.town(3, 0, 0, -1), SIZE);
        faulty("walk of nothing", x -> x.walk(3, 2, 0, 0, 0, 0), NULL);
        faulty("walk of another lane", x -> x.walk(3, 0, 1, 0, 0, 0), CAST);
        faulty("walk of cells beyond", x -> x.walk(3, 0, 0, 0, 4, 0), INDEX);
        faulty("sheet of less than none", x -> x.sheet(0, 2, -1), SIZE);
        faulty("put on nothing", x -> x.put(2, 0, 7), NULL);
        faulty("put beyond", x -> x.put(0, 3, 7), INDEX);
        faulty("put below", x -> x.put(0, -1, 7), INDEX);
        faulty("copy of nothing", x -> x.copy(2, 0, 0, 0, 0), NULL);
        faulty("copy to nothing", x -> x.copy(0, 0, 2, 0, 0), NULL);
        faulty("copy to another lane", x -> x.copy(0, 0, 1, 0, 2), CAST);
        faulty("copy of cells beyond", x -> x.copy(0, 1, 3, 0, 3), INDEX);
        faulty("copy to cells beyond", x -> x.copy(3, 0, 0, 1, 3), INDEX);
        faulty("as of another kind", x -> x.as(0, 1), CAST);
        World.changesNothing("cell of nothing", x -> x.cell(2, 0, 0), LOST, 1);
        World.changesNothing("cell of another lane", x -> x.cell(0, 0, 2), LOST, 2);
        World.changesNothing("cell beyond", x -> x.cell(0, 3, 0), LOST, 3);
    }

    /** "NONE is -9." */
    private static void noneIsMinusNine() {
        Due.is("NONE", SleepRoads.NONE, -9);
        SleepRoads x = Due.townOf("z4;s00;s20/0000");
        Due.is("they never meet", x.meet(0, 1), -9);
        Due.is("no walk", x.soonest(1, 3, -1), -9);
        Due.is("no act", x.soonest(1, 1, 0), -9);
        Due.is("no stride", x.steer(0, 1, 0), -9);
        Due.is("none wrong", x.walk(1, 3, 0, 0, 0, 1), -9);
    }

    /** "Sets are told as bits (bit k for number k)." */
    private static void setsAreBits() {
        SleepRoads x = Due.townOf("z9;s01/000000000");
        for (int p = 0; p < 9; p++) {
            Due.is("all but " + p, x.free(p), 511 - (1 << p));
            Due.is("a reading", x.reading(0, p, p), 0);
            Due.is("kinds", x.kinds(0), p == 0 ? 7 : p == 7 ? 5 : 1);
            Due.is("strides", x.strides(0), p == 0 ? 15 : 2);
            Due.is("none is left", x.back(1), 0);
            Due.is("in minute 0", x.reading(0, 0, p), 0);
            Due.is("starts", x.starts(0), 1 << p);
            Due.is("none is left", x.back(1), 0);
        }
        Due.is("all starts", x.starts(0), 511);
        Due.is("an empty set", Due.townOf("z3;s00;s10;s20/000").free(0), 0);
        Due.is("where one was", x.walk(8, 3, 0, 0, 0, 2), 256);
    }

    /** "Shares are told as upper and lower number .. in least terms." */
    private static void sharesAreInLeastTerms() {
        // From 3 one is at 3 at once, unless a walker is there: of n who start there all must stay in bed.
        String[] sleepers = {";s30", ";s30;s30", ";s30;s30;s30", ";s30;s30;s30;s30"};
        for (int n = 0; n < 4; n++) {
            SleepRoads x = Due.townOf("z5" + sleepers[n] + "/00000");
            Due.is("one of all", x.odds(3, 3, 0, 0), 1);
            Due.is("all", x.odds(3, 3, 0, 1), 2 << n);
        }
        SleepRoads x = Due.townOf("z5;s30;s00;s00;s00/00000");
        Due.is("8 of 16", x.odds(3, 3, 0, 0), 1);
        Due.is("8 of 16", x.odds(3, 3, 0, 1), 2);
        SleepRoads y = Due.townOf("z5;s00;s10;s10;s40/00000");
        // From 2 to 0: he at 0 in bed, and they at 1 or he at 4: 5 of 16; in two minutes but 2 of 16.
        Due.is("5 of 16", y.odds(2, 0, 60, 0), 5);
        Due.is("5 of 16", y.odds(2, 0, 60, 1), 16);
        Due.is("2 of 16", y.odds(2, 0, 2, 0), 1);
        Due.is("2 of 16", y.odds(2, 0, 2, 1), 8);
    }

    /** "(above 0)" */
    private static void theLowerNumberIsAboveZero() {
        SleepRoads x = Due.townOf("z5;s30;s30;s20/00000");
        Due.is("none", x.odds(0, 2, 1, 0), 0);
        Due.is("none", x.odds(0, 2, 1, 1), 1);
        Due.is("all", x.odds(0, 0, 0, 0), 1);
        Due.is("all", x.odds(0, 0, 0, 1), 1);
        SleepRoads four = Due.townOf("z5;s30;s30;s20;s20/00000");
        Due.is("none of 16", four.odds(0, 2, 1, 0), 0);
        Due.is("none of 16", four.odds(0, 2, 1, 1), 1);
    }
}
