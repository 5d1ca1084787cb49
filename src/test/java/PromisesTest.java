/** The promises one by one: ordinary inputs, the edges that the document names, wrong inputs. */
public final class PromisesTest {
    private static final int UNKNOWN = -1, OUTSIDE = -2, STATE = -3, FULL = -4, NONE = -9;
    private static final int NULL = -11, CAST = -12, INDEX = -13, SIZE = -14;
    private static final long LOST = Long.MIN_VALUE;

    /** SLEEPER 0 one at 0 by 2; 1 MOONSTRUCK at 1 by 0; 2 RESTLESS at 4 by 1; 7 PLACES. */
    private static final String SEVEN = "z7;s02;m10;r41/1234567";
    /** One SLEEPER who goes nowhere. */
    private static final String STILL = "z5;s00/11111";

    private PromisesTest() {
    }

    public static void main(String[] args) {
        constants();
        newObject();
        townTakesTexts();
        townFindsFirstFaults();
        townRefuses();
        townMakesAllAnew();
        ofSleeper();
        goods();
        lay();
        stride();
        where();
        taken();
        free();
        meet();
        walkAnswers();
        walkRefuses();
        soonest();
        steer();
        guard();
        reading();
        back();
        strides();
        kinds();
        starts();
        odds();
        sheet();
        lose();
        put();
        cell();
        copy();
        tell();
        waken();
        as();
        trace();
        fault();
        many();
        Due.finish("PromisesTest");
    }

    private static void constants() {
        Due.is("UNKNOWN", SleepRoads.UNKNOWN, UNKNOWN);
        Due.is("OUTSIDE", SleepRoads.OUTSIDE, OUTSIDE);
        Due.is("STATE", SleepRoads.STATE, STATE);
        Due.is("FULL", SleepRoads.FULL, FULL);
        Due.is("NONE", SleepRoads.NONE, NONE);
        Due.is("LOST", SleepRoads.LOST, LOST);
    }

    // Promise 1
    private static void newObject() {
        SleepRoads x = new SleepRoads();
        for (int what = 0; what < 4; what++) {
            Due.is("many of nothing", x.many(what), 0);
        }
        for (int k = 0; k < 4; k++) {
            Due.is("put on nothing", x.put(k, 0, 0), NULL);
            Due.is("lose of nothing", x.lose(k), 0);
        }
        SleepRoads y = new SleepRoads();
        Due.is("trace at first", y.trace(), 0);
        Due.is("fault at first", y.fault(), 0);
        Due.is("goods without a town", y.goods(0), UNKNOWN);
        Due.is("ofSleeper without a town", y.ofSleeper(0, 0), UNKNOWN);
        Due.is("reading without a town", y.reading(0, 0, 0), UNKNOWN);
        Due.is("soonest without a town", y.soonest(0, 0, -1), UNKNOWN);
        Due.is("odds without a town", y.odds(0, 0, 0, 0), LOST);
        Due.is("free without a town", y.free(0), STATE);
        Due.is("free outside without a town", y.free(61), OUTSIDE);
        Due.is("guard without a town", y.guard(), STATE);
        Due.is("tell without a town", y.tell(0), UNKNOWN);
        Due.is("back of none", y.back(0), 0);
        Due.is("back of one", y.back(1), OUTSIDE);
    }

    // Promise 2
    private static void townTakesTexts() {
        String[] texts = {"z3;s00/000", "z9;r83;m72;s01;s10/987654321", SEVEN};
        for (String text : texts) {
            for (int lane = 0; lane < 3; lane++) {
                SleepRoads x = new SleepRoads();
                Due.row(x, lane, lane, ("zz" + text + "/").chars().toArray());
                Due.is(text, x.town(lane, lane, 2, text.length()), text.chars().filter(c -> c == ';').count());
                Due.is("places of " + text, x.many(1), text.charAt(1) - '0');
            }
        }
    }

    private static void townFindsFirstFaults() {
        Object[][] faults = {
            {"", 0}, {"y", 0}, {"z", 1}, {"z2", 1}, {"z:", 1}, {"zz", 1}, {"z3", 2}, {"z3/", 2}, {"z3s", 2},
            {"z3;", 3}, {"z3;t", 3}, {"z3;;", 3}, {"z3;s", 4}, {"z3;s3", 4}, {"z3;s/", 4}, {"z3;s2", 5},
            {"z3;s24", 5}, {"z3;s2;", 5}, {"z3;s23", 6}, {"z3;s230", 6}, {"z3;s23/", 7}, {"z3;s23/12", 9},
            {"z3;s23/12:", 9}, {"z3;s23/12;", 9}, {"z3;s23/123", NONE}, {"z3;s23/1234", 10}, {"z3;s23/123/", 10},
            {"z9;s00;m11;r22;s33", 18}, {"z9;s00;m11;r22;s33;s00/000000000", 18}, {"z9;s00;m11;r22;s33/", 19},
            {"z9;s83;m83;r93/", 12}, {"z4;s00;m40/0000", 8}, {"z3;S00/000", 3}, {"Z3;s00/000", 0},
        };
        for (Object[] row : faults) {
            SleepRoads x = Due.townOf(STILL);
            String text = (String) row[0];
            int firstFault = (Integer) row[1];
            int want = firstFault == NONE ? 1 : -100 - firstFault;
            Due.is(text, Due.read(x, text), want);
            Due.is("places behind " + text, x.many(1), want == 1 ? 3 : 5);
            Due.is("fault behind " + text, x.fault(), 0);
        }
        SleepRoads x = new SleepRoads();
        Due.row(x, 0, 2, 'z' + 256, 'z', '0' - Integer.MIN_VALUE, Integer.MIN_VALUE, 'z', '3' + 65536, -1);
        Due.is("z in another byte", x.town(0, 2, 0, 7), -100);
        Due.is("a digit that wraps", x.town(0, 2, 1, 6), -101);
        Due.is("3 in another short", x.town(0, 2, 4, 3), -101);
        Due.row(x, 1, 0, 'z' + 256, '3' - 256, -1);
        Due.is("bytes are cut", x.town(1, 0, 0, 3), -102);
    }

    private static void townRefuses() {
        SleepRoads x = new SleepRoads();
        Due.is("sheet -1", x.town(-1, 3, -1, -1), UNKNOWN);
        Due.is("sheet 4", x.town(4, 0, 0, 0), UNKNOWN);
        Due.is("lane 3", x.town(0, 3, -1, -1), OUTSIDE);
        Due.is("lane -1", x.town(0, -1, -1, -1), OUTSIDE);
        Due.is("nothing", x.town(0, 0, -1, -1), NULL);
        Due.row(x, 0, 1, 'z', '3');
        Due.is("of another lane", x.town(0, 0, -1, -1), CAST);
        Due.is("of another lane", x.town(0, 2, -1, -1), CAST);
        Due.is("n below 0", x.town(0, 1, -1, -1), SIZE);
        Due.is("n least", x.town(0, 1, 3, Integer.MIN_VALUE), SIZE);
        Due.is("i below 0", x.town(0, 1, -1, 1), INDEX);
        Due.is("i below 0, none", x.town(0, 1, -1, 0), INDEX);
        Due.is("beyond", x.town(0, 1, 1, 2), INDEX);
        Due.is("beyond, none", x.town(0, 1, 3, 0), INDEX);
        Due.is("at the end, none", x.town(0, 1, 2, 0), -100);
        Due.is("a sum that wraps", x.town(0, 1, 2, Integer.MAX_VALUE), INDEX);
        Due.is("i greatest", x.town(0, 1, Integer.MAX_VALUE, 1), INDEX);
        Due.is("no town came of it", x.many(1), 0);
    }

    private static void townMakesAllAnew() {
        SleepRoads x = Due.townOf(SEVEN);
        Due.row(x, 1, 2, 5);
        x.reading(0, 1, 2);
        x.lay(0, 9);
        x.stride(0, 3);
        x.tell(0);
        Due.is("a text that isn't taken", Due.read(x, "z3;s00/00"), -109);
        Due.is("readings stay", x.many(3), 1);
        Due.is("stride stays", x.ofSleeper(0, 2), 3);
        Due.is("goods stay", x.goods(0), 9);
        Due.is("start stays", x.ofSleeper(2, 1), 4);
        Due.is("the next text", Due.read(x, SEVEN), 3);
        Due.is("readings are gone", x.many(3), 0);
        Due.is("stride as told", x.ofSleeper(0, 2), 2);
        Due.is("goods as told", x.goods(0), 1);
        Due.is("trace stays", x.trace(), 1);
        Due.is("sheets stay", x.cell(1, 0, 2), 5);
        Due.is("fewer", Due.read(x, "z3;m23/123"), 1);
        Due.is("no such place", x.goods(3), UNKNOWN);
        Due.is("no such sleeper", x.ofSleeper(1, 0), UNKNOWN);
        Due.is("goods of all", x.many(2), 6);
        Due.is("free", x.free(0), Due.set(0, 1));
    }

    // Promise 3
    private static void ofSleeper() {
        SleepRoads x = Due.townOf(SEVEN);
        int[][] want = {{0, 0, 2}, {1, 1, 0}, {2, 4, 1}};
        for (int a = 0; a < 3; a++) {
            for (int what = 0; what < 3; what++) {
                Due.is("ofSleeper", x.ofSleeper(a, what), want[a][what]);
            }
            Due.is("what 3", x.ofSleeper(a, 3), OUTSIDE);
            Due.is("what -1", x.ofSleeper(a, -1), OUTSIDE);
        }
        Due.is("sleeper 3", x.ofSleeper(3, 3), UNKNOWN);
        Due.is("sleeper -1", x.ofSleeper(-1, 0), UNKNOWN);
    }

    // Promise 4
    private static void goods() {
        SleepRoads x = Due.townOf(SEVEN);
        for (int p = 0; p < 7; p++) {
            Due.is("goods", x.goods(p), p + 1);
        }
        x.taken(0, 60);
        Due.is("what is taken is still told", x.goods(0), 1);
        Due.is("place 7", x.goods(7), UNKNOWN);
        Due.is("place -1", x.goods(-1), UNKNOWN);
        Due.is("place 9", x.goods(9), UNKNOWN);
    }

    // Promise 5
    private static void lay() {
        SleepRoads x = Due.townOf(SEVEN);
        Due.is("lay", x.lay(6, 9), 7);
        Due.is("lay again", x.lay(6, 0), 9);
        Due.is("goods", x.goods(6), 0);
        Due.is("v 10", x.lay(0, 10), OUTSIDE);
        Due.is("v -1", x.lay(0, -1), OUTSIDE);
        Due.is("place 7", x.lay(7, 10), UNKNOWN);
        Due.is("place -1", x.lay(-1, 0), UNKNOWN);
        Due.is("unchanged", x.goods(0), 1);
        x.lay(0, 9);
        Due.is("taken follows", x.taken(0, 0), 9);
        Due.is("many follows", x.many(2), 29);
    }

    // Promise 6
    private static void stride() {
        SleepRoads x = Due.townOf(SEVEN);
        Due.is("stride", x.stride(1, 3), 0);
        Due.is("stride again", x.stride(1, 0), 3);
        Due.is("v 4", x.stride(1, 4), OUTSIDE);
        Due.is("v -1", x.stride(1, -1), OUTSIDE);
        Due.is("unchanged", x.ofSleeper(1, 2), 0);
        Due.is("sleeper 3", x.stride(3, 4), UNKNOWN);
        Due.is("sleeper -1", x.stride(-1, 0), UNKNOWN);
        Due.is("from minute 0 on", x.stride(0, 1), 2);
        Due.is("where follows", x.where(0, 5), 5);
    }

    // Promise 7
    private static void where() {
        SleepRoads x = Due.townOf("z9;s01;m01;r01;r80/111111111");
        int[][] want = {{0, 1, 2, 3, 4, 5, 6}, {0, 2, 4, 6, 8, 1, 3}, {0, 4, 4, 8, 8, 3, 3}, {8, 1, 1, 3, 3, 5, 5}};
        for (int a = 0; a < 4; a++) {
            for (int minute = 0; minute < 7; minute++) {
                Due.is("where " + a + " in " + minute, x.where(a, minute), want[a][minute]);
            }
        }
        Due.is("the last minute", x.where(0, 60), 6);
        Due.is("the last minute", x.where(2, 60), 3);
        Due.is("the last but one", x.where(2, 59), 3);
        Due.is("minute 61", x.where(0, 61), OUTSIDE);
        Due.is("minute -1", x.where(0, -1), OUTSIDE);
        Due.is("sleeper 4", x.where(4, -1), UNKNOWN);
        Due.is("sleeper -1", x.where(-1, 0), UNKNOWN);
    }

    // Promise 8
    private static void taken() {
        SleepRoads x = Due.townOf("z5;s01;m03;s42/12345");
        // Minute 0: 0 takes 1, 2 takes 5. Minute 1: 0 at 1, 1 at 4, 2 at 1. Minute 2: 0 at 2, 1 at 3, 2 at 3.
        int[][] want = {{1, 3, 6, 6}, {0, 0, 4, 4}, {5, 5, 5, 5}};
        for (int a = 0; a < 3; a++) {
            for (int minute = 0; minute < 4; minute++) {
                Due.is("taken by " + a + " to " + minute, x.taken(a, minute), want[a][minute]);
            }
            Due.is("asked again", x.taken(a, 60), want[a][3]);
        }
        SleepRoads y = Due.townOf("z3;s10;s10/090");
        Due.is("the least takes", y.taken(0, 60), 9);
        Due.is("another nothing", y.taken(1, 60), 0);
        Due.is("minute 61", y.taken(0, 61), OUTSIDE);
        Due.is("minute -1", y.taken(0, -1), OUTSIDE);
        Due.is("sleeper 2", y.taken(2, 61), UNKNOWN);
        Due.is("sleeper -1", y.taken(-1, 0), UNKNOWN);
    }

    // Promise 9
    private static void free() {
        SleepRoads x = Due.townOf(SEVEN);
        Due.is("free", x.free(0), Due.set(2, 3, 5, 6));
        Due.is("free", x.free(1), Due.set(0, 3, 4, 5, 6));
        Due.is("free", x.free(60), Due.set(0, 2, 3, 4, 6));
        Due.is("minute 61", x.free(61), OUTSIDE);
        Due.is("minute -1", x.free(-1), OUTSIDE);
        Due.is("none is free", Due.townOf("z3;s00;s11;m20/000").free(0), 0);
        Due.is("the fourth", Due.townOf("z4;s00;s00;s00;s20/0000").free(60), Due.set(1, 3));
    }

    // Promise 10
    private static void meet() {
        SleepRoads x = Due.townOf("z9;s01;s00;s80;m30/000000000");
        Due.is("at last", x.meet(0, 2), 8);
        Due.is("in minute 9", x.meet(1, 0), 0);
        Due.is("never", x.meet(1, 2), NONE);
        Due.is("both as fast", x.meet(0, 3), NONE);
        Due.is("in one place at first", Due.townOf("z3;s20;m22/000").meet(1, 0), 0);
        Due.is("one with himself", x.meet(1, 1), UNKNOWN);
        Due.is("sleeper 4", x.meet(0, 4), UNKNOWN);
        Due.is("sleeper -1", x.meet(-1, 0), UNKNOWN);
        Due.is("none with himself", x.meet(7, 7), UNKNOWN);
    }

    // Promise 11
    private static void walkAnswers() {
        SleepRoads x = Due.townOf(STILL);
        Due.row(x, 0, 1, 9, 0, 1, 1, 0, 2, 0, 1, 1, 1, 2);
        int[] want = {2, NONE, Due.set(1, 2, 3), 3};
        for (int what = 0; what < 4; what++) {
            Due.is("walk", x.walk(1, 0, 1, 1, 6, what), want[what]);
        }
        Due.is("walk", x.walk(1, 0, 1, 1, 7, 0), 3);
        Due.is("walk", x.walk(1, 0, 1, 1, 8, 0), 4);
        Due.is("round the square", x.walk(1, 0, 1, 1, 9, 1), 8);
        for (int what = 0; what < 4; what += what == 0 ? 2 : 1) {
            Due.is("wrong", x.walk(1, 0, 1, 1, 9, what), -108);
            Due.is("wrong at once", x.walk(1, 0, 1, 10, 1, what), -100);
        }
        Due.is("no act", x.walk(4, 0, 1, 11, 0, 0), 4);
        Due.is("no act", x.walk(4, 0, 1, 11, 0, 1), NONE);
        Due.is("no act", x.walk(4, 0, 1, 11, 0, 2), Due.set(4));
        Due.is("no act", x.walk(4, 0, 1, 11, 0, 3), 0);
        SleepRoads y = Due.townOf("z5;s01/11111");
        Due.row(y, 0, 0, 1, 1, 1, 2, 0);
        Due.is("on ahead of him", y.walk(1, 0, 0, 0, 3, 0), 4);
        Due.is("into him as the next minute begins", y.walk(2, 0, 0, 3, 1, 1), 0);
        Due.is("behind his back", y.walk(4, 0, 0, 0, 2, 0), 1);
        Due.is("he comes upon him", y.walk(1, 0, 0, 4, 1, 1), 0);
        Due.is("where he was is free", y.walk(4, 0, 0, 0, 1, 0), 0);
        Due.is("back over 0", y.walk(4, 0, 0, 3, 1, 0), 3);
        SleepRoads four = Due.townOf("z5;s40;s40;s40;s20/00000");
        Due.row(four, 0, 0, 1);
        Due.is("the fourth is in the way", four.walk(1, 0, 0, 0, 1, 1), 0);
        Due.is("the fourth is there", four.walk(2, 0, 0, 0, 0, 0), STATE);
        SleepRoads z = Due.townOf("z3;s10/000");
        Due.row(z, 0, 2, 2, 1);
        Due.is("back behind 0, on from the last", z.walk(0, 0, 2, 0, 2, 0), 0);
        Due.is("back behind 0, on from the last", z.walk(0, 0, 2, 0, 2, 2), Due.set(0, 2));
    }

    private static void walkRefuses() {
        SleepRoads x = Due.townOf(STILL);
        Due.is("place 5", x.walk(5, 0, 3, 0, 0, 0), UNKNOWN);
        Due.is("place -1", x.walk(-1, 0, 0, 0, 0, 0), UNKNOWN);
        Due.is("sheet 4", x.walk(1, 4, 0, 0, 41, 4), UNKNOWN);
        Due.is("sheet -1", x.walk(1, -1, 0, 0, 0, 0), UNKNOWN);
        Due.is("lane 3", x.walk(0, 0, 3, 0, 0, 0), OUTSIDE);
        Due.is("lane -1", x.walk(0, 0, -1, 0, 0, 0), OUTSIDE);
        Due.is("n 41", x.walk(0, 0, 0, 0, 41, 0), OUTSIDE);
        Due.is("n -1", x.walk(0, 0, 0, 0, -1, 0), OUTSIDE);
        Due.is("what 4", x.walk(0, 0, 0, 0, 0, 4), OUTSIDE);
        Due.is("what -1", x.walk(0, 0, 0, 0, 0, -1), OUTSIDE);
        Due.is("not free", x.walk(0, 0, 0, 0, 0, 0), STATE);
        Due.is("nothing", x.walk(1, 0, 0, -1, 1, 0), NULL);
        Due.row(x, 0, 0, new int[41]);
        Due.is("of another lane", x.walk(1, 0, 1, -1, 1, 0), CAST);
        Due.is("i below 0", x.walk(1, 0, 0, -1, 0, 0), INDEX);
        Due.is("beyond", x.walk(1, 0, 0, 2, 40, 0), INDEX);
        Due.is("beyond, none", x.walk(1, 0, 0, 42, 0, 0), INDEX);
        Due.is("i greatest", x.walk(1, 0, 0, Integer.MAX_VALUE, 40, 0), INDEX);
        Due.is("40 acts", x.walk(1, 0, 0, 1, 40, 3), 40);
        Due.row(x, 0, 0, 2, 0, 3, -1);
        Due.is("no act, behind a wrong one", x.walk(1, 0, 0, 0, 3, 1), OUTSIDE);
        Due.is("no act -1", x.walk(1, 0, 0, 3, 1, 0), OUTSIDE);
        Due.is("no act behind its cells", x.walk(2, 0, 0, 1, 1, 0), 2);
        Due.is("fault is none then", x.fault(), 0);
    }

    // Promise 12
    private static void soonest() {
        SleepRoads x = Due.townOf(SEVEN);
        int[] acts = {5, 1, 2, 1, 1, 1, NONE};
        for (int k = -1; k < acts.length - 1; k++) {
            Due.is("soonest " + k, x.soonest(2, 5, k), acts[k + 1]);
        }
        Due.is("the same", x.soonest(6, 6, -1), 0);
        Due.is("the same has no act", x.soonest(6, 6, 0), NONE);
        Due.is("there is no act 59", x.soonest(2, 5, 59), NONE);
        Due.is("k 60", x.soonest(0, 5, 60), OUTSIDE);
        Due.is("k -2", x.soonest(2, 5, -2), OUTSIDE);
        Due.is("not free", x.soonest(0, 5, -1), STATE);
        Due.is("the same, not free", x.soonest(0, 0, -1), STATE);
        Due.is("place 7", x.soonest(7, 0, 60), UNKNOWN);
        Due.is("to place 7", x.soonest(2, 7, -1), UNKNOWN);
        Due.is("place -1", x.soonest(-1, 2, -1), UNKNOWN);
        Due.is("to place -1", x.soonest(2, -1, -1), UNKNOWN);
        SleepRoads y = Due.townOf(STILL);
        Due.is("where one sleeps", y.soonest(1, 0, -1), NONE);
        Due.is("no walk, no act", y.soonest(1, 0, 0), NONE);
        Due.is("the long way round", y.soonest(1, 4, -1), 3);
        SleepRoads z = Due.townOf("z8;s00;s40/00000000");
        Due.is("shut in", z.soonest(1, 5, -1), NONE);
        Due.is("within", z.soonest(1, 3, -1), 2);
        SleepRoads ties = Due.townOf("z4;m00/0000");
        Due.is("either way round", ties.soonest(1, 3, -1), 2);
        Due.is("on comes before back", ties.soonest(1, 3, 0), 1);
        Due.is("on comes before back", ties.soonest(1, 3, 1), 1);
        Due.is("staying comes before both", x.soonest(3, 1, 0), 0);
        SleepRoads long35 = Due.townOf("z7;r40;r10;r20;r60/0000000");
        Due.is("a long way", long35.soonest(0, 1, -1), 35);
        Due.is("no more acts", long35.soonest(0, 1, 35), NONE);
        isWalkOfSoonest(long35, 0, 1, 35);
        isWalkOfSoonest(x, 2, 5, 5);
        isWalkOfSoonest(z, 1, 3, 2);
        SleepRoads four = Due.townOf("z5;s40;s40;s40;s20/00000");
        Due.is("the fourth is in the way", four.soonest(1, 3, -1), NONE);
        Due.is("the fourth is there", four.soonest(2, 3, -1), STATE);
        SleepRoads chased = Due.townOf("z9;s60;s60;s60;s82/000000000");
        Due.is("he must wait for the fourth", chased.soonest(1, 3, -1), 3);
        Due.is("but not where the fourth comes", chased.soonest(1, 3, 0), 1);
        Due.is("but there", chased.soonest(1, 3, 1), 0);
    }

    /** Its ACTS, told as a walk, come there and are not wrong. */
    private static void isWalkOfSoonest(SleepRoads x, int from, int to, int minutes) {
        int[] acts = new int[minutes];
        for (int k = 0; k < minutes; k++) {
            acts[k] = x.soonest(from, to, k);
        }
        Due.row(x, 0, 0, acts);
        Due.is("the soonest as a walk", x.walk(from, 0, 0, 0, minutes, 0), to);
    }

    // Promise 13
    private static void steer() {
        SleepRoads x = Due.townOf("z4;s02;m02;r02/0000");
        Due.is("his own", x.steer(0, 2, 1), 2);
        Due.is("of two the lesser", x.steer(0, 2, 2), 1);
        Due.is("the nearest", x.steer(0, 0, 2), 2);
        Due.is("by 1 more", x.steer(1, 1, 1), 0);
        Due.is("by 4", x.steer(1, 0, 1), 3);
        Due.is("by twice as much", x.steer(2, 2, 1), 2);
        Due.is("by twice as much", x.steer(2, 0, 2), 1);
        Due.is("there is none", x.steer(0, 1, 2), NONE);
        Due.is("in minute 0 his own", x.steer(0, 0, 0), 2);
        Due.is("in minute 0 nowhere else", x.steer(0, 1, 0), NONE);
        Due.is("0 is his own", Due.townOf(STILL).steer(0, 0, 0), 0);
        Due.is("3 is nearer", Due.townOf("z3;s03/000").steer(0, 0, 1), 3);
        Due.is("the last minute", x.steer(0, 0, 60), 2);
        Due.is("minute 61", x.steer(0, 0, 61), OUTSIDE);
        Due.is("minute -1", x.steer(0, 0, -1), OUTSIDE);
        Due.is("sleeper 3", x.steer(3, 0, 61), UNKNOWN);
        Due.is("sleeper -1", x.steer(-1, 0, 0), UNKNOWN);
        Due.is("place 4", x.steer(0, 4, 61), UNKNOWN);
        Due.is("place -1", x.steer(0, -1, 0), UNKNOWN);
        Due.is("nothing is changed", x.ofSleeper(0, 2), 2);
    }

    // Promise 14
    private static void guard() {
        Due.is("the least of several", Due.townOf(SEVEN).guard(), 0);
        Due.is("where two come", Due.townOf("z6;s50;s30;s32/000000").guard(), 3);
        Due.is("he counts once", Due.townOf("z5;s20;s40;s40/00000").guard(), 4);
        Due.is("nobody at 0", Due.townOf("z5;s30/00000").guard(), 3);
        Due.is("no town", new SleepRoads().guard(), STATE);
        Due.is("he comes to every third only", Due.townOf("z9;s13;s70/000000000").guard(), 7);
    }

    // Promise 15
    private static void reading() {
        SleepRoads x = Due.townOf(SEVEN);
        Due.is("sleeper 3", x.reading(3, 61, 0), UNKNOWN);
        Due.is("sleeper -1", x.reading(-1, 0, 0), UNKNOWN);
        Due.is("place 7", x.reading(0, 61, 7), UNKNOWN);
        Due.is("place -1", x.reading(0, 0, -1), UNKNOWN);
        Due.is("minute 61", x.reading(0, 61, 0), OUTSIDE);
        Due.is("minute -1", x.reading(0, -1, 0), OUTSIDE);
        for (int k = 0; k < 8; k++) {
            Due.is("reading", x.reading(k % 3, 60 - k, k % 7), k);
        }
        Due.is("a ninth", x.reading(0, 0, 0), FULL);
        Due.is("outside comes first", x.reading(0, 61, 0), OUTSIDE);
        Due.is("unknown comes first", x.reading(3, 0, 0), UNKNOWN);
        Due.is("eight are there", x.many(3), 8);
        SleepRoads y = Due.townOf(STILL);
        for (int k = 0; k < 7; k++) {
            y.reading(0, k, 0);
        }
        Due.is("seven are so", y.starts(0), Due.set(0));
        y.reading(0, 7, 1);
        Due.is("the eighth isn't", y.starts(0), 0);
        Due.is("one goes", x.back(1), 7);
        Due.is("its number again", x.reading(0, 0, 0), 7);
    }

    // Promise 16
    private static void back() {
        SleepRoads x = Due.townOf(SEVEN);
        x.reading(0, 1, 2);
        x.reading(0, 1, 3);
        x.reading(0, 1, 4);
        Due.is("none", x.back(0), 3);
        Due.is("k 4", x.back(4), OUTSIDE);
        Due.is("k -1", x.back(-1), OUTSIDE);
        Due.is("they are against each other", x.strides(0), 0);
        Due.is("two", x.back(2), 1);
        Due.is("the first is left", x.strides(0), Due.set(2));
        Due.is("all", x.back(1), 0);
        Due.is("none is left", x.back(1), OUTSIDE);
        Due.is("any again", x.strides(0), 15);
    }

    // Promise 17
    private static void strides() {
        SleepRoads x = Due.townOf("z4;s12;m02/0000");
        Due.is("any", x.strides(0), 15);
        x.reading(0, 2, 1);
        Due.is("the even ones", x.strides(0), Due.set(0, 2));
        Due.is("of another, who is as he was read", x.strides(1), 15);
        x.reading(1, 1, 3);
        Due.is("of another", x.strides(1), Due.set(2));
        Due.is("he is as read", x.strides(0), Due.set(0, 2));
        x.stride(1, 1);
        Due.is("another isn't as read", x.strides(0), 0);
        Due.is("he could be", x.strides(1), Due.set(2));
        x.stride(0, 3);
        Due.is("now the other isn't", x.strides(1), 0);
        Due.is("sleeper 2", x.strides(2), UNKNOWN);
        Due.is("sleeper -1", x.strides(-1), UNKNOWN);
    }

    // Promise 18
    private static void kinds() {
        SleepRoads x = Due.townOf("z8;s11;r03/00000000");
        Due.is("any", x.kinds(0), 7);
        x.reading(0, 2, 5);
        Due.is("in minute 2 two are alike", x.kinds(0), Due.set(1, 2));
        Due.is("he isn't as read", x.kinds(1), 0);
        x.reading(0, 1, 5);
        Due.is("in minute 1 he is restless", x.kinds(0), Due.set(2));
        x.back(2);
        x.reading(1, 2, 0);
        Due.is("the other", x.kinds(1), Due.set(1, 2));
        Due.is("kinds stay", x.ofSleeper(1, 0), 2);
        Due.is("sleeper 2", x.kinds(2), UNKNOWN);
        Due.is("sleeper -1", x.kinds(-1), UNKNOWN);
    }

    // Promise 19
    private static void starts() {
        SleepRoads x = Due.townOf("z5;s13;m21/00000");
        Due.is("any", x.starts(0), 31);
        x.reading(0, 2, 3);
        Due.is("from minute 2 back", x.starts(0), Due.set(2));
        Due.is("another, while he isn't as read", x.starts(1), 0);
        x.back(1);
        x.reading(1, 0, 2);
        Due.is("minute 0", x.starts(1), Due.set(2));
        Due.is("any of the other", x.starts(0), 31);
        Due.is("starts stay", x.ofSleeper(1, 1), 2);
        Due.is("sleeper 2", x.starts(2), UNKNOWN);
        Due.is("sleeper -1", x.starts(-1), UNKNOWN);
    }

    // Promise 20
    private static void odds() {
        SleepRoads x = Due.townOf(SEVEN);
        long[][] want = {{2, 5, 3, 1, 4}, {3, 1, 60, 1, 1}, {0, 0, 0, 1, 2}, {5, 2, 2, 0, 1}, {6, 6, 0, 1, 1}};
        for (long[] row : want) {
            Due.is("upper", x.odds((int) row[0], (int) row[1], (int) row[2], 0), row[3]);
            Due.is("lower", x.odds((int) row[0], (int) row[1], (int) row[2], 1), row[4]);
        }
        SleepRoads y = Due.townOf("z6;s00;s10;s30;s50/000000");
        // From 2 to 4: by 3, or, in four minutes, by 1, 0, 5: one of them walks in bed, or three.
        Due.is("upper", y.odds(2, 4, 4, 0), 9);
        Due.is("lower", y.odds(2, 4, 4, 1), 16);
        Due.is("upper", y.odds(2, 4, 3, 0), 1);
        Due.is("lower", y.odds(2, 4, 3, 1), 2);
        // To 0 he at 0 must be in bed, and he at 1, or both at 3 and 5.
        Due.is("upper", y.odds(2, 0, 60, 0), 5);
        Due.is("lower", y.odds(2, 0, 60, 1), 16);
        Due.is("from place 6", y.odds(6, 0, 61, 0), LOST);
        Due.is("from place -1", y.odds(-1, 0, 0, 0), LOST);
        Due.is("to place 6", y.odds(0, 6, 0, 0), LOST);
        Due.is("to place -1", y.odds(0, -1, 0, 0), LOST);
        Due.is("n 61", y.odds(0, 0, 61, 0), LOST);
        Due.is("n -1", y.odds(0, 0, -1, 0), LOST);
        Due.is("which 2", y.odds(0, 0, 0, 2), LOST);
        Due.is("which -1", y.odds(0, 0, 0, -1), LOST);
    }

    // Promise 21
    private static void sheet() {
        SleepRoads x = new SleepRoads();
        for (int k = 0; k < 4; k++) {
            Due.is("60 cells", x.sheet(k, k % 3, 60), 1);
            Due.is("the last is 0", x.cell(k, 59, k % 3), 0);
            Due.is("it becomes 7", x.put(k, 59, 7), 1);
            Due.is("a new row", x.sheet(k, 2 - k % 3, 60), 1);
            Due.is("is 0 again", x.cell(k, 59, 2 - k % 3), 0);
            Due.is("no cells", x.sheet(k, 0, 0), 1);
            Due.is("none is there", x.put(k, 0, 0), INDEX);
            Due.is("it had a row", x.lose(k), 1);
        }
        Due.is("sheet 4", x.sheet(4, 3, 61), UNKNOWN);
        Due.is("sheet -1", x.sheet(-1, 0, 0), UNKNOWN);
        Due.is("lane 3", x.sheet(0, 3, -1), OUTSIDE);
        Due.is("lane -1", x.sheet(0, -1, -1), OUTSIDE);
        Due.is("n 61", x.sheet(0, 0, 61), OUTSIDE);
        Due.is("n -1", x.sheet(0, 0, -1), SIZE);
        Due.is("n least", x.sheet(0, 0, Integer.MIN_VALUE), SIZE);
        Due.is("it has nothing still", x.lose(0), 0);
    }

    // Promise 22
    private static void lose() {
        SleepRoads x = new SleepRoads();
        Due.row(x, 0, 0, 1, 2);
        Due.row(x, 1, 0);
        Due.is("a row", x.lose(0), 1);
        Due.is("nothing", x.lose(0), 0);
        Due.is("an empty row", x.lose(1), 1);
        Due.is("nothing there", x.put(0, 0, 1), NULL);
        Due.is("sheet 4", x.lose(4), UNKNOWN);
        Due.is("sheet -1", x.lose(-1), UNKNOWN);
        Due.is("it names no fault", x.fault(), 1);
    }

    // Promise 23
    private static void put() {
        SleepRoads x = new SleepRoads();
        int[] numbers = {127, 128, 255, 256, -129, 32767, 32768, 65536, Integer.MAX_VALUE, Integer.MIN_VALUE};
        for (int v : numbers) {
            Due.row(x, 0, 0, 5, v, 5);
            Due.is("as a byte", x.cell(0, 1, 0), (byte) v);
            Due.row(x, 1, 1, 5, v, 5);
            Due.is("as a short", x.cell(1, 1, 1), (short) v);
            Due.row(x, 2, 2, 5, v, 5);
            Due.is("as an int", x.cell(2, 1, 2), v);
            Due.is("beside it", x.cell(0, 0, 0) + x.cell(1, 2, 1) + x.cell(2, 0, 2), 15);
        }
        Due.is("i 3", x.put(0, 3, 1), INDEX);
        Due.is("i -1", x.put(0, -1, 1), INDEX);
        Due.is("i 60", x.put(0, 60, 1), INDEX);
        Due.is("nothing", x.put(3, -1, 1), NULL);
        Due.is("sheet 4", x.put(4, -1, 1), UNKNOWN);
        Due.is("sheet -1", x.put(-1, 0, 1), UNKNOWN);
    }

    // Promise 24
    private static void cell() {
        SleepRoads x = new SleepRoads();
        Due.row(x, 0, 1, 5, -6);
        Due.is("cell", x.cell(0, 0, 1), 5);
        Due.is("cell", x.cell(0, 1, 1), -6);
        Object[][] faults = {{4, 0, 0, 0}, {-1, 0, 0, 0}, {0, 0, 3, 0}, {0, 0, -1, 0}, {0, 9, 0, 2}, {0, 9, 2, 2},
            {0, 2, 1, 3}, {0, -1, 1, 3}, {1, -1, 1, 1}};
        for (Object[] row : faults) {
            x.put(0, 9, 1);
            Due.is("cell", x.cell((Integer) row[0], (Integer) row[1], (Integer) row[2]), LOST);
            Due.is("its fault", x.fault(), (Integer) row[3]);
        }
        Due.is("cell", x.cell(0, 1, 1), -6);
        Due.is("no fault", x.fault(), 0);
    }

    // Promise 25
    private static void copy() {
        SleepRoads x = new SleepRoads();
        Due.row(x, 0, 2, 1, 2, 3, 4, 5);
        Due.row(x, 1, 2, 6, 7, 8);
        Due.is("to another", x.copy(0, 1, 1, 1, 2), 2);
        isRow(x, 1, 6, 2, 3);
        Due.is("on, over itself", x.copy(0, 0, 0, 1, 4), 4);
        isRow(x, 0, 1, 1, 2, 3, 4);
        Due.is("back, over itself", x.copy(0, 1, 0, 0, 4), 4);
        isRow(x, 0, 1, 2, 3, 4, 4);
        Due.is("none at the ends", x.copy(0, 5, 1, 3, 0), 0);
        Due.is("all", x.copy(1, 0, 0, 2, 3), 3);
        isRow(x, 0, 1, 2, 6, 2, 3);
        int[][] beyond = {{-1, 0, 0}, {0, -1, 0}, {0, 0, -1}, {6, 0, 0}, {0, 4, 0}, {4, 0, 2}, {0, 2, 2},
            {1, 0, Integer.MAX_VALUE}, {Integer.MAX_VALUE, 0, 1}, {0, Integer.MAX_VALUE, 1}, {0, 0, Integer.MIN_VALUE}};
        for (int[] row : beyond) {
            Due.is("beyond", x.copy(0, row[0], 1, row[1], row[2]), INDEX);
        }
        isRow(x, 0, 1, 2, 6, 2, 3);
        isRow(x, 1, 6, 2, 3);
        Due.row(x, 2, 1, 1);
        Due.is("unlike lanes", x.copy(0, -1, 2, 0, 0), CAST);
        Due.is("nothing", x.copy(3, -1, 0, 0, 0), NULL);
        Due.is("to nothing", x.copy(0, -1, 3, 0, 0), NULL);
        Due.is("sheet 4", x.copy(4, -1, 3, 0, 0), UNKNOWN);
        Due.is("to sheet 4", x.copy(3, -1, 4, 0, 0), UNKNOWN);
        Due.is("sheet -1", x.copy(-1, 0, 0, 0, 0), UNKNOWN);
        Due.is("to sheet -1", x.copy(0, 0, -1, 0, 0), UNKNOWN);
    }

    private static void isRow(SleepRoads x, int k, int... numbers) {
        for (int i = 0; i < numbers.length; i++) {
            Due.is("cell " + i, x.cell(k, i, 2), numbers[i]);
        }
        Due.is("no more", x.cell(k, numbers.length, 2), LOST);
    }

    // Promise 26
    private static void tell() {
        SleepRoads x = Due.townOf("z3;s03;m02;r01/000");
        Due.is("sleeper", x.tell(0), 3);
        Due.is("trace", x.trace(), 1);
        Due.is("moonstruck", x.tell(1), 102);
        Due.is("trace", x.trace(), (1 * 31 + 2) * 31 + 1);
        int before = x.trace();
        Due.is("restless", x.tell(2), 102);
        Due.is("trace", x.trace(), (((before * 31 + 3) * 31 + 2) * 31 + 1) * 31 + 1);
        x.stride(2, 3);
        Due.is("by his stride", x.tell(2), 106);
        before = x.trace();
        Due.is("sleeper 3", x.tell(3), UNKNOWN);
        Due.is("sleeper -1", x.tell(-1), UNKNOWN);
        Due.is("trace stays", x.trace(), before);
    }

    // Promise 27
    private static void waken() {
        SleepRoads x = Due.townOf("z3;s03;m02;r01;m00/000");
        Due.is("sleeper", x.waken(0), 0);
        Due.is("trace", x.trace(), 4);
        Due.is("moonstruck", x.waken(3), 3);
        Due.is("trace", x.trace(), 4 * 31 + 4);
        Due.is("restless", x.waken(2), 90);
        Due.is("trace", x.trace(), (4 * 31 + 4) * 31 + 5);
        Due.is("sleeper 4", x.waken(4), UNKNOWN);
        Due.is("sleeper -1", x.waken(-1), UNKNOWN);
        Due.is("trace stays", x.trace(), (4 * 31 + 4) * 31 + 5);
    }

    // Promise 28
    private static void as() {
        SleepRoads x = Due.townOf("z3;s00;m00;r00/000");
        for (int a = 0; a < 3; a++) {
            for (int kind = 0; kind < 3; kind++) {
                Due.is("as", x.as(a, kind), kind <= a ? 1 : CAST);
                Due.is("its fault", x.fault(), kind <= a ? 0 : 2);
            }
            Due.is("kind 3", x.as(a, 3), OUTSIDE);
            Due.is("kind -1", x.as(a, -1), OUTSIDE);
        }
        Due.is("sleeper 3", x.as(3, 3), UNKNOWN);
        Due.is("sleeper -1", x.as(-1, 0), UNKNOWN);
        Due.is("no body began", x.trace(), 0);
    }

    // Promise 29
    private static void trace() {
        SleepRoads x = Due.townOf("z3;s00/000");
        int want = 0;
        for (int k = 0; k < 20; k++) {
            Due.is("trace wraps", x.trace(), want);
            x.waken(0);
            want = want * 31 + 4;
        }
        Due.is("a new town", Due.read(x, SEVEN), 3);
        Due.is("trace stays", x.trace(), want);
    }

    // Promise 30
    private static void fault() {
        SleepRoads x = Due.townOf(SEVEN);
        for (int call = 0; call < 12; call++) {
            Due.is("a fault", x.put(3, 60, 0), INDEX);
            Due.is("it is told", x.fault(), 3);
            Due.is("and again", x.fault(), 3);
            namesNoFault(x, call);
            Due.is("it stays, call " + call, x.fault(), 3);
        }
        for (int call = 0; call < 15; call++) {
            x.put(3, 60, 0);
            int got = namesFaults(x, call);
            if (call < 8) {
                Due.is("refused, call " + call, got, call < 4 ? OUTSIDE : UNKNOWN);
            }
            Due.is("no fault, call " + call, x.fault(), 0);
        }
        Due.is("NULL", x.put(2, 0, 0), NULL);
        Due.is("NULL", x.fault(), 1);
        Due.is("CAST", x.as(0, 1), CAST);
        Due.is("CAST", x.fault(), 2);
        Due.is("INDEX", x.put(0, -1, 0), INDEX);
        Due.is("INDEX", x.fault(), 3);
        Due.is("SIZE", x.sheet(0, 0, -1), SIZE);
        Due.is("SIZE", x.fault(), 4);
    }

    /** Calls that name no FAULT, some refused. */
    private static void namesNoFault(SleepRoads x, int call) {
        switch (call) {
            case 0: x.lose(0); break;
            case 1: x.lose(9); break;
            case 2: x.tell(0); break;
            case 3: x.reading(0, 0, 0); break;
            case 4: x.odds(9, 0, 0, 0); break;
            case 5: x.odds(2, 3, 0, 0); break;
            case 6: x.soonest(2, 3, -1); break;
            case 7: x.many(9); break;
            case 8: x.free(99); break;
            case 9: x.lay(0, 99); break;
            case 10: x.where(0, 0); break;
            default: x.waken(9);
        }
    }

    /** Calls that name FAULTS and come to none: 8 that are refused, then those that aren't. */
    private static int namesFaults(SleepRoads x, int call) {
        switch (call) {
            case 0: return x.town(0, 3, 0, 0);
            case 1: return x.walk(0, 0, 3, 0, 0, 0);
            case 2: return x.sheet(0, 3, 0);
            case 3: return x.as(0, 3);
            case 4: return x.town(9, 0, 0, 0);
            case 5: return x.put(9, 0, 0);
            case 6: return x.copy(9, 0, 0, 0, 0);
            case 7: return x.walk(0, 9, 0, 0, 0, 0);
            case 8: return x.town(3, 0, 0, 1);
            case 9: return x.walk(2, 3, 0, 0, 0, 0);
            case 10: return x.sheet(0, 0, 3);
            case 11: return x.put(0, 0, 0);
            case 12: return (int) x.cell(0, 0, 0);
            case 13: return x.copy(0, 0, 0, 0, 0);
            default: return x.as(0, 0);
        }
    }

    // Promise 31
    private static void many() {
        SleepRoads x = Due.townOf(SEVEN);
        x.reading(0, 0, 0);
        x.reading(0, 0, 1);
        int[] want = {3, 7, 28, 2};
        for (int what = 0; what < 4; what++) {
            Due.is("many " + what, x.many(what), want[what]);
        }
        Due.is("what 4", x.many(4), OUTSIDE);
        Due.is("what -1", x.many(-1), OUTSIDE);
    }
}
