/** Head 2, how SLEEPERS go, and promises 7 to 11: each sentence that names a boundary case, with a test of its own. */
public final class MinutesEdgesTest {
    private static final int UNKNOWN = -1, OUTSIDE = -2, STATE = -3, NONE = -9;
    private static final int NULL = -11, CAST = -12, INDEX = -13;
    /** One SLEEPER who goes nowhere. */
    private static final String STILL = "z5;s00/11111";

    private MinutesEdgesTest() {
    }

    public static void main(String[] args) {
        inMinute0AllAreWhereTheyStart();
        whereOneIsIsToldAsTheMinuteBegins();
        aMoonstruckOneGoesOnBy1More();
        aRestlessOneGoesInMinutesThat2Divides();
        whereFromMinute0To60();
        eachTakesAllGoodsIfThereAreAny();
        ofSeveralTheLeastTakes();
        takenInMinutes0ToOne();
        freeWhereThereIsNoSleeper();
        freeFromMinute0To60();
        freeWithoutATown();
        meetInTheFirstMinute();
        meetNever();
        meetOfOneWithHimself();
        walkOfNoAct();
        walkOf40Acts();
        walkRoundTheSquare();
        firstWrongIsTheFirstAct();
        firstWrongAsTheNextMinuteBegins();
        firstWrongOfTheLastAct();
        whatIsToldOfAWalkWithAFirstWrong();
        placesWhereOneWas();
        howOftenOneStayed();
        walkNotFreeInMinute0();
        walkOutside();
        walkFaults();
        aCellThatIsNoAct();
        onlyTheCellsOfTheWalkCount();
        Due.finish("MinutesEdgesTest");
    }

    /** "In MINUTE 0 all are where they START" */
    private static void inMinute0AllAreWhereTheyStart() {
        for (char kind : "smr".toCharArray()) {
            for (int stride = 0; stride <= 3; stride++) {
                SleepRoads x = Due.townOf("z9;s00;" + kind + "8" + stride + ";" + kind + "0" + stride + "/000000000");
                Due.is("at the last place", x.where(1, 0), 8);
                Due.is("at the first place", x.where(2, 0), 0);
            }
        }
    }

    /** "where one is in a MINUTE is told as it begins" */
    private static void whereOneIsIsToldAsTheMinuteBegins() {
        SleepRoads x = Due.townOf("z9;s02;m02;r02/000000000");
        int[][] want = {{0, 2, 4, 6, 8, 1}, {0, 3, 6, 0, 3, 6}, {0, 6, 6, 3, 3, 0}};
        for (int a = 0; a < 3; a++) {
            for (int minute = 0; minute < 6; minute++) {
                Due.is("he " + a + " in " + minute, x.where(a, minute), want[a][minute]);
            }
        }
    }

    /** "a MOONSTRUCK one by 1 more": by 1 to 4, with a STRIDE of 0 and 3, too. */
    private static void aMoonstruckOneGoesOnBy1More() {
        for (int stride = 0; stride <= 3; stride++) {
            SleepRoads x = Due.townOf("z9;m0" + stride + ";s0" + stride + "/000000000");
            Due.is("moonstruck by " + stride, x.where(0, 1), stride + 1);
            Due.is("moonstruck by " + stride, x.where(0, 2), 2 * (stride + 1));
            Due.is("sleeper by " + stride, x.where(1, 1), stride);
            Due.is("sleeper by " + stride, x.where(1, 2), 2 * stride);
        }
    }

    /** "twice what a MOONSTRUCK one does in a MINUTE that 2 divides, in another one not at all" */
    private static void aRestlessOneGoesInMinutesThat2Divides() {
        for (int stride = 0; stride <= 3; stride++) {
            SleepRoads x = Due.townOf("z9;r0" + stride + "/000000000");
            int on = 2 * (stride + 1);
            Due.is("he goes in minute 0", x.where(0, 1), on);
            Due.is("not in minute 1", x.where(0, 2), on);
            Due.is("he goes in minute 2", x.where(0, 3), 2 * on % 9);
            Due.is("not in minute 3", x.where(0, 4), 2 * on % 9);
            Due.is("he goes in minute 58", x.where(0, 59), 30 * on % 9);
            Due.is("not in minute 59", x.where(0, 60), 30 * on % 9);
        }
    }

    /** Promise 7: "a MINUTE (0 .. 60)" */
    private static void whereFromMinute0To60() {
        SleepRoads x = Due.townOf("z7;s63;m63;r63/0000000");
        Due.is("in 0", x.where(0, 0), 6);
        Due.is("in 60", x.where(0, 60), (6 + 180) % 7);
        Due.is("in 60", x.where(1, 60), (6 + 240) % 7);
        Due.is("in 60", x.where(2, 60), (6 + 240) % 7);
        Due.is("in 59", x.where(1, 59), (6 + 236) % 7);
        for (int minute : Due.beside(60)) {
            for (int a = 0; a < 3; a++) {
                Due.is("in " + minute, x.where(a, minute), OUTSIDE);
            }
        }
    }

    /** "takes all GOODS before the door where he is, if there are any" */
    private static void eachTakesAllGoodsIfThereAreAny() {
        SleepRoads x = Due.townOf("z3;s01;s10/905");
        Due.is("nothing lies there", x.taken(1, 0), 0);
        Due.is("all nine", x.taken(0, 0), 9);
        Due.is("nothing where the other was, either", x.taken(0, 1), 9);
        Due.is("five more", x.taken(0, 2), 14);
        Due.is("nothing is left", x.taken(0, 3), 14);
        Due.is("nothing ever", x.taken(1, 60), 0);
        Due.is("some is laid", x.lay(1, 4), 0);
        Due.is("it is his who stays", x.taken(1, 0), 4);
        Due.is("he who comes finds none", x.taken(0, 60), 14);
        Due.is("all in all", x.taken(0, 60) + x.taken(1, 60), x.many(2));
    }

    /** "of several the least" */
    private static void ofSeveralTheLeastTakes() {
        SleepRoads x = Due.townOf("z4;s00;m10;r10;s10/1234");
        Due.is("alone at 0", x.taken(0, 0), 1);
        Due.is("the least at 1", x.taken(1, 0), 2);
        Due.is("another at 1", x.taken(2, 0), 0);
        Due.is("a third at 1", x.taken(3, 0), 0);
        // In minute 1 he who is moonstruck is at 2, he who is restless at 3.
        Due.is("on to 2", x.taken(1, 1), 5);
        Due.is("on to 3", x.taken(2, 1), 4);
        Due.is("never", x.taken(3, 60), 0);
        SleepRoads y = Due.townOf("z4;s30;s31;s32;s33/1234");
        Due.is("the least in minute 0", y.taken(0, 0), 4);
        Due.is("not the last", y.taken(3, 0), 0);
        Due.is("whoever comes sooner takes, if he is not the least", y.taken(3, 1), 3);
        Due.is("he comes later", y.taken(1, 60), 1);
    }

    /** Promise 8: "in MINUTES 0 to one (0 .. 60), together" */
    private static void takenInMinutes0ToOne() {
        SleepRoads x = Due.townOf("z9;s01;r03/123456789");
        int[] want = {1, 3, 6, 10, 15, 21, 21, 21, 21};
        for (int minute = 0; minute < want.length; minute++) {
            Due.is("to " + minute, x.taken(0, minute), want[minute]);
        }
        Due.is("the other in 0", x.taken(1, 0), 0);
        Due.is("the other in 1", x.taken(1, 1), 9);
        Due.is("the other in 3", x.taken(1, 3), 17);
        Due.is("the other in 5, sooner than he", x.taken(1, 5), 24);
        Due.is("to 60", x.taken(0, 60), 21);
        Due.is("the other to 60", x.taken(1, 60), 24);
        for (int minute : Due.beside(60)) {
            Due.is("to " + minute, x.taken(0, minute), OUTSIDE);
        }
        SleepRoads late = Due.townOf("z9;r80/111111111");
        Due.is("the last place is come to in minute 15", late.taken(0, 14), 8);
        Due.is("the last place is come to in minute 15", late.taken(0, 15), 9);
    }

    /** "PLACES where there is no SLEEPER": none, but one, all but one. */
    private static void freeWhereThereIsNoSleeper() {
        Due.is("none", Due.townOf("z3;s00;s10;s20/000").free(0), 0);
        Due.is("none of four", Due.townOf("z4;s00;s10;s20;s30/0000").free(0), 0);
        Due.is("the fourth there too", Due.townOf("z3;s00;s00;s10;s20/000").free(0), 0);
        Due.is("the last", Due.townOf("z4;s00;s10;s20/0000").free(0), 8);
        Due.is("all but the last", Due.townOf("z9;s80;s80;s80;s80/000000000").free(0), 255);
        Due.is("all but the first", Due.townOf("z9;s00/000000000").free(0), 510);
    }

    /** Promise 9: "FREE in a MINUTE (0 .. 60)" */
    private static void freeFromMinute0To60() {
        SleepRoads x = Due.townOf("z9;s81;m71;r60/000000000");
        Due.is("in 0", x.free(0), Due.set(0, 1, 2, 3, 4, 5));
        Due.is("in 1", x.free(1), Due.set(1, 2, 3, 4, 5, 6, 7));
        Due.is("in 59", x.free(59), 511 & ~Due.set((8 + 59) % 9, (7 + 118) % 9, (6 + 60) % 9));
        Due.is("in 60", x.free(60), 511 & ~Due.set((8 + 60) % 9, (7 + 120) % 9, (6 + 60) % 9));
        for (int minute : Due.beside(60)) {
            Due.is("in " + minute, x.free(minute), OUTSIDE);
        }
    }

    /** Promise 9: "STATE: there is no TOWN." */
    private static void freeWithoutATown() {
        SleepRoads x = new SleepRoads();
        Due.is("in 0", x.free(0), STATE);
        Due.is("in 60", x.free(60), STATE);
        Due.is("a text that isn't taken", Due.read(x, "z3;s00/00"), -109);
        Due.is("no town still", x.free(0), STATE);
        Due.is("a town", Due.read(x, "z3;s00/000"), 1);
        Due.is("in 0", x.free(0), 6);
    }

    /** "the first MINUTE (0 to 60) in which both are in one PLACE" */
    private static void meetInTheFirstMinute() {
        Due.is("in 0", Due.townOf("z3;s00;r03/000").meet(0, 1), 0);
        SleepRoads x = Due.townOf("z9;s01;s80;s10/000000000");
        Due.is("in 1", x.meet(0, 2), 1);
        Due.is("in 1, the other way", x.meet(2, 0), 1);
        Due.is("in 8, not 17", x.meet(0, 1), 8);
        Due.is("in 8, the other way", x.meet(1, 0), 8);
        Due.is("as late as can be", Due.townOf("z9;r81;m33/000000000").meet(0, 1), 16);
        Due.is("as late as can be", Due.townOf("z9;r70;m01/000000000").meet(1, 0), 16);
        Due.is("the fourth", Due.townOf("z9;s00;s00;s00;s81/000000000").meet(3, 2), 1);
    }

    /** "MEET .. NONE." */
    private static void meetNever() {
        SleepRoads x = Due.townOf("z6;s00;s10;s02;m31/000000");
        Due.is("neither goes", x.meet(0, 1), NONE);
        Due.is("he goes by even places only", x.meet(1, 2), NONE);
        Due.is("both as fast", x.meet(2, 3), NONE);
        Due.is("as fast, from one place", Due.townOf("z6;s32;m31/000000").meet(0, 1), 0);
        Due.is("they change places and don't meet", Due.townOf("z4;s01;s13/0000").meet(0, 1), NONE);
    }

    /** Promise 10: "UNKNOWN: SLEEPERS, one with himself." */
    private static void meetOfOneWithHimself() {
        SleepRoads x = Due.townOf("z6;s00;s00;s02;m31/000000");
        for (int a = 0; a < 4; a++) {
            Due.is("he with himself", x.meet(a, a), UNKNOWN);
        }
        for (int a : Due.beside(3)) {
            Due.is("no such one", x.meet(a, 0), UNKNOWN);
            Due.is("with no such one", x.meet(0, a), UNKNOWN);
            Due.is("no such one with himself", x.meet(a, a), UNKNOWN);
        }
        Due.is("with another", x.meet(0, 1), 0);
    }

    /** "a row of ACTS" may be empty: n is 0. */
    private static void walkOfNoAct() {
        SleepRoads x = Due.townOf(STILL);
        Due.row(x, 0, 0);
        Due.is("the place at its end", x.walk(4, 0, 0, 0, 0, 0), 4);
        Due.is("its first wrong", x.walk(4, 0, 0, 0, 0, 1), NONE);
        Due.is("places where one was", x.walk(4, 0, 0, 0, 0, 2), Due.set(4));
        Due.is("how often one stayed", x.walk(4, 0, 0, 0, 0, 3), 0);
    }

    /** Promise 11: "n (0 .. 40)" */
    private static void walkOf40Acts() {
        SleepRoads x = Due.townOf(STILL);
        Due.row(x, 0, 0, new int[60]);
        Due.is("40", x.walk(2, 0, 0, 0, 40, 3), 40);
        Due.is("the last 40", x.walk(2, 0, 0, 20, 40, 3), 40);
        Due.is("39 from 21 on", x.walk(2, 0, 0, 21, 39, 0), 2);
        Due.is("40 from 21 on", x.walk(2, 0, 0, 21, 40, 0), INDEX);
        for (int n : Due.beside(40)) {
            Due.is("n " + n, x.walk(2, 0, 0, 0, n, 0), OUTSIDE);
        }
    }

    /** "1 goes on by one, 2 goes back by one", and behind the last PLACE comes 0. */
    private static void walkRoundTheSquare() {
        SleepRoads x = Due.townOf("z3;s10/000");
        Due.row(x, 0, 0, 1, 2, 1, 2, 0);
        Due.is("on from the last", x.walk(2, 0, 0, 0, 1, 0), 0);
        Due.is("back from the first", x.walk(0, 0, 0, 1, 1, 0), 2);
        Due.is("on, back, on, back, stay", x.walk(2, 0, 0, 0, 5, 0), 2);
        Due.is("on from the first", x.walk(0, 0, 0, 0, 1, 1), 0);
        Due.is("back from the last", x.walk(2, 0, 0, 1, 1, 1), 0);
        SleepRoads y = Due.townOf("z9;s41/000000000");
        Due.row(y, 0, 0, 1, 1, 1, 1, 1, 1, 1, 1, 1, 2, 2, 2, 2, 2, 2, 2, 2, 2);
        Due.is("once round, ahead of him", y.walk(3, 0, 0, 0, 9, 0), 3);
        Due.is("everywhere", y.walk(3, 0, 0, 0, 9, 2), 511);
        Due.is("back, into him", y.walk(3, 0, 0, 9, 9, 1), 3);
    }

    /** "the first ACT behind which one would be where a SLEEPER is", not a later one. */
    private static void firstWrongIsTheFirstAct() {
        SleepRoads x = Due.townOf("z5;s00;s30/00000");
        Due.row(x, 0, 0, 0, 1, 1, 0, 1, 1, 0);
        Due.is("behind act 2", x.walk(1, 0, 0, 0, 7, 1), 2);
        Due.is("behind act 1", x.walk(2, 0, 0, 0, 7, 1), 1);
        Due.is("behind act 1", x.walk(4, 0, 0, 0, 7, 1), 1);
        Due.is("none of two", x.walk(1, 0, 0, 0, 2, 1), NONE);
        Due.is("at once", x.walk(4, 0, 0, 1, 1, 1), 0);
        SleepRoads four = Due.townOf("z9;s80;s80;s80;s20/000000000");
        Due.row(four, 0, 0, 1, 1, 1);
        Due.is("where the fourth is", four.walk(1, 0, 0, 0, 3, 1), 0);
        Due.is("where the first is", four.walk(5, 0, 0, 0, 3, 1), 2);
    }

    /** "as the next MINUTE begins": not where one was, nor on the way. */
    private static void firstWrongAsTheNextMinuteBegins() {
        SleepRoads x = Due.townOf("z5;s01/00000");
        Due.row(x, 0, 0, 2, 0, 1);
        Due.is("where he was", x.walk(1, 0, 0, 0, 1, 0), 0);
        Due.is("he comes where one stays", x.walk(1, 0, 0, 1, 1, 1), 0);
        Due.is("one goes on before him", x.walk(1, 0, 0, 2, 1, 1), NONE);
        Due.is("back where he comes", x.walk(2, 0, 0, 0, 1, 1), 0);
        Due.is("one goes on behind him", x.walk(4, 0, 0, 2, 1, 0), 0);
        SleepRoads still = Due.townOf("z5;r00/00000");
        Due.row(still, 0, 0, 0, 0, 0, 1, 1);
        Due.is("he comes in minute 1", still.walk(2, 0, 0, 0, 3, 1), 0);
        Due.is("he comes in minute 3", still.walk(4, 0, 0, 0, 3, 1), 2);
        Due.is("he doesn't go in minute 1", still.walk(1, 0, 0, 0, 2, 1), NONE);
        Due.is("into him in minute 2", still.walk(4, 0, 0, 2, 3, 1), NONE);
    }

    /** The last ACT can be the FIRST WRONG, the fortieth, too. */
    private static void firstWrongOfTheLastAct() {
        SleepRoads x = Due.townOf(STILL);
        int[] acts = new int[40];
        acts[39] = 2;
        Due.row(x, 0, 0, acts);
        Due.is("the fortieth", x.walk(1, 0, 0, 0, 40, 1), 39);
        Due.is("the fortieth", x.walk(1, 0, 0, 0, 40, 0), -139);
        Due.is("without it", x.walk(1, 0, 0, 0, 39, 1), NONE);
        Due.is("it alone", x.walk(1, 0, 0, 39, 1, 0), -100);
        Due.is("the fortieth, from elsewhere", x.walk(2, 0, 0, 0, 40, 1), NONE);
        SleepRoads y = Due.townOf("z9;m00/000000000");
        Due.row(y, 0, 0, new int[40]);
        Due.is("he comes in minute 8", y.walk(8, 0, 0, 0, 8, 1), 7);
        Due.is("not in minute 7", y.walk(8, 0, 0, 0, 7, 1), NONE);
    }

    /** "of one with a FIRST WRONG: -100 less that (but what 1)" */
    private static void whatIsToldOfAWalkWithAFirstWrong() {
        SleepRoads x = Due.townOf(STILL);
        Due.row(x, 0, 0, 0, 0, 2, 0, 1);
        int[] want = {-102, 2, -102, -102};
        int[] atOnce = {-100, 0, -100, -100};
        for (int what = 0; what < 4; what++) {
            Due.is("what " + what, x.walk(1, 0, 0, 0, 5, what), want[what]);
            Due.is("what " + what + ", at once", x.walk(1, 0, 0, 2, 3, what), atOnce[what]);
        }
        Due.is("no fault", x.fault(), 0);
    }

    /** "PLACES where one was (the first one, too), as a set (2)" */
    private static void placesWhereOneWas() {
        SleepRoads x = Due.townOf(STILL);
        Due.row(x, 0, 0, 1, 1, 2, 0, 1);
        Due.is("the first one", x.walk(1, 0, 0, 0, 0, 2), Due.set(1));
        Due.is("and the next", x.walk(1, 0, 0, 0, 1, 2), Due.set(1, 2));
        Due.is("and the last", x.walk(1, 0, 0, 0, 2, 2), Due.set(1, 2, 3));
        Due.is("each but once", x.walk(1, 0, 0, 0, 5, 2), Due.set(1, 2, 3));
        Due.is("one stays", x.walk(4, 0, 0, 3, 1, 2), Due.set(4));
    }

    /** "how often one stayed (3)" */
    private static void howOftenOneStayed() {
        SleepRoads x = Due.townOf(STILL);
        Due.row(x, 0, 0, 0, 1, 0, 2, 0, 1);
        Due.is("of none", x.walk(1, 0, 0, 0, 0, 3), 0);
        Due.is("the first", x.walk(1, 0, 0, 0, 1, 3), 1);
        Due.is("one went on", x.walk(1, 0, 0, 1, 1, 3), 0);
        Due.is("the last", x.walk(1, 0, 0, 0, 5, 3), 3);
        Due.is("one came back, and stayed so often", x.walk(1, 0, 0, 0, 4, 3), 2);
    }

    /** "STATE: the PLACE is not FREE in MINUTE 0" */
    private static void walkNotFreeInMinute0() {
        SleepRoads x = Due.townOf("z4;s01;m10;r20/0000");
        Due.row(x, 0, 0, 1);
        for (int what = 0; what < 4; what++) {
            for (int p = 0; p < 3; p++) {
                Due.is("from " + p, x.walk(p, 0, 0, 0, 1, what), STATE);
                Due.is("none, from " + p, x.walk(p, 0, 0, 0, 0, what), STATE);
                Due.is("of nothing, from " + p, x.walk(p, 1, 0, 0, 1, what), STATE);
                Due.is("no fault", x.fault(), 0);
            }
        }
        Due.is("from 3, that is free then", x.walk(3, 0, 0, 0, 0, 0), 3);
        SleepRoads full = Due.townOf("z3;s00;s10;s20/000");
        Due.is("none is free", full.walk(1, 3, 0, 0, 0, 0), STATE);
    }

    /** "OUTSIDE: lane, n (0 .. 40), what" */
    private static void walkOutside() {
        SleepRoads x = Due.townOf(STILL);
        Due.row(x, 0, 0, new int[60]);
        for (int lane : Due.beside(2)) {
            Due.is("lane " + lane, x.walk(1, 0, lane, 0, 1, 0), OUTSIDE);
        }
        for (int what : Due.beside(3)) {
            Due.is("what " + what, x.walk(1, 0, 0, 0, 1, what), OUTSIDE);
        }
        Due.is("n 41", x.walk(1, 0, 0, 0, 41, 0), OUTSIDE);
        Due.is("n 41, beyond, too", x.walk(1, 0, 0, 50, 41, 0), OUTSIDE);
        Due.is("n -1, of nothing", x.walk(1, 1, 0, 0, -1, 0), OUTSIDE);
        Due.is("the last of each", x.walk(1, 0, 0, 0, 40, 3), 40);
    }

    /** "CAST; NULL; INDEX" */
    private static void walkFaults() {
        for (int lane = 0; lane < 3; lane++) {
            SleepRoads x = Due.townOf(STILL);
            Due.is("nothing", x.walk(1, 0, lane, 0, 0, 0), NULL);
            Due.row(x, 0, lane, 1, 1);
            Due.is("taken as it is", x.walk(1, 0, lane, 0, 2, 0), 3);
            Due.is("taken otherwise", x.walk(1, 0, (lane + 1) % 3, 0, 2, 0), CAST);
            Due.is("taken otherwise", x.walk(1, 0, (lane + 2) % 3, 0, 2, 0), CAST);
            Due.is("beyond", x.walk(1, 0, lane, 1, 2, 0), INDEX);
            Due.is("below", x.walk(1, 0, lane, -1, 2, 0), INDEX);
            Due.is("far beyond", x.walk(1, 0, lane, Integer.MAX_VALUE, 40, 0), INDEX);
            Due.is("far below", x.walk(1, 0, lane, Integer.MIN_VALUE, 40, 0), INDEX);
            Due.is("the fault", x.fault(), 3);
        }
    }

    /** "OUTSIDE: any of the n cells is no ACT": the first, the last, behind a wrong one. */
    private static void aCellThatIsNoAct() {
        int[] noActs = {-1, 3, Integer.MIN_VALUE, Integer.MAX_VALUE, 256, 257, 65536, 65538};
        for (int noAct : noActs) {
            for (int at = 0; at < 3; at++) {
                SleepRoads x = Due.townOf(STILL);
                int[] acts = {2, 0, 1};
                acts[at] = noAct;
                Due.row(x, 0, 2, acts);
                for (int what = 0; what < 4; what++) {
                    Due.is("cell " + at + " is " + noAct, x.walk(1, 0, 2, 0, 3, what), OUTSIDE);
                }
                Due.is("no fault", x.fault(), 0);
            }
        }
        SleepRoads y = Due.townOf(STILL);
        Due.row(y, 0, 0, 257);
        Due.is("what is cut is an act", y.walk(1, 0, 0, 0, 1, 0), 2);
    }

    /** Of the row only n cells from i on are the WALK. */
    private static void onlyTheCellsOfTheWalkCount() {
        SleepRoads x = Due.townOf(STILL);
        Due.row(x, 0, 0, 9, 1, 1, 2, 9, 2);
        Due.is("between", x.walk(1, 0, 0, 1, 3, 0), 2);
        Due.is("and one ahead", x.walk(1, 0, 0, 0, 4, 0), OUTSIDE);
        Due.is("and one behind", x.walk(1, 0, 0, 1, 4, 0), OUTSIDE);
        Due.is("none at the one", x.walk(1, 0, 0, 0, 0, 0), 1);
        Due.is("none at the other", x.walk(1, 0, 0, 4, 0, 0), 1);
        Due.is("the last", x.walk(3, 0, 0, 5, 1, 0), 2);
    }
}
