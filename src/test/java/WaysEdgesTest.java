/** Head 3 and promises 12 to 14: each sentence that names a boundary case, with a test of its own. */
public final class WaysEdgesTest {
    private static final int UNKNOWN = -1, OUTSIDE = -2, STATE = -3, NONE = -9;
    /** One SLEEPER who goes nowhere. */
    private static final String STILL = "z5;s00/11111";
    /** Of all TOWNS there are, none has a SOONEST of more MINUTES than this one, from 6 to 0. */
    private static final String LONGEST = "z7;s01;r10;r30;r50/0000000";

    private WaysEdgesTest() {
    }

    public static void main(String[] args) {
        soonestToTheSameIs0();
        soonestFromAPlaceThatIsFree();
        theFewestMinutes();
        theLongestSoonestThereIs();
        ofSeveralTheFirstAsARow();
        thereIsNoWalk();
        theLastPlaceMustBeFreeThen();
        soonestRoundTheSquare();
        soonestActsFrom0To59();
        soonestUnknown();
        soonestOutside();
        steerLeastOffFromHisOwn();
        steerOfTwoTheLesser();
        steerByNone();
        steerInMinute0();
        steerByStrides0To3();
        steerFromMinute0To60();
        steerUnknown();
        guardWhereTheMostCome();
        guardCountsEachOnce();
        guardOfSeveralTheLeast();
        guardInMinutes0To60();
        guardWithoutATown();
        Due.finish("WaysEdgesTest");
    }

    /** "(or the same: 0)" */
    private static void soonestToTheSameIs0() {
        SleepRoads x = Due.townOf("z9;s00;m12;r23/000000000");
        for (int p = 3; p < 9; p++) {
            Due.is("from and to " + p, x.soonest(p, p, -1), 0);
            Due.is("there is no act", x.soonest(p, p, 0), NONE);
        }
        SleepRoads pursued = Due.townOf("z3;s00;s10;m10/000");
        Due.is("if one can't be anywhere in minute 1, too", pursued.soonest(2, 2, -1), 0);
    }

    /** "from a PLACE (that is FREE in MINUTE 0)": STATE, if it isn't. */
    private static void soonestFromAPlaceThatIsFree() {
        SleepRoads x = Due.townOf("z5;s01;m12;r20;s40/00000");
        for (int from = 0; from < 5; from++) {
            for (int k = -1; k < 60; k += 59) {
                if (from != 3) {
                    Due.is("from " + from, x.soonest(from, 3, k), STATE);
                    Due.is("to the same " + from, x.soonest(from, from, k), STATE);
                }
            }
        }
        Due.is("from 3", x.soonest(3, 3, -1), 0);
        Due.is("to a place that isn't free in minute 0", Due.townOf("z5;s01/00000").soonest(4, 0, -1), 1);
        Due.is("from one that isn't free in minute 1", Due.townOf("z5;s01/00000").soonest(1, 2, -1), 1);
        Due.is("each goes where the other was", Due.townOf("z5;s01/00000").soonest(1, 0, -1), 1);
    }

    /** "the fewest MINUTES": one way round or the other, straight on, or after one waited. */
    private static void theFewestMinutes() {
        SleepRoads x = Due.townOf(STILL);
        Due.is("one", x.soonest(1, 2, -1), 1);
        Due.is("two", x.soonest(1, 3, -1), 2);
        Due.is("three, as one sleeps between", x.soonest(1, 4, -1), 3);
        Due.is("three back", x.soonest(4, 1, -1), 3);
        SleepRoads y = Due.townOf("z9;s60;s60;s60;s82/000000000");
        Due.is("the fourth is let pass", y.soonest(1, 3, -1), 3);
        Due.is("it goes on", y.soonest(1, 3, 0), 1);
        Due.is("it waits", y.soonest(1, 3, 1), 0);
        Due.is("it goes on", y.soonest(1, 3, 2), 1);
    }

    /** "(0 to 60)": no TOWN has one that takes more than 36. */
    private static void theLongestSoonestThereIs() {
        SleepRoads x = Due.townOf(LONGEST);
        Due.is("minutes", x.soonest(6, 0, -1), 36);
        Due.row(x, 0, 0, new int[36]);
        for (int k = 0; k < 36; k++) {
            int act = x.soonest(6, 0, k);
            Due.is("act " + k + " is one", act >= 0 && act <= 2 ? 1 : 0, 1);
            x.put(0, k, act);
        }
        Due.is("there is no act 36", x.soonest(6, 0, 36), NONE);
        Due.is("they come there", x.walk(6, 0, 0, 0, 36, 0), 0);
        Due.is("not wrong", x.walk(6, 0, 0, 0, 36, 1), NONE);
        Due.is("not there sooner", x.walk(6, 0, 0, 0, 35, 0) == 0 ? 1 : 0, 0);
    }

    /** "of several the first as a row": 0 ahead of 1 ahead of 2. */
    private static void ofSeveralTheFirstAsARow() {
        SleepRoads x = Due.townOf("z4;m00/0000");
        Due.is("either way round", x.soonest(1, 3, -1), 2);
        Due.is("on comes first", x.soonest(1, 3, 0), 1);
        Due.is("on comes first", x.soonest(1, 3, 1), 1);
        SleepRoads y = Due.townOf("z7;s02;m10;r41/1234567");
        int[] acts = {1, 2, 1, 1, 1};
        for (int k = 0; k < acts.length; k++) {
            Due.is("act " + k, y.soonest(2, 5, k), acts[k]);
        }
        Due.is("to stay comes first", y.soonest(3, 1, 0), 0);
        // He is at 8 in minutes 1 and 2: one stays at 6, or at 7; or, coming from 1, there or at 0.
        SleepRoads z = Due.townOf("z9;r41/000000000");
        int[] on = {0, 1, 1};
        int[] back = {0, 2, 2};
        Due.is("three minutes", z.soonest(6, 8, -1), 3);
        Due.is("three minutes", z.soonest(1, 8, -1), 3);
        for (int k = 0; k < 3; k++) {
            Due.is("to stay comes ahead of on", z.soonest(6, 8, k), on[k]);
            Due.is("to stay comes ahead of back", z.soonest(1, 8, k), back[k]);
        }
    }

    /** "NONE: there is none." */
    private static void thereIsNoWalk() {
        SleepRoads x = Due.townOf("z8;s00;s40/00000000");
        Due.is("where one sleeps", x.soonest(1, 0, -1), NONE);
        Due.is("behind those who sleep", x.soonest(1, 5, -1), NONE);
        for (int k = 0; k < 60; k++) {
            Due.is("no act " + k, x.soonest(1, 5, k), NONE);
        }
        Due.is("k is looked at first", x.soonest(1, 5, 60), OUTSIDE);
        Due.is("between them", x.soonest(1, 3, -1), 2);
        SleepRoads pursued = Due.townOf("z3;s00;s10;m10/000");
        Due.is("nowhere is free in minute 1", pursued.soonest(2, 0, -1), NONE);
        SleepRoads two = Due.townOf("z3;s00;s10/000");
        Due.is("one can but stay", two.soonest(2, 1, -1), NONE);
    }

    /** "a WALK that is not wrong": to the last ACT. */
    private static void theLastPlaceMustBeFreeThen() {
        SleepRoads x = Due.townOf("z5;r10/00000");
        // He is at 3 in minutes 1 and 2, at 0 in 3 and 4, at 2 in 5 and 6.
        Due.is("from 2 to 3 once he is gone", x.soonest(2, 3, -1), 3);
        Due.is("to stay, stay, go", x.soonest(2, 3, 0), 0);
        Due.is("to stay, stay, go", x.soonest(2, 3, 1), 0);
        Due.is("to stay, stay, go", x.soonest(2, 3, 2), 1);
        Due.is("he is there in minute 1, one comes in it", x.soonest(4, 3, -1), 3);
        Due.is("where he was", x.soonest(2, 1, -1), 1);
    }

    /** "behind the last one comes 0 again", for a SOONEST too. */
    private static void soonestRoundTheSquare() {
        for (int places = 3; places <= 9; places++) {
            SleepRoads x = Due.townOf("z" + places + ";s10/" + "0".repeat(places));
            Due.is("on from the last", x.soonest(places - 1, 0, -1), 1);
            Due.is("on from the last", x.soonest(places - 1, 0, 0), 1);
            Due.is("back from the first", x.soonest(0, places - 1, -1), 1);
            Due.is("back from the first", x.soonest(0, places - 1, 0), 2);
            Due.is("back round to 2", x.soonest(0, 2, -1), places - 2);
        }
    }

    /** Promise 12: "ACT k of the WALK (0 .. 59); NONE: there is no such ACT". */
    private static void soonestActsFrom0To59() {
        SleepRoads x = Due.townOf(STILL);
        Due.is("the first", x.soonest(1, 3, 0), 1);
        Due.is("the last", x.soonest(1, 3, 1), 1);
        for (int k = 2; k < 60; k++) {
            Due.is("behind the last " + k, x.soonest(1, 3, k), NONE);
        }
        Due.is("one back", x.soonest(3, 2, 0), 2);
        Due.is("none behind it", x.soonest(3, 2, 1), NONE);
    }

    /** Promise 12: "UNKNOWN: PLACES". */
    private static void soonestUnknown() {
        SleepRoads x = Due.townOf(STILL);
        for (int p : Due.beside(4)) {
            Due.is("from " + p, x.soonest(p, 1, -1), UNKNOWN);
            Due.is("to " + p, x.soonest(1, p, -1), UNKNOWN);
            Due.is("from and to " + p, x.soonest(p, p, 0), UNKNOWN);
        }
        Due.is("to the last", x.soonest(3, 4, -1), 1);
    }

    /** Promise 12: "OUTSIDE: k", that is -1 .. 59. */
    private static void soonestOutside() {
        SleepRoads x = Due.townOf(STILL);
        for (int k : new int[] {-2, 60, Integer.MIN_VALUE, Integer.MAX_VALUE}) {
            Due.is("k " + k, x.soonest(1, 2, k), OUTSIDE);
            Due.is("k " + k + ", to the same", x.soonest(1, 1, k), OUTSIDE);
        }
        Due.is("k -1", x.soonest(1, 2, -1), 1);
        Due.is("k 59", x.soonest(1, 2, 59), NONE);
    }

    /** "that is least off from his own" */
    private static void steerLeastOffFromHisOwn() {
        // In minute 6 of 3 places each stride brings him to where he was.
        for (int own = 0; own <= 3; own++) {
            SleepRoads x = Due.townOf("z3;s0" + own + "/000");
            Due.is("his own", x.steer(0, 0, 6), own);
            Due.is("0 or 3", x.steer(0, 0, 1), own < 2 ? 0 : 3);
            Due.is("1 alone", x.steer(0, 1, 1), 1);
            Due.is("2 alone", x.steer(0, 2, 1), 2);
            SleepRoads y = Due.townOf("z6;s0" + own + "/000000");
            Due.is("0 or 2", y.steer(0, 0, 3), own < 2 ? 0 : 2);
            Due.is("1 or 3", y.steer(0, 3, 3), own < 3 ? 1 : 3);
        }
    }

    /** "of two such the lesser one" */
    private static void steerOfTwoTheLesser() {
        SleepRoads x = Due.townOf("z4;s01;s02;m02;r01/0000");
        Due.is("0 and 2 are as far off from 1", x.steer(0, 0, 2), 0);
        Due.is("1 and 3 are as far off from 2", x.steer(1, 2, 2), 1);
        Due.is("moonstruck: 1 and 3", x.steer(2, 0, 2), 1);
        Due.is("restless: 0 and 2", x.steer(3, 2, 2), 0);
    }

    /** "NONE: there is none." */
    private static void steerByNone() {
        SleepRoads x = Due.townOf("z9;s00;m00;r00/000000000");
        for (int p = 0; p < 9; p++) {
            Due.is("in minute 1 to " + p, x.steer(0, p, 1), p < 4 ? p : NONE);
            Due.is("moonstruck", x.steer(1, p, 1), p > 0 && p < 5 ? p - 1 : NONE);
            Due.is("restless", x.steer(2, p, 1), p > 0 && p % 2 == 0 ? p / 2 - 1 : NONE);
        }
        Due.is("by 4", x.steer(0, 4, 1), NONE);
    }

    /** In MINUTE 0 he is where he STARTS by any STRIDE. */
    private static void steerInMinute0() {
        SleepRoads x = Due.townOf("z3;s20;m21;r22;s23/000");
        for (int a = 0; a < 4; a++) {
            Due.is("his own", x.steer(a, 2, 0), a);
            Due.is("nowhere else", x.steer(a, 0, 0), NONE);
            Due.is("nowhere else", x.steer(a, 1, 0), NONE);
        }
    }

    /** "the STRIDE (0 to 3)" */
    private static void steerByStrides0To3() {
        SleepRoads x = Due.townOf("z9;s53;m50;s50/000000000");
        Due.is("0", x.steer(0, 5, 1), 0);
        Due.is("1", x.steer(0, 6, 1), 1);
        Due.is("2", x.steer(0, 7, 1), 2);
        Due.is("3", x.steer(0, 8, 1), 3);
        Due.is("3, from 0", x.steer(2, 8, 1), 3);
        Due.is("not 4", x.steer(0, 0, 1), NONE);
        Due.is("not -1", x.steer(1, 5, 1), NONE);
        Due.is("3 and 1 more", x.steer(1, 0, 1), 3);
        Due.is("not 4 and 1 more", x.steer(1, 1, 1), NONE);
        Due.is("he is as he was", x.ofSleeper(1, 2), 0);
        Due.is("his own becomes 3", x.stride(2, 3), 0);
        Due.is("his own", x.steer(2, 5, 9), 3);
    }

    /** Promise 13: "in a MINUTE (0 .. 60) .. OUTSIDE" */
    private static void steerFromMinute0To60() {
        SleepRoads x = Due.townOf("z7;s01;m01;r01/0000000");
        // 60 is 4 behind the last whole round of 7.
        Due.is("in 60 by 1", x.steer(0, 4, 60), 1);
        Due.is("in 60 by 3", x.steer(0, 5, 60), 3);
        Due.is("in 60, moonstruck by 0", x.steer(1, 4, 60), 0);
        Due.is("in 60, restless by 3", x.steer(2, 2, 60), 3);
        Due.is("in 0", x.steer(0, 0, 0), 1);
        for (int minute : Due.beside(60)) {
            for (int a = 0; a < 3; a++) {
                Due.is("in " + minute, x.steer(a, 0, minute), OUTSIDE);
            }
        }
    }

    /** Promise 13: "UNKNOWN: SLEEPER, PLACE". */
    private static void steerUnknown() {
        SleepRoads x = Due.townOf(LONGEST);
        for (int a : Due.beside(3)) {
            Due.is("sleeper " + a, x.steer(a, 0, 0), UNKNOWN);
        }
        for (int p : Due.beside(6)) {
            Due.is("to " + p, x.steer(0, p, 0), UNKNOWN);
        }
        Due.is("the last to the last", x.steer(3, 6, 0), NONE);
    }

    /** "the PLACE to which the most SLEEPERS come at all" */
    private static void guardWhereTheMostCome() {
        Due.is("two of three", Due.townOf("z6;s50;s30;s32/000000").guard(), 3);
        Due.is("the last", Due.townOf("z9;s80;s80;s00/000000000").guard(), 8);
        Due.is("all four", Due.townOf("z9;s80;s71;m43;s80/000000000").guard(), 8);
        Due.is("the first", Due.townOf("z9;s00/000000000").guard(), 0);
        SleepRoads x = Due.townOf("z9;s10;s20;s20;s11/000000000");
        Due.is("three at 2", x.guard(), 2);
        x.stride(3, 0);
        Due.is("two at 1, two at 2", x.guard(), 1);
    }

    /** "(each counts once, whenever he is there)" */
    private static void guardCountsEachOnce() {
        Due.is("he who stays counts once", Due.townOf("z5;s20;s40;s40/00000").guard(), 4);
        Due.is("all who stay", Due.townOf("z5;s20;s20;s40;s40/00000").guard(), 2);
        // He at 1 comes to 1, 4 and 7 again and again.
        Due.is("he who comes again counts once", Due.townOf("z9;s13;s80;s80/000000000").guard(), 8);
        Due.is("one late, one soon", Due.townOf("z9;s01;s80/000000000").guard(), 8);
    }

    /** "of several the least" */
    private static void guardOfSeveralTheLeast() {
        Due.is("he comes everywhere", Due.townOf("z9;s81/000000000").guard(), 0);
        Due.is("two places of two", Due.townOf("z9;s70;s50;s50;s70/000000000").guard(), 5);
        Due.is("four places of one", Due.townOf("z9;s80;s70;s60;s30/000000000").guard(), 3);
        Due.is("even places", Due.townOf("z8;s72;s52/00000000").guard(), 1);
    }

    /** "in MINUTES 0 to 60": from the very first to the latest in which anyone comes to a PLACE. */
    private static void guardInMinutes0To60() {
        Due.is("in minute 0", Due.townOf("z9;s40/000000000").guard(), 4);
        Due.is("in minute 15", Due.townOf("z9;r00;s70/000000000").guard(), 7);
        Due.is("in minute 15", Due.townOf("z9;r13;s20/000000000").guard(), 2);
        Due.is("in minute 8", Due.townOf("z9;s61;s50/000000000").guard(), 5);
    }

    /** Promise 14: "STATE: there is no TOWN." */
    private static void guardWithoutATown() {
        SleepRoads x = new SleepRoads();
        Due.is("no town", x.guard(), STATE);
        Due.is("a text that isn't taken", Due.read(x, "z3;s20/0000"), -110);
        Due.is("no town still", x.guard(), STATE);
        Due.is("a town", Due.read(x, "z3;s20/000"), 1);
        Due.is("he is there", x.guard(), 2);
    }
}
