/** Head 4 and promises 15 to 20: each sentence that names a boundary case, with a test of its own. */
public final class ReadingsEdgesTest {
    private static final int UNKNOWN = -1, OUTSIDE = -2, FULL = -4;
    private static final long LOST = Long.MIN_VALUE;
    private static final String THREE = "z9;s01;m12;r23/000000000";

    private ReadingsEdgesTest() {
    }

    public static void main(String[] args) {
        eightReadingsAtMost();
        allEightCount();
        numberedByHowManyThereAreAhead();
        readingInMinutes0To60();
        readingUnknown();
        aReadingNeedNotBeSo();
        backFrom0ToAsManyAsThereAre();
        theLastAreTakenBack();
        backOutside();
        withoutReadingsAllAreSo();
        inPlaceOfWhatItIsAlone();
        readingsOfOtherSleepersToo();
        readingsOfOthersThatAreSo();
        ofReadingsAgainstEachOther();
        stridesFrom0To3();
        kindsFrom0To2();
        startsArePlaces();
        setsOfUnknownSleepers();
        oddsOfTheFirstFreeInMinute0();
        oddsInBedHeIsNowhere();
        oddsOfAllSuchSets();
        oddsWithinNAtMost();
        oddsFrom0To60();
        oddsOfTheSamePlace();
        oddsUpperAndLower();
        oddsUnknown();
        Due.finish("ReadingsEdgesTest");
    }

    private static void reads(SleepRoads x, int a, int minute, int p) {
        int number = x.many(3);
        Due.is("a reading", x.reading(a, minute, p), number);
    }

    private static void shareIs(SleepRoads x, int from, int to, int n, int upper, int lower) {
        String call = from + " to " + to + " in " + n;
        Due.is("upper, " + call, x.odds(from, to, n, 0), upper);
        Due.is("lower, " + call, x.odds(from, to, n, 1), lower);
    }

    /** "READINGS, 8 at most": FULL. */
    private static void eightReadingsAtMost() {
        SleepRoads x = Due.townOf(THREE);
        for (int k = 0; k < 8; k++) {
            Due.is("there is room", x.reading(0, 0, 0), k);
        }
        for (int a = 0; a < 3; a++) {
            Due.is("there is none", x.reading(a, 60, 8), FULL);
        }
        Due.is("eight", x.many(3), 8);
        Due.is("one less", x.back(1), 7);
        Due.is("room for one", x.reading(2, 60, 8), 7);
        Due.is("for no more", x.reading(2, 60, 8), FULL);
        Due.is("none left", x.back(8), 0);
        Due.is("room again", x.reading(0, 0, 0), 0);
    }

    /** The eighth READING counts as the first does. */
    private static void allEightCount() {
        for (int at = 0; at < 8; at++) {
            SleepRoads x = Due.townOf(THREE);
            for (int k = 0; k < 8; k++) {
                reads(x, 0, k, k == at ? 8 : k);
            }
            Due.is("one isn't so: " + at, x.strides(0), 0);
            Due.is("those ahead of it are", x.back(8 - at), at);
            Due.is("strides", x.strides(0), at < 2 ? 15 : 2);
            reads(x, 0, 1, 1);
            Due.is("strides", x.strides(0), 2);
        }
    }

    /** "numbered by how many there are ahead (the first one is 0)" */
    private static void numberedByHowManyThereAreAhead() {
        SleepRoads x = Due.townOf(THREE);
        Due.is("the first", x.reading(2, 5, 3), 0);
        Due.is("the second, alike", x.reading(2, 5, 3), 1);
        Due.is("the third", x.reading(0, 0, 0), 2);
        Due.is("two are taken back", x.back(2), 1);
        Due.is("the second again", x.reading(0, 0, 0), 1);
        Due.is("all are taken back", x.back(2), 0);
        Due.is("the first again", x.reading(0, 0, 0), 0);
        Due.is("a new town", Due.read(x, THREE), 3);
        Due.is("the first again", x.reading(0, 0, 0), 0);
    }

    /** Promise 15: "OUTSIDE: minute (0 .. 60)" */
    private static void readingInMinutes0To60() {
        SleepRoads x = Due.townOf(THREE);
        for (int minute : Due.beside(60)) {
            Due.is("in " + minute, x.reading(0, minute, 0), OUTSIDE);
        }
        Due.is("none", x.many(3), 0);
        Due.is("in 0", x.reading(0, 0, 0), 0);
        Due.is("in 60", x.reading(0, 60, 60 % 9), 1);
        // 60, 0, 120 and 180 are 6, 0, 3 and 0 behind whole rounds of 9.
        Due.is("in 60 by 1 alone", x.strides(0), Due.set(1));
        Due.is("in 60 from 0 alone", x.starts(0), Due.set(0));
    }

    /** Promise 15: "UNKNOWN: SLEEPER, PLACE" */
    private static void readingUnknown() {
        SleepRoads x = Due.townOf(THREE);
        for (int a : Due.beside(2)) {
            Due.is("of " + a, x.reading(a, 0, 0), UNKNOWN);
        }
        for (int p : Due.beside(8)) {
            Due.is("at " + p, x.reading(0, 0, p), UNKNOWN);
        }
        Due.is("none", x.many(3), 0);
        Due.is("of the last at the last", x.reading(2, 0, 8), 0);
    }

    /** A READING tells where one was, even if he can't have been there. */
    private static void aReadingNeedNotBeSo() {
        SleepRoads x = Due.townOf("z9;s00;s10/000000000");
        Due.is("he doesn't go", x.reading(0, 1, 5), 0);
        Due.is("by no stride", x.strides(0), 0);
        Due.is("from elsewhere", x.starts(0), Due.set(5));
        Due.is("he is where he is", x.where(0, 1), 0);
        Due.is("the other couldn't make it so", x.starts(1), 0);
    }

    /** Promise 16: "The last k READINGS (0 .. as many as there are) are taken back: how many are left." */
    private static void backFrom0ToAsManyAsThereAre() {
        for (int count = 0; count <= 8; count++) {
            for (int k = 0; k <= count; k++) {
                SleepRoads x = Due.townOf(THREE);
                for (int r = 0; r < count; r++) {
                    reads(x, 0, r, r);
                }
                Due.is(k + " of " + count, x.back(k), count - k);
                Due.is("so many are there", x.many(3), count - k);
            }
        }
        Due.is("without a town", new SleepRoads().back(0), 0);
    }

    /** Promise 16: "The last k" */
    private static void theLastAreTakenBack() {
        SleepRoads x = Due.townOf(THREE);
        reads(x, 0, 0, 7);
        reads(x, 0, 0, 8);
        Due.is("not in both", x.starts(0), 0);
        Due.is("one is left", x.back(1), 1);
        Due.is("the first", x.starts(0), Due.set(7));
        Due.is("none", x.back(0), 1);
        Due.is("it is there", x.starts(0), Due.set(7));
        reads(x, 0, 0, 7);
        Due.is("told twice", x.starts(0), Due.set(7));
        Due.is("none is left", x.back(2), 0);
        Due.is("any", x.starts(0), 511);
    }

    /** Promise 16: "OUTSIDE." */
    private static void backOutside() {
        SleepRoads x = Due.townOf(THREE);
        for (int count = 0; count <= 8; count++) {
            for (int k : Due.beside(count)) {
                Due.is(k + " of " + count, x.back(k), OUTSIDE);
            }
            Due.is("all are there", x.many(3), count);
            x.reading(0, 0, 0);
        }
        Due.is("one without a town", new SleepRoads().back(1), OUTSIDE);
        Due.is("below none without a town", new SleepRoads().back(-1), OUTSIDE);
    }

    /** Without READINGS nothing speaks against anything: the whole sets. */
    private static void withoutReadingsAllAreSo() {
        for (int places = 3; places <= 9; places++) {
            SleepRoads x = Due.townOf("z" + places + ";s01;m12;r23;s00/" + "0".repeat(places));
            for (int a = 0; a < 4; a++) {
                Due.is("strides", x.strides(a), 15);
                Due.is("kinds", x.kinds(a), 7);
                Due.is("starts", x.starts(a), (1 << places) - 1);
            }
        }
    }

    /** "in place of what it is alone": all else that he is stays. */
    private static void inPlaceOfWhatItIsAlone() {
        SleepRoads x = Due.townOf("z9;s11/000000000");
        reads(x, 0, 2, 5);
        Due.is("by 2 from 1", x.strides(0), Due.set(2));
        Due.is("moonstruck or restless by 1 from 1", x.kinds(0), Due.set(1, 2));
        Due.is("by 1 from 3", x.starts(0), Due.set(3));
        Due.is("not changed", x.ofSleeper(0, 0) + x.ofSleeper(0, 1) + x.ofSleeper(0, 2), 2);
        x.stride(0, 2);
        Due.is("by 2 from 1", x.strides(0), Due.set(2));
        Due.is("a sleeper by 2 from 1", x.kinds(0), Due.set(0));
        Due.is("by 2 from 1", x.starts(0), Due.set(1));
        reads(x, 0, 1, 3);
        Due.is("by 2 still", x.strides(0), Due.set(2));
        reads(x, 0, 3, 8);
        Due.is("not by 2: he must be another", x.strides(0) + x.kinds(0) + x.starts(0), 0);
    }

    /** "by which all READINGS (of other SLEEPERS, too) are so" */
    private static void readingsOfOtherSleepersToo() {
        SleepRoads x = Due.townOf(THREE);
        reads(x, 2, 0, 3);
        for (int a = 0; a < 2; a++) {
            Due.is("by no stride of " + a, x.strides(a), 0);
            Due.is("by no kind of " + a, x.kinds(a), 0);
            Due.is("by no start of " + a, x.starts(a), 0);
        }
        Due.is("nor by his stride", x.strides(2), 0);
        Due.is("nor by his kind", x.kinds(2), 0);
        Due.is("but by his start", x.starts(2), Due.set(3));
        reads(x, 0, 0, 1);
        Due.is("now not by that either", x.starts(2), 0);
        Due.is("nor by a start of the other", x.starts(0), 0);
    }

    /** A READING of another that is so takes nothing away. */
    private static void readingsOfOthersThatAreSo() {
        SleepRoads x = Due.townOf(THREE);
        reads(x, 1, 60, (1 + 180) % 9);
        reads(x, 2, 59, (2 + 240) % 9);
        Due.is("strides", x.strides(0), 15);
        Due.is("kinds", x.kinds(0), 7);
        Due.is("starts", x.starts(0), 511);
        Due.is("he came from 1", x.starts(1), Due.set(1));
        Due.is("by 2 and 1 more", x.strides(1), Due.set(2));
        Due.is("the other goes by another", x.stride(2, 1), 3);
        Due.is("strides", x.strides(0), 0);
        Due.is("kinds", x.kinds(0), 0);
        Due.is("starts", x.starts(0), 0);
        Due.is("the stride that he had would do, and 0", x.strides(2), Due.set(0, 3));
    }

    /** Sets may be empty: nothing that is put in its place makes all so. */
    private static void ofReadingsAgainstEachOther() {
        SleepRoads x = Due.townOf(THREE);
        reads(x, 0, 5, 5);
        reads(x, 0, 5, 6);
        for (int a = 0; a < 3; a++) {
            Due.is("strides", x.strides(a), 0);
            Due.is("kinds", x.kinds(a), 0);
            Due.is("starts", x.starts(a), 0);
        }
    }

    /** "STRIDES of a SLEEPER: 0 .. 3" */
    private static void stridesFrom0To3() {
        String[] kinds = {"s", "m", "r"};
        int[] first = {0, 1, 2};
        int[] step = {1, 1, 2};
        for (int kind = 0; kind < 3; kind++) {
            for (int p = 0; p < 9; p++) {
                SleepRoads x = Due.townOf("z9;" + kinds[kind] + "00/000000000");
                reads(x, 0, 1, p);
                int off = p - first[kind];
                boolean comes = off >= 0 && off % step[kind] == 0 && off / step[kind] <= 3;
                Due.is(kinds[kind] + " to " + p, x.strides(0), comes ? 1 << off / step[kind] : 0);
            }
        }
        SleepRoads all = Due.townOf("z3;s20/000");
        reads(all, 0, 60, 2);
        Due.is("all bring him there", all.strides(0), 15);
        reads(all, 0, 1, 2);
        Due.is("0 and 3", all.strides(0), Due.set(0, 3));
    }

    /** "KINDS of a SLEEPER: 0 .. 2" */
    private static void kindsFrom0To2() {
        for (String kind : new String[] {"s", "m", "r"}) {
            int[] want = {0, Due.set(0), Due.set(1), 0, Due.set(2), 0, 0, 0, 0};
            for (int p = 0; p < 9; p++) {
                SleepRoads x = Due.townOf("z9;" + kind + "01/000000000");
                reads(x, 0, 1, p);
                Due.is(kind + " to " + p, x.kinds(0), want[p]);
            }
            SleepRoads x = Due.townOf("z9;" + kind + "01/000000000");
            reads(x, 0, 2, 4);
            Due.is(kind + " in minute 2", x.kinds(0), Due.set(1, 2));
            SleepRoads y = Due.townOf("z3;" + kind + "02/000");
            reads(y, 0, 6, 0);
            Due.is(kind + " in minute 6", y.kinds(0), 7);
        }
    }

    /** "STARTS of a SLEEPER: PLACES" */
    private static void startsArePlaces() {
        for (int places = 3; places <= 9; places++) {
            SleepRoads x = Due.townOf("z" + places + ";s13/" + "0".repeat(places));
            for (int p = 0; p < places; p++) {
                reads(x, 0, 1, (p + 3) % places);
                Due.is("he began at " + p, x.starts(0), 1 << p);
                Due.is("taken back", x.back(1), 0);
                reads(x, 0, 0, p);
                Due.is("he was at " + p, x.starts(0), 1 << p);
                Due.is("taken back", x.back(1), 0);
            }
        }
    }

    /** Promises 17 to 19: "UNKNOWN." */
    private static void setsOfUnknownSleepers() {
        SleepRoads x = Due.townOf(THREE);
        for (int a : Due.beside(2)) {
            Due.is("strides of " + a, x.strides(a), UNKNOWN);
            Due.is("kinds of " + a, x.kinds(a), UNKNOWN);
            Due.is("starts of " + a, x.starts(a), UNKNOWN);
        }
        Due.is("strides of the last", x.strides(2), 15);
    }

    /** "the share by which the first is FREE in MINUTE 0" */
    private static void oddsOfTheFirstFreeInMinute0() {
        SleepRoads x = Due.townOf("z9;s01;s00;m80/000000000");
        shareIs(x, 0, 0, 60, 1, 4);
        shareIs(x, 8, 8, 60, 1, 2);
        shareIs(x, 1, 1, 60, 1, 1);
        SleepRoads all = Due.townOf("z3;s01;s00;m01;r03/000");
        shareIs(all, 0, 0, 0, 1, 16);
        shareIs(all, 1, 1, 0, 1, 1);
    }

    /** "or stays in bed (then he is nowhere)" */
    private static void oddsInBedHeIsNowhere() {
        SleepRoads x = Due.townOf("z3;s00/000");
        shareIs(x, 1, 0, 1, 1, 2);
        shareIs(x, 0, 1, 1, 1, 2);
        shareIs(x, 1, 2, 1, 1, 1);
        SleepRoads y = Due.townOf("z8;s00;s40/00000000");
        shareIs(y, 1, 7, 2, 1, 2);
        shareIs(y, 1, 7, 6, 3, 4);
        shareIs(y, 1, 4, 60, 1, 2);
    }

    /** "if each SLEEPER walks, or stays in bed .. all such sets alike": none of them and all of them, too. */
    private static void oddsOfAllSuchSets() {
        SleepRoads none = Due.townOf("z5;s00;s00;s00;s00/00000");
        shareIs(none, 4, 1, 2, 1, 16);
        shareIs(none, 4, 1, 3, 1, 1);
        SleepRoads each = Due.townOf("z6;s00;s10;s30;s50/000000");
        shareIs(each, 2, 4, 4, 9, 16);
        shareIs(each, 2, 4, 3, 1, 2);
        shareIs(each, 2, 0, 60, 5, 16);
        SleepRoads three = Due.townOf("z6;s00;s10;s30/000000");
        shareIs(three, 2, 0, 60, 3, 8);
    }

    /** "and SOONEST is n at most" */
    private static void oddsWithinNAtMost() {
        SleepRoads x = Due.townOf("z5;s00/00000");
        for (int n = 0; n <= 60; n++) {
            shareIs(x, 1, 3, n, n < 2 ? 0 : 1, 1);
            shareIs(x, 1, 4, n, n < 2 ? 0 : 1, n == 2 ? 2 : 1);
            shareIs(x, 1, 0, n, n < 1 ? 0 : 1, n < 1 ? 1 : 2);
        }
    }

    /** Promise 20: "n (0 .. 60)" */
    private static void oddsFrom0To60() {
        SleepRoads x = Due.townOf("z7;s01;r10;r30;r50/0000000");
        shareIs(x, 6, 0, 0, 0, 1);
        shareIs(x, 6, 0, 35, 15, 16);
        shareIs(x, 6, 0, 36, 1, 1);
        shareIs(x, 6, 0, 60, 1, 1);
        for (int n : Due.beside(60)) {
            Due.is("upper, n " + n, x.odds(6, 0, n, 0), LOST);
            Due.is("lower, n " + n, x.odds(6, 0, n, 1), LOST);
        }
    }

    /** "(or the same: 0)", in ODDS too. */
    private static void oddsOfTheSamePlace() {
        SleepRoads x = Due.townOf("z3;s00;s10;m10/000");
        shareIs(x, 2, 2, 0, 1, 1);
        shareIs(x, 1, 1, 0, 1, 4);
        shareIs(x, 0, 0, 60, 1, 2);
    }

    /** Promise 20: "(which 0 the upper, 1 the lower number)" */
    private static void oddsUpperAndLower() {
        SleepRoads x = Due.townOf("z5;s00/00000");
        Due.is("upper", x.odds(1, 4, 2, 0), 1);
        Due.is("lower", x.odds(1, 4, 2, 1), 2);
        for (int which : Due.beside(1)) {
            Due.is("which " + which, x.odds(1, 4, 2, which), LOST);
        }
    }

    /** Promise 20: "LOST: UNKNOWN: PLACES" */
    private static void oddsUnknown() {
        SleepRoads x = Due.townOf("z5;s00/00000");
        for (int p : Due.beside(4)) {
            Due.is("from " + p, x.odds(p, 1, 60, 0), LOST);
            Due.is("to " + p, x.odds(1, p, 60, 0), LOST);
            Due.is("from and to " + p, x.odds(p, p, 60, 1), LOST);
        }
        shareIs(x, 4, 4, 0, 1, 1);
    }
}
