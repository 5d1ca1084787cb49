/** Head 1 and promises 1 to 6: each sentence that names a boundary case, with a test of its own. */
public final class TownEdgesTest {
    private static final int UNKNOWN = -1, OUTSIDE = -2;

    private TownEdgesTest() {
    }

    public static void main(String[] args) {
        aDigitFrom3To9();
        behindTheLastPlaceComes0Again();
        from1To4Sleepers();
        theLetterOfAKind();
        aStartIsAPlaceThatThereIs();
        aStrideIsADigitFrom0To3();
        asManyGoodsAsPlaces();
        goodsAreDigits0To9();
        firstFaultIsTheFirstCode();
        firstFaultOfAFifthSleeper();
        firstFaultIfItJustEndsTooSoon();
        firstFaultIsCountedInTheText();
        theCodesThemselves();
        aTextThatIsTakenMakesAllAnew();
        aTextThatIsNotTakenMakesNothingAnew();
        aNewObject();
        townOfCellsAsARowOfALane();
        townRefusesSheetsAndLanes();
        ofSleeperWhat();
        goodsOfPlaces();
        layFrom0To9();
        strideFrom0To3();
        Due.finish("TownEdgesTest");
    }

    private static void takes(String text, int sleepers) {
        Due.is(text, Due.read(new SleepRoads(), text), sleepers);
    }

    private static void isFaulty(String text, int firstFault) {
        Due.is(text, Due.read(new SleepRoads(), text), -100 - firstFault);
    }

    /** "a digit 3 .. 9 (PLACES ..)" */
    private static void aDigitFrom3To9() {
        for (char sign : "012:/;z -".toCharArray()) {
            isFaulty("z" + sign + ";s00/000", 1);
        }
        for (int places = 3; places <= 9; places++) {
            SleepRoads x = Due.townOf("z" + places + ";s00/" + "0".repeat(places));
            Due.is("places", x.many(1), places);
            Due.is("the last", x.goods(places - 1), 0);
            Due.is("none behind it", x.goods(places), UNKNOWN);
        }
        isFaulty("z10;s00/0000000000", 1);
    }

    /** "numbered from 0 on; behind the last one comes 0 again" */
    private static void behindTheLastPlaceComes0Again() {
        for (int places = 3; places <= 9; places++) {
            SleepRoads x = Due.townOf("z" + places + ";s" + (places - 1) + "1/" + "0".repeat(places));
            Due.is("he goes on", x.where(0, 1), 0);
            Due.is("once round", x.where(0, places), places - 1);
            SleepRoads y = Due.townOf("z" + places + ";s10/" + "0".repeat(places));
            Due.row(y, 0, 0, 1, 2);
            Due.is("one goes on", y.walk(places - 1, 0, 0, 0, 1, 0), 0);
            Due.is("one goes back", y.walk(0, 0, 0, 1, 1, 0), places - 1);
            Due.is("soonest on", y.soonest(places - 1, 0, 0), 1);
            Due.is("soonest back", y.soonest(0, places - 1, 0), 2);
        }
        SleepRoads z = Due.townOf("z3;r23/000");
        Due.is("8 on, from 2", z.where(0, 1), 1);
    }

    /** "then 1 to 4 SLEEPERS, numbered from 0 on" */
    private static void from1To4Sleepers() {
        isFaulty("z3/000", 2);
        for (int count = 1; count <= 4; count++) {
            String text = "z9;s00;s10;s20;s30".substring(0, 2 + 4 * count) + "/000000000";
            SleepRoads x = Due.townOf(text);
            Due.is("sleepers", x.many(0), count);
            for (int a = 0; a < count; a++) {
                Due.is("he starts", x.ofSleeper(a, 1), a);
            }
            Due.is("none behind him", x.ofSleeper(count, 1), UNKNOWN);
        }
        isFaulty("z9;s00;s10;s20;s30;s40/000000000", 18);
    }

    /** "and a letter" s, m or r, nothing else. */
    private static void theLetterOfAKind() {
        for (int code = 0; code < 128; code++) {
            String text = "z3;" + (char) code + "12/000";
            int kind = "smr".indexOf(code);
            if (kind < 0) {
                isFaulty(text, 3);
            } else {
                Due.is(text, Due.townOf(text).ofSleeper(0, 0), kind);
            }
        }
    }

    /** "(START: a PLACE that there is)" */
    private static void aStartIsAPlaceThatThereIs() {
        for (int places = 3; places <= 9; places++) {
            String goods = "/" + "0".repeat(places);
            for (int start = 0; start <= 9; start++) {
                String text = "z" + places + ";s11;m" + start + "2" + goods;
                if (start < places) {
                    Due.is(text, Due.townOf(text).ofSleeper(1, 1), start);
                } else {
                    isFaulty(text, 8);
                }
            }
            isFaulty("z" + places + ";s:0" + goods, 4);
            isFaulty("z" + places + ";s/0" + goods, 4);
        }
    }

    /** "a digit 0 .. 3 (STRIDE)" */
    private static void aStrideIsADigitFrom0To3() {
        for (char kind : "smr".toCharArray()) {
            for (int stride = 0; stride <= 9; stride++) {
                String text = "z4;" + kind + "1" + stride + "/0000";
                if (stride <= 3) {
                    Due.is(text, Due.townOf(text).ofSleeper(0, 2), stride);
                } else {
                    isFaulty(text, 5);
                }
            }
            isFaulty("z4;" + kind + "1/0000", 5);
            isFaulty("z4;" + kind + "1:/0000", 5);
        }
    }

    /** "then / and as many digits .. as there are PLACES" */
    private static void asManyGoodsAsPlaces() {
        for (int places = 3; places <= 9; places++) {
            String head = "z" + places + ";s00/";
            isFaulty(head, 7);
            isFaulty(head + "1".repeat(places - 1), 7 + places - 1);
            takes(head + "1".repeat(places), 1);
            isFaulty(head + "1".repeat(places + 1), 7 + places);
            isFaulty(head + "1".repeat(places) + "/", 7 + places);
            isFaulty(head + "1".repeat(places) + ";", 7 + places);
        }
        isFaulty("z3;s00000", 6);
    }

    /** "digits 0 .. 9 .. (GOODS of each)" */
    private static void goodsAreDigits0To9() {
        SleepRoads x = Due.townOf("z9;s00/901234567");
        for (int p = 0; p < 9; p++) {
            Due.is("goods of " + p, x.goods(p), p == 0 ? 9 : p - 1);
        }
        Due.is("8, too", Due.townOf("z3;s00/080").goods(1), 8);
        for (int code = 0; code < 128; code++) {
            if (code < '0' || code > '9') {
                isFaulty("z3;s00/1" + (char) code + "1", 8);
            }
        }
    }

    /** "the place (from 0 on) of the first code with which no TEXT goes on" */
    private static void firstFaultIsTheFirstCode() {
        String text = "z5;s40;m13;r02/09876";
        String digits = "0123456789";
        String[] goOn = {"z", "3456789", ";", "smr", "01234", "0123", ";/", "smr", "01234", "0123", ";/", "smr",
            "01234", "0123", ";/", digits, digits, digits, digits, digits};
        Due.is("each code is told", goOn.length, text.length());
        for (int k = 0; k < goOn.length; k++) {
            SleepRoads x = new SleepRoads();
            Due.row(x, 0, 1, text.chars().toArray());
            for (int code = -2; code < 130; code++) {
                Due.is("put", x.put(0, k, code), 1);
                boolean isFault = code < 0 || goOn[k].indexOf(code) < 0;
                int got = x.town(0, 1, 0, text.length());
                Due.is("code " + code + " at " + k + " is the fault", got == -100 - k ? 1 : 0, isFault ? 1 : 0);
            }
        }
        isFaulty("zz;;", 1);
        isFaulty("y2;;", 0);
    }

    /** "(the ; of a fifth SLEEPER)" */
    private static void firstFaultOfAFifthSleeper() {
        isFaulty("z5;s00;m11;r22;s33;", 18);
        isFaulty("z5;s00;m11;r22;s33;s44", 18);
        isFaulty("z5;s00;m11;r22;s33;s44/00000", 18);
        isFaulty("z5;s00;m11;r22;s33;x", 18);
        takes("z5;s00;m11;r22;s33/00000", 4);
    }

    /** "how many codes there are, if it just ends too soon" */
    private static void firstFaultIfItJustEndsTooSoon() {
        String text = "z3;s00;m11;r22;s03/987";
        SleepRoads x = new SleepRoads();
        Due.row(x, 0, 0, text.chars().toArray());
        for (int n = 0; n < text.length(); n++) {
            Due.is("the first " + n, x.town(0, 0, 0, n), -100 - n);
        }
        Due.is("whole", x.town(0, 0, 0, text.length()), 4);
        Due.row(x, 1, 0);
        Due.is("an empty row", x.town(1, 0, 0, 0), -100);
    }

    /** "FIRST FAULT: the place (from 0 on)" of the TEXT, wherever it lies on its SHEET. */
    private static void firstFaultIsCountedInTheText() {
        String text = "z3;s00/98x";
        for (int ahead = 0; ahead <= 50; ahead += 10) {
            SleepRoads x = new SleepRoads();
            Due.row(x, 0, 0, ("z".repeat(ahead) + text).chars().toArray());
            Due.is("from cell " + ahead, x.town(0, 0, ahead, 10), -109);
            Due.is("too short, from cell " + ahead, x.town(0, 0, ahead, 9), -109);
            Due.is("shorter, from cell " + ahead, x.town(0, 0, ahead, 4), -104);
            Due.is("none, from cell " + ahead, x.town(0, 0, ahead, 0), -100);
        }
    }

    /** "(Codes: z 122, s 115, m 109, r 114, / 47, ; 59, digits 48 .. 57.)" */
    private static void theCodesThemselves() {
        int[] codes = {122, 51, 59, 115, 48, 49, 59, 109, 49, 50, 59, 114, 50, 51, 47, 48, 57, 53};
        for (int lane = 0; lane < 3; lane++) {
            SleepRoads x = new SleepRoads();
            Due.row(x, lane, lane, codes);
            Due.is("lane " + lane, x.town(lane, lane, 0, codes.length), 3);
            for (int a = 0; a < 3; a++) {
                for (int what = 0; what < 3; what++) {
                    Due.is("he", x.ofSleeper(a, what), what == 2 ? a + 1 : a);
                }
            }
            Due.is("goods", x.goods(1), 9);
        }
        SleepRoads x = new SleepRoads();
        Due.row(x, 0, 1, codes);
        Due.row(x, 1, 2, codes);
        for (int k = 0; k < codes.length; k++) {
            x.put(0, k, codes[k] + 256);
            x.put(1, k, codes[k] + 65536);
            Due.is("a short is no byte", x.town(0, 1, 0, codes.length), -100 - k);
            Due.is("an int is no short", x.town(1, 2, 0, codes.length), -100 - k);
            x.put(0, k, codes[k] + 65536);
            x.put(1, k, codes[k]);
        }
        Due.is("what is cut is the code", x.town(0, 1, 0, codes.length), 3);
    }

    /** "A TEXT that is taken makes all anew, but for SHEETS and TRACE: no READINGS." */
    private static void aTextThatIsTakenMakesAllAnew() {
        SleepRoads x = World.made();
        int trace = x.trace();
        Due.is("the same text", x.town(3, 0, 0, World.TEXT.length()), 3);
        Due.is("no readings", x.many(3), 0);
        Due.is("none is taken back", x.back(1), OUTSIDE);
        Due.is("any stride again", x.strides(0), 15);
        Due.is("the stride that is told", x.ofSleeper(0, 2), 1);
        Due.is("the goods that are told", x.goods(3), 4);
        Due.is("trace stays", x.trace(), trace);
        Due.is("sheet 0 stays", x.cell(0, 1, 0), 2);
        Due.is("sheet 1 stays", x.cell(1, 2, 1), -1);
        Due.is("sheet 2 has nothing still", x.lose(2), 0);
        Due.is("the text stays", x.cell(3, 0, 0), 'z');
        Due.is("the first reading", x.reading(0, 0, 0), 0);
        Due.is("more places, fewer sleepers", Due.read(x, "z9;r80/000000009"), 1);
        Due.is("sleepers", x.many(0), 1);
        Due.is("he is gone", x.ofSleeper(1, 0), UNKNOWN);
        Due.is("goods of all", x.many(2), 9);
        Due.is("no readings", x.many(3), 0);
        Due.is("free", x.free(0), 255);
        Due.is("fewer places, more sleepers", Due.read(x, "z3;s00;s00;s00;m10/111"), 4);
        Due.is("goods of all", x.many(2), 3);
        Due.is("it is gone", x.goods(3), UNKNOWN);
        Due.is("free", x.free(0), Due.set(2));
    }

    /** A FIRST FAULT is told in place of a TOWN: the one that there was stays. */
    private static void aTextThatIsNotTakenMakesNothingAnew() {
        String text = "z9;r83;r82;r81;r80/99999999";
        for (int n = 0; n <= text.length(); n++) {
            SleepRoads x = World.made();
            SleepRoads y = World.made();
            Due.row(x, 2, 2, text.chars().toArray());
            Due.row(y, 2, 2, text.chars().toArray());
            Due.is("of " + n + " codes", x.town(2, 2, 0, n), -100 - n);
            Due.is("no fault", x.fault(), 0);
            Due.is("as it was", World.told(x).equals(World.told(y)) ? 1 : 0, 1);
        }
        SleepRoads z = new SleepRoads();
        Due.is("too short", Due.read(z, text), -127);
        Due.is("no places", z.many(1), 0);
        Due.is("no sleepers", z.many(0), 0);
    }

    /** Promise 1: "No TOWN (no PLACES, SLEEPERS), SHEETS have nothing." */
    private static void aNewObject() {
        SleepRoads x = new SleepRoads();
        for (int what = 0; what < 4; what++) {
            Due.is("many", x.many(what), 0);
        }
        Due.is("no place", x.goods(0), UNKNOWN);
        Due.is("no sleeper", x.ofSleeper(0, 0), UNKNOWN);
        Due.is("trace", x.trace(), 0);
        Due.is("fault", x.fault(), 0);
        for (int k = 0; k < 4; k++) {
            Due.is("nothing", x.lose(k), 0);
            Due.is("nothing", x.put(k, 0, 0), -11);
        }
        SleepRoads other = World.made();
        Due.is("another object has its own", x.many(1), 0);
        Due.is("another object has its own", x.lose(0), 0);
        Due.is("another object has its own", other.many(1), 4);
    }

    /** Promise 2: "a TEXT of n cells of a SHEET from i on", the whole SHEET of 60 and its last cells, too. */
    private static void townOfCellsAsARowOfALane() {
        for (int lane = 0; lane < 3; lane++) {
            SleepRoads x = new SleepRoads();
            Due.is("60 cells", x.sheet(0, lane, 60), 1);
            String text = "z3;s00/123";
            for (int k = 0; k < text.length(); k++) {
                x.put(0, 50 + k, text.charAt(k));
            }
            Due.is("the last ten", x.town(0, lane, 50, 10), 1);
            Due.is("eleven from there", x.town(0, lane, 50, 11), -13);
            Due.is("the last nine", x.town(0, lane, 51, 9), -100);
            Due.is("none behind the last", x.town(0, lane, 60, 0), -100);
            Due.is("none behind that", x.town(0, lane, 61, 0), -13);
            Due.is("all 60", x.town(0, lane, 0, 60), -100);
            Due.is("61", x.town(0, lane, 0, 61), -13);
            Due.is("as many as an int", x.town(0, lane, 50, Integer.MAX_VALUE), -13);
        }
    }

    /** Promise 2: "UNKNOWN; OUTSIDE: lane". */
    private static void townRefusesSheetsAndLanes() {
        SleepRoads x = World.made();
        for (int k : Due.beside(3)) {
            Due.is("sheet " + k, x.town(k, 0, 0, 19), UNKNOWN);
        }
        for (int lane : Due.beside(2)) {
            Due.is("lane " + lane, x.town(3, lane, 0, 19), OUTSIDE);
        }
        Due.is("taken", x.town(3, 0, 0, 19), 3);
    }

    /** Promise 3: "0 kind, 1 START, 2 STRIDE .. OUTSIDE". */
    private static void ofSleeperWhat() {
        SleepRoads x = Due.townOf("z9;r81;m70;s63;s02/000000000");
        int[][] want = {{2, 8, 1}, {1, 7, 0}, {0, 6, 3}, {0, 0, 2}};
        for (int a = 0; a < 4; a++) {
            for (int what = 0; what < 3; what++) {
                Due.is("he", x.ofSleeper(a, what), want[a][what]);
            }
            for (int what : Due.beside(2)) {
                Due.is("what " + what, x.ofSleeper(a, what), OUTSIDE);
            }
        }
        Due.is("a fifth", x.ofSleeper(4, 0), UNKNOWN);
    }

    /** Promise 4: GOODS of the first and the last PLACE, none behind; they are told as they lie at first. */
    private static void goodsOfPlaces() {
        SleepRoads x = Due.townOf("z9;s01/123456789");
        Due.is("the first", x.goods(0), 1);
        Due.is("the last", x.goods(8), 9);
        Due.is("behind it", x.goods(9), UNKNOWN);
        Due.is("below it", x.goods(-1), UNKNOWN);
        Due.is("he takes all", x.taken(0, 60), 45);
        Due.is("they are told still", x.goods(0), 1);
    }

    /** Promise 5: "become v (0 .. 9): what they were". */
    private static void layFrom0To9() {
        SleepRoads x = Due.townOf("z9;s01/123456789");
        Due.is("a reading", x.reading(0, 0, 0), 0);
        int before = 9;
        for (int v = 0; v <= 9; v++) {
            Due.is("lay " + v, x.lay(8, v), before);
            Due.is("goods", x.goods(8), v);
            before = v;
        }
        for (int v : Due.beside(9)) {
            Due.is("lay " + v, x.lay(8, v), OUTSIDE);
        }
        Due.is("goods", x.goods(8), 9);
        Due.is("at the first", x.lay(0, 5), 1);
        Due.is("beside it", x.goods(1), 2);
        Due.is("behind the last", x.lay(9, 5), UNKNOWN);
        Due.is("all", x.many(2), 49);
        Due.is("the reading stays", x.many(3), 1);
        Due.is("the stride stays", x.ofSleeper(0, 2), 1);
    }

    /** Promise 6: "becomes v (0 .. 3): what it was". */
    private static void strideFrom0To3() {
        SleepRoads x = Due.townOf("z9;s01;m02;r03;s00/123456789");
        Due.is("a reading", x.reading(0, 0, 0), 0);
        for (int a = 0; a < 4; a++) {
            int before = (a + 1) % 4;
            for (int v = 0; v <= 3; v++) {
                Due.is("stride " + v, x.stride(a, v), before);
                Due.is("it is so", x.ofSleeper(a, 2), v);
                before = v;
            }
            for (int v : Due.beside(3)) {
                Due.is("stride " + v, x.stride(a, v), OUTSIDE);
            }
            Due.is("it is so still", x.ofSleeper(a, 2), 3);
        }
        Due.is("no such sleeper", x.stride(4, 0), UNKNOWN);
        Due.is("the reading stays", x.many(3), 1);
        Due.is("the goods stay", x.many(2), 45);
        Due.is("he goes by it from minute 0 on", x.where(0, 2), 6);
    }
}
