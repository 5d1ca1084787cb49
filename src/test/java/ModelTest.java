/** Runs of calls, the same ones each time, on an object and on the Model: each answer must be the same. */
public final class ModelTest {
    private static final int RUNS = 300, CALLS = 512;
    private static final int[] ODD_NUMBERS = {Integer.MIN_VALUE, Integer.MAX_VALUE, -1000, 1000, 61, 62, 255, -128};

    private final SleepRoads object = new SleepRoads();
    private final Model model = new Model();
    private final int run;
    private long seed;
    private int calls = 0;

    private ModelTest(int run) {
        this.run = run;
        this.seed = run * 7919L + 17;
    }

    public static void main(String[] args) {
        for (int run = 0; run < RUNS; run++) {
            new ModelTest(run).play();
        }
        Due.finish("ModelTest");
    }

    /** 0 .. below - 1, by a rule of its own so that each run can be repeated. */
    private int some(int below) {
        seed = seed * 6364136223846793005L + 1442695040888963407L;
        return (int) ((seed >>> 33) % below);
    }

    /** Mostly 0 .. last, now and then one beside them or far off. */
    private int number(int last) {
        int luck = some(40);
        if (luck == 0) return ODD_NUMBERS[some(ODD_NUMBERS.length)];
        if (luck == 1) return last + 1;
        return luck == 2 ? -1 : some(last + 1);
    }

    private void due(String call, long got, long want) {
        calls++;
        // What an object answers to its 513th call is free.
        if (calls <= CALLS) {
            Due.is("run " + run + ", call " + calls + ": " + call, got, want);
        }
    }

    private void play() {
        writeTown();
        while (calls < CALLS) {
            int part = some(100);
            if (part < 2) writeTown();
            else if (part < 5) writeWalk();
            else if (part < 30) callOfTown();
            else if (part < 50) callOfWays();
            else if (part < 75) callOfReadings();
            else callOfSheets();
        }
    }

    private String text() {
        int places = 3 + some(7);
        StringBuilder text = new StringBuilder("z" + places);
        int sleepers = 1 + some(4);
        for (int a = 0; a < sleepers; a++) {
            text.append(';').append("smr".charAt(some(3))).append(some(places)).append(some(4));
        }
        text.append('/');
        for (int p = 0; p < places; p++) {
            text.append(some(10));
        }
        return text.toString();
    }

    private String spoilt(String text) {
        String signs = "zsmr/;0123456789:x";
        int at = some(text.length());
        char sign = signs.charAt(some(signs.length()));
        switch (some(6)) {
            case 0: return text.substring(0, at) + sign + text.substring(at + 1);
            case 1: return text.substring(0, at);
            case 2: return text.substring(0, at) + sign + text.substring(at);
            case 3: return text + sign;
            default: return text;
        }
    }

    private void writeTown() {
        String text = spoilt(text());
        int k = some(4);
        int lane = some(3);
        int ahead = some(4);
        writeRow(k, lane, ahead, text.chars().toArray());
        due("town " + text, object.town(k, lane, ahead, text.length()), model.town(k, lane, ahead, text.length()));
        for (int what = 0; what < 4; what++) {
            due("many " + what, object.many(what), model.many(what));
        }
    }

    private void writeWalk() {
        int[] acts = new int[some(41)];
        for (int i = 0; i < acts.length; i++) {
            acts[i] = some(200) == 0 ? number(3) : some(3);
        }
        int k = some(4);
        int lane = some(3);
        writeRow(k, lane, 0, acts);
        for (int n = acts.length; n >= 0; n -= 1 + some(12)) {
            int p = number(8);
            for (int what = 0; what < 4; what++) {
                due("walk of " + n, object.walk(p, k, lane, 0, n, what), model.walk(p, k, lane, 0, n, what));
            }
        }
    }

    private void writeRow(int k, int lane, int ahead, int[] numbers) {
        due("sheet", object.sheet(k, lane, ahead + numbers.length), model.sheet(k, lane, ahead + numbers.length));
        for (int i = 0; i < numbers.length; i++) {
            due("put", object.put(k, ahead + i, numbers[i]), model.put(k, ahead + i, numbers[i]));
        }
    }

    private void callOfTown() {
        int a = number(3);
        int b = number(3);
        int p = number(8);
        int minute = number(60);
        int v = number(9);
        switch (some(10)) {
            case 0: due("ofSleeper", object.ofSleeper(a, b), model.ofSleeper(a, b)); break;
            case 1: due("goods", object.goods(p), model.goods(p)); break;
            case 2: due("lay", object.lay(p, v), model.lay(p, v)); break;
            case 3: due("stride", object.stride(a, b), model.stride(a, b)); break;
            case 4: due("where", object.where(a, minute), model.where(a, minute)); break;
            case 5: due("taken", object.taken(a, minute), model.taken(a, minute)); break;
            case 6: due("taken", object.taken(a, b), model.taken(a, b)); break;
            case 7: due("free", object.free(minute), model.free(minute)); break;
            case 8: due("meet", object.meet(a, b), model.meet(a, b)); break;
            default: due("many", object.many(a), model.many(a));
        }
    }

    private void callOfWays() {
        int a = number(3);
        int from = number(8);
        int to = number(8);
        int minute = number(60);
        int few = number(6);
        switch (some(7)) {
            case 0: due("soonest", object.soonest(from, to, -1), model.soonest(from, to, -1)); break;
            case 1: due("soonest", object.soonest(from, to, minute), model.soonest(from, to, minute)); break;
            case 2: due("soonest", object.soonest(from, to, few), model.soonest(from, to, few)); break;
            case 3: due("steer", object.steer(a, to, minute), model.steer(a, to, minute)); break;
            case 4: due("guard", object.guard(), model.guard()); break;
            case 5: due("odds", object.odds(from, to, minute, a), model.odds(from, to, minute, a)); break;
            default: due("odds", object.odds(from, to, few, a % 2), model.odds(from, to, few, a % 2));
        }
    }

    private void callOfReadings() {
        int a = number(3);
        int minute = some(3) == 0 ? number(60) : number(4);
        int p = number(8);
        switch (some(9)) {
            case 0: due("reading", object.reading(a, minute, p), model.reading(a, minute, p)); break;
            case 1:
            case 2:
                // One that is so, as those told by chance leave nothing.
                p = model.where(a, minute);
                due("true reading", object.reading(a, minute, p), model.reading(a, minute, p));
                break;
            case 3: due("back", object.back(a), model.back(a)); break;
            case 4: due("strides", object.strides(a), model.strides(a)); break;
            case 5: due("kinds", object.kinds(a), model.kinds(a)); break;
            case 6: due("starts", object.starts(a), model.starts(a)); break;
            case 7: due("back", object.back(model.many(3)), model.back(model.many(3))); break;
            default: due("many", object.many(3), model.many(3));
        }
    }

    private void callOfSheets() {
        int k = number(3);
        int other = number(3);
        int lane = number(2);
        int i = number(some(2) == 0 ? 59 : 5);
        int j = number(5);
        int n = number(some(2) == 0 ? 60 : 5);
        int a = number(3);
        int v = number(some(2) == 0 ? 70000 : 2);
        switch (some(16)) {
            case 0: due("sheet", object.sheet(k, lane, n), model.sheet(k, lane, n)); break;
            case 1: due("lose", object.lose(k), model.lose(k)); break;
            case 2:
            case 3: due("put", object.put(k, i, v), model.put(k, i, v)); break;
            case 4:
            case 5: due("cell", object.cell(k, i, lane), model.cell(k, i, lane)); break;
            case 6:
            case 7: due("copy", object.copy(k, i, other, j, n), model.copy(k, i, other, j, n)); break;
            case 8: due("tell", object.tell(a), model.tell(a)); break;
            case 9: due("waken", object.waken(a), model.waken(a)); break;
            case 10: due("as", object.as(a, lane), model.as(a, lane)); break;
            case 11: due("trace", object.trace(), model.trace()); break;
            case 12:
            case 13: due("fault", object.fault(), model.fault()); break;
            case 14: due("walk", object.walk(j, k, lane, i, n, a), model.walk(j, k, lane, i, n, a)); break;
            default: due("town", object.town(k, lane, i, n), model.town(k, lane, i, n));
        }
    }
}
