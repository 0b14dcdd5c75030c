/** Long runs of calls, made from fixed seeds, answered by the program as by PlainModel. */
public final class PlainModelTest {
    private static final int RUNS = 400;
    private static final int CALLS = 512;
    private static final int WRONG_ENOUGH = 20;
    private static final int[] WILD = {
        Integer.MIN_VALUE, -100001, -2, -1, 0, 1, 2, 3, 4, 5, 7, 8, 11, 12, 13, 20, 21, 29, 30, 31,
        32, 99, 100, 101, 299, 300, 1199, 1200, 2880, 99999, 100000, 100001, Integer.MAX_VALUE,
    };

    /** How often each kind of call comes, piece() first and count() last. */
    private static final int[][] MIXES = {
        {6, 12, 2, 6, 8, 40, 10, 10, 6, 2, 2, 10, 4, 4},
        {6, 4, 1, 4, 4, 60, 5, 20, 2, 1, 1, 6, 2, 2},
        {12, 20, 4, 12, 20, 20, 10, 5, 3, 4, 4, 4, 4, 4},
        {1, 1, 0, 1, 4, 30, 30, 10, 6, 1, 0, 10, 4, 4},
    };

    private long state;
    private int span;
    private int points;
    private int first;
    private int[] mix;
    private ChannelRules program;
    private PlainModel model;
    private String run;

    private PlainModelTest() {
    }

    public static void main(String[] args) {
        PlainModelTest test = new PlainModelTest();
        for (int seed = 1; seed <= RUNS && Check.wrongOnes() < WRONG_ENOUGH; seed++) {
            test.playRun(seed);
        }
        Check.end();
    }

    private int below(int bound) {
        state = state * 6364136223846793005L + 1442695040888963407L;
        return (int) ((state >>> 33) % bound);
    }

    private int from(int least, int most) {
        return least + below(most - least + 1);
    }

    private boolean isWild() {
        return below(40) == 0;
    }

    private int or(int tame) {
        return isWild() ? WILD[below(WILD.length)] : tame;
    }

    private void playRun(int seed) {
        state = seed * 7919L;
        mix = MIXES[seed % MIXES.length];
        // Narrow spans of time make conflicts, wide ones make nights and empty channels.
        span = new int[] {40, 150, 600, 3000}[below(4)];
        points = from(2, 8);
        first = seed % 5 == 0 ? 99000 : 1440 * below(60) + below(1440);
        program = new ChannelRules();
        model = new PlainModel();
        run = "run " + seed;
        layHarbour();
        for (int call = 0; call < CALLS && Check.wrongOnes() < WRONG_ENOUGH; call++) {
            playCall(call);
        }
        compareState();
    }

    private void layHarbour() {
        int laid = from(1, 12);
        for (int i = 0; i < laid; i++) {
            addPiece();
            addShip();
        }
        int time = first;
        same("tick(" + time + ")", model.tick(time), () -> program.tick(time) ? 1 : 0);
    }

    private void addPiece() {
        int a = anyPoint();
        int b = or((a + from(1, points - 1)) % points);
        int length = or(below(2) == 0 ? from(1, 10) * 5 : from(1, 100));
        int width = or(from(5, 60));
        same("piece(" + a + ", " + b + ", " + length + ", " + width + ")",
            model.piece(a, b, length, width), () -> program.piece(a, b, length, width));
    }

    private void addShip() {
        int width = or(from(1, 25));
        int speed = or(from(1, 6));
        int cls = or(below(5) == 0 ? 2 : below(2));
        same("ship(" + width + ", " + speed + ", " + cls + ")",
            model.ship(width, speed, cls), () -> program.ship(width, speed, cls));
    }

    private int anyPoint() {
        return or(below(points));
    }

    private int anyTime() {
        return or(Math.min(100000, Math.max(first, model.count(4)) + below(span)));
    }

    private int anyShip() {
        return or(below(Math.max(1, model.count(1))));
    }

    private int anyPiece() {
        return or(below(Math.max(1, model.count(0))));
    }

    private int anySlot() {
        return or(1 + below(Math.max(1, model.count(2))));
    }

    private int pickKind() {
        int all = 0;
        for (int weight : mix) {
            all += weight;
        }
        int picked = below(all);
        for (int kind = 0; kind < mix.length; kind++) {
            picked -= mix[kind];
            if (picked < 0) {
                return kind;
            }
        }
        return 0;
    }

    private void playCall(int call) {
        run = run.replaceAll(",.*", "") + ", call " + call;
        switch (pickKind()) {
            case 0 -> addPiece();
            case 1 -> playRule();
            case 2 -> playWind();
            case 3 -> addShip();
            case 4 -> playRoute();
            case 5 -> playAsk();
            case 6 -> playEarliest();
            case 7 -> playChange();
            case 8 -> playBack();
            case 9 -> playClose();
            case 10 -> playTick();
            case 11 -> playConflict();
            case 12 -> playAt();
            default -> playCount();
        }
    }

    private void playRule() {
        int piece = anyPiece();
        int kind = or(below(5));
        int v = or(kind == 2 ? below(40) : below(kind < 2 ? 3 : 2));
        same("rule(" + piece + ", " + kind + ", " + v + ")",
            model.rule(piece, kind, v), () -> program.rule(piece, kind, v) ? 1 : 0);
    }

    private void playWind() {
        boolean is = below(3) == 0;
        same("wind(" + is + ")", model.wind(is), () -> program.wind(is) ? 1 : 0);
    }

    private void playRoute() {
        int ship = anyShip();
        int a = anyPoint();
        int b = anyPoint();
        int what = or(below(3));
        same("route(" + ship + ", " + a + ", " + b + ", " + what + ")",
            model.route(ship, a, b, what), () -> program.route(ship, a, b, what));
    }

    private void playAsk() {
        int ship = anyShip();
        int a = anyPoint();
        int b = anyPoint();
        int time = anyTime();
        same("ask(" + ship + ", " + a + ", " + b + ", " + time + ")",
            model.ask(ship, a, b, time), () -> program.ask(ship, a, b, time));
    }

    private void playEarliest() {
        int ship = anyShip();
        int a = anyPoint();
        int b = anyPoint();
        int time = anyTime();
        same("earliest(" + ship + ", " + a + ", " + b + ", " + time + ")",
            model.earliest(ship, a, b, time), () -> program.earliest(ship, a, b, time));
    }

    private void playChange() {
        int slot = anySlot();
        int time = anyTime();
        same("change(" + slot + ", " + time + ")",
            model.change(slot, time), () -> program.change(slot, time));
    }

    private void playBack() {
        int slot = anySlot();
        same("back(" + slot + ")", model.back(slot), () -> program.back(slot) ? 1 : 0);
    }

    private void playClose() {
        int piece = anyPiece();
        int start = anyTime();
        int end = or(start + (below(4) == 0 ? from(2700, 3100) : from(-1, 60)));
        same("close(" + piece + ", " + start + ", " + end + ")",
            model.close(piece, start, end), () -> program.close(piece, start, end));
    }

    private void playTick() {
        // Wild times would often end the run's use, so they are mostly wrong ones.
        int time = isWild() ? from(-5, 100) : Math.min(100001, model.count(4) + below(span / 8));
        same("tick(" + time + ")", model.tick(time), () -> program.tick(time) ? 1 : 0);
    }

    private void playConflict() {
        int i = or(below(Math.max(1, model.count(5) + 1)));
        int side = or(below(4));
        same("conflict(" + i + ", " + side + ")",
            model.conflict(i, side), () -> program.conflict(i, side));
    }

    private void playAt() {
        int slot = anySlot();
        int i = or(below(3));
        int what = or(below(4));
        same("at(" + slot + ", " + i + ", " + what + ")",
            model.at(slot, i, what), () -> program.at(slot, i, what));
    }

    private void playCount() {
        int what = or(below(3) == 0 ? from(19, 53) : below(8));
        same("count(" + what + ")", model.count(what), () -> program.count(what));
    }

    /**
     * By now the document leaves the answers free; this program's stay the same, so all that the
     * run has left in it can be looked at.
     */
    private void compareState() {
        run = run.replaceAll(",.*", "") + ", at its end";
        for (int w = -1; w <= 52; w++) {
            int what = w;
            same("count(" + what + ")", model.count(what), () -> program.count(what));
        }
        int conflicts = model.count(5);
        for (int c = 0; c <= conflicts; c++) {
            for (int s = 0; s < 4; s++) {
                int i = c;
                int side = s;
                same("conflict(" + i + ", " + side + ")",
                    model.conflict(i, side), () -> program.conflict(i, side));
            }
        }
        for (int slot = 0; slot <= 31; slot++) {
            for (int i = 0; i <= 7; i++) {
                for (int w = 0; w < 4; w++) {
                    int what = w;
                    int itsSlot = slot;
                    int stay = i;
                    same("at(" + slot + ", " + i + ", " + w + ")",
                        model.at(slot, i, w), () -> program.at(itsSlot, stay, what));
                }
            }
        }
    }

    private void same(String call, int want, java.util.function.IntSupplier made) {
        Check.due(run + ": " + call, want, made);
    }
}
