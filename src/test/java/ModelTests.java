import java.util.Random;

/** Random runs of calls, each answer held against SlowModel's; the seeds are fixed, so every run is the same. */
public final class ModelTests {
    private static final int RUNS = 1500;
    private static final int CALLS_A_RUN = 300;
    private static final int LOOKS_AT_THE_END = 200;
    private static final int LEAST_ROUNDS = 400;
    private static final int FIT_ROUNDS = 1000;

    private final Random random;
    private final int seed;
    private final PictureBeats beats = new PictureBeats();
    private final SlowModel model = new SlowModel();
    private int calls = 0;

    private ModelTests(int seed) {
        this.seed = seed;
        this.random = new Random(seed);
    }

    public static void main(String[] args) {
        for (int seed = 0; seed < RUNS && Due.wrongSoFar() == 0; seed++) {
            new ModelTests(seed).runMixed();
        }
        for (int seed = 0; seed < LEAST_ROUNDS && Due.wrongSoFar() == 0; seed++) {
            new ModelTests(10000 + seed).runLeast();
        }
        for (int seed = 0; seed < FIT_ROUNDS && Due.wrongSoFar() == 0; seed++) {
            new ModelTests(20000 + seed).runFit();
        }
        Due.end();
    }

    private void runMixed() {
        for (int k = 0; k < CALLS_A_RUN; k++) {
            call();
        }
        for (int k = 0; k < LOOKS_AT_THE_END; k++) {
            look();
        }
    }

    private void runLeast() {
        tellLine(random.nextBoolean() ? 12 : 32);
        ticks(8);
        for (int k = 0; k < 6; k++) {
            tellDepth();
            askLeast();
        }
    }

    private void runFit() {
        askFit();
    }

    private int from(int low, int high) {
        return low + random.nextInt(high - low + 1);
    }

    /** Mostly within the bounds, now and then just outside them, seldom far away. */
    private int around(int low, int high) {
        switch (random.nextInt(40)) {
            case 0: return low - 1;
            case 1: return high + 1;
            case 2: return low;
            case 3: return high;
            case 4: return random.nextInt(20) == 0 ? random.nextInt() : low;
            default: return from(low, high);
        }
    }

    private void same(String call, long got, long want) {
        calls++;
        Due.equal("seed " + seed + ", call " + calls + ": " + call, got, want);
    }

    private void same(String call, boolean got, boolean want) {
        same(call, got ? 1 : 0, want ? 1 : 0);
    }

    private void call() {
        switch (random.nextInt(24)) {
            case 0: tellLine(random.nextInt(4) == 0 ? 32 : 4); break;
            case 1: tellField(); break;
            case 2: put(); break;
            case 3: case 4: four(); break;
            case 5: tellRegister(); break;
            case 6: case 7: tellEntry(); break;
            case 8: maybeClear(); break;
            case 9: tellReaders(); break;
            case 10: tellDepth(); break;
            case 11: case 12: tellSprite(); break;
            case 13: tellBits(); break;
            case 14: ticks(from(1, 12)); break;
            case 15: ticks(from(1, 300)); break;
            case 16: ticks(around(1, random.nextInt(10) == 0 ? 4000 : 100)); break;
            case 17: images(); break;
            case 18: maybeFitOrLeast(); break;
            default: look(); break;
        }
    }

    private void tellLine(int most) {
        int seen = around(8, random.nextBoolean() ? 64 : 20);
        int front = around(1, most);
        int sync = around(1, most);
        int back = around(1, most);
        same("line(" + seen + ", " + front + ", " + sync + ", " + back + ")",
            beats.line(seen, front, sync, back), model.line(seen, front, sync, back));
    }

    private void tellField() {
        int seen = around(1, random.nextBoolean() ? 32 : 4);
        int front = around(1, random.nextBoolean() ? 8 : 2);
        int sync = around(1, random.nextBoolean() ? 8 : 2);
        int back = around(1, random.nextBoolean() ? 8 : 2);
        boolean interlaced = random.nextInt(3) > 0;
        same("field(" + seen + ", " + front + ", " + sync + ", " + back + ", " + interlaced + ")",
            beats.field(seen, front, sync, back, interlaced), model.field(seen, front, sync, back, interlaced));
    }

    private void put() {
        int at = around(0, 1023);
        int value = random.nextInt();
        same("put(" + at + ", " + value + ")", beats.put(at, value), model.put(at, value));
    }

    private void four() {
        int at = around(0, random.nextBoolean() ? 1023 : 40);
        int value = random.nextInt();
        same("four(" + at + ", " + value + ")", beats.four(at, value), model.four(at, value));
    }

    private int valueFor(int register) {
        int[] highest = {1023, 64, 7, 255, 255};
        return around(0, register >= 0 && register < 5 ? highest[register] : 9);
    }

    private void tellRegister() {
        int register = around(0, 4);
        int value = valueFor(register);
        same("register(" + register + ", " + value + ")", beats.register(register, value), model.register(register, value));
    }

    private void tellEntry() {
        int y = around(0, random.nextInt(4) == 0 ? 63 : 4);
        int x = around(0, random.nextInt(4) == 0 ? 159 : 24);
        int register = around(0, 4);
        int value = valueFor(register);
        same("entry(" + y + ", " + x + ", " + register + ", " + value + ")",
            beats.entry(y, x, register, value), model.entry(y, x, register, value));
    }

    private void maybeClear() {
        if (random.nextInt(4) == 0) {
            beats.clear();
            model.clear();
        }
    }

    private void tellReaders() {
        int period = around(1, 16);
        int pattern = random.nextInt() & random.nextInt();
        same("readers(" + period + ", " + pattern + ")", beats.readers(period, pattern), model.readers(period, pattern));
    }

    private void tellDepth() {
        int depth = around(1, 8);
        same("depth(" + depth + ")", beats.depth(depth), model.depth(depth));
    }

    private void tellSprite() {
        int sprite = around(0, 7);
        int x = around(-8, random.nextBoolean() ? 63 : 16);
        int row = around(0, random.nextInt(4) == 0 ? 63 : 8);
        int height = around(0, 8);
        same("sprite(" + sprite + ", " + x + ", " + row + ", " + height + ")",
            beats.sprite(sprite, x, row, height), model.sprite(sprite, x, row, height));
    }

    private void tellBits() {
        int sprite = around(0, 7);
        boolean low = random.nextBoolean();
        int value = random.nextInt();
        same("bits(" + sprite + ", " + low + ", " + value + ")", beats.bits(sprite, low, value), model.bits(sprite, low, value));
    }

    private void ticks(int n) {
        same("ticks(" + n + ")", beats.ticks(n), model.ticks(n));
    }

    private void images() {
        int k = around(0, 2);
        if (random.nextBoolean()) {
            same("image(" + k + ")", beats.image(k), model.image(k));
        } else {
            same("again(" + k + ")", beats.again(k), model.again(k));
        }
    }

    private void maybeFitOrLeast() {
        if (random.nextInt(8) == 0) {
            askLeast();
        } else {
            askFit();
        }
    }

    private void askLeast() {
        int period = around(1, random.nextInt(4) == 0 ? 10 : 7);
        int share = around(0, Math.min(10, Math.max(1, period)));
        same("least(" + period + ", " + share + ")", beats.least(period, share), model.least(period, share));
    }

    private void askFit() {
        int clock = around(1, random.nextBoolean() ? 1000000 : 2000);
        int rate = around(1, random.nextBoolean() ? 1000 : 60);
        int fromH = around(1, 200);
        int toH = random.nextBoolean() ? around(1, 200) : Math.min(200, Math.max(1, fromH)) + random.nextInt(6);
        int fromV = around(1, 100);
        int toV = around(1, 200);
        same("fit(" + clock + ", " + rate + ", " + fromH + ", " + toH + ", " + fromV + ", " + toV + ")",
            beats.fit(clock, rate, fromH, toH, fromV, toV), model.fit(clock, rate, fromH, toH, fromV, toV));
    }

    private void look() {
        int a = around(0, 63);
        int b = around(0, 63);
        switch (random.nextInt(6)) {
            case 0: lookNow(); break;
            case 1: lookSignals(); break;
            case 2: same("value(" + a % 7 + ")", beats.value(a % 7), model.value(a % 7)); break;
            case 3: lookRow(around(0, random.nextBoolean() ? 63 : 12), around(0, 2)); break;
            case 4: same("shown(" + a + ", " + b + ")", beats.shown(a, b), model.shown(a, b)); break;
            default: lookShown(around(0, 20), around(0, 9)); break;
        }
    }

    private void lookNow() {
        int what = around(0, 11);
        same("now(" + what + ")", beats.now(what), model.now(what));
    }

    private void lookSignals() {
        int ago = around(1, random.nextBoolean() ? 512 : 30);
        same("signals(" + ago + ")", beats.signals(ago), model.signals(ago));
    }

    private void lookRow(int row, int what) {
        same("row(" + row + ", " + what + ")", beats.row(row, what), model.row(row, what));
    }

    private void lookShown(int x, int row) {
        same("shown(" + x + ", " + row + ")", beats.shown(x, row), model.shown(x, row));
    }
}
