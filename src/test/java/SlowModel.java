import java.util.ArrayDeque;
import java.util.ArrayList;
import java.util.Arrays;
import java.util.List;

/**
 * The document once more, written as near to its words as can be and without any short cut:
 * the random runs of ModelTests hold PictureBeats against it.
 */
final class SlowModel {
    private int[] told = {16, 2, 3, 3, 8, 1, 1, 1, 0};
    private int[] mode = told.clone();
    private int[] nextMode = told.clone();
    private int x = 16;
    private int y = 10;
    private int field = 0;
    private int nextField = 0;

    private final int[] memory = new int[1024];
    private final int[] registers = {0, 8, 0, 1, 0};
    private final List<int[]> list = new ArrayList<>();
    private int period = 1;
    private int pattern = 0;
    private final int[][] sprites = new int[8][3];
    private final int[][] spriteRows = new int[8][8];

    private int depth = 2;
    private ArrayDeque<Integer> queue = new ArrayDeque<>();
    private ArrayDeque<Integer> left = new ArrayDeque<>();
    private ArrayDeque<Integer> toFetch = new ArrayDeque<>();
    private int fetchRow = 0;

    private final int[][] shown = new int[64][64];
    private final List<Integer> signals = new ArrayList<>();
    private int unders = 0;
    private int dots = 0;
    private int fetched = 0;
    /** The fewest bytes that were in the QUEUE when one was to be what is left of a byte. */
    private int fewestAtTurn = Integer.MAX_VALUE;

    private final SlowModel[] images = new SlowModel[3];

    SlowModel() {
        for (int[] row : shown) {
            Arrays.fill(row, -1);
        }
    }

    private static boolean in(int low, int number, int high) {
        return low <= number && number <= high;
    }

    private static int sum(int[] parts, int from) {
        return parts[from] + parts[from + 1] + parts[from + 2] + parts[from + 3];
    }

    boolean line(int seen, int front, int sync, int back) {
        if (!(in(8, seen, 64) && in(1, front, 32) && in(1, sync, 32) && in(1, back, 32))) {
            return false;
        }
        told = new int[] {seen, front, sync, back, told[4], told[5], told[6], told[7], told[8]};
        return true;
    }

    boolean field(int seen, int front, int sync, int back, boolean interlaced) {
        if (!(in(1, seen, 32) && in(1, front, 8) && in(1, sync, 8) && in(1, back, 8))) {
            return false;
        }
        told = new int[] {told[0], told[1], told[2], told[3], seen, front, sync, back, interlaced ? 1 : 0};
        return true;
    }

    boolean put(int at, int value) {
        if (!in(0, at, 1023)) {
            return false;
        }
        memory[at] = value & 0xFF;
        return true;
    }

    boolean four(int at, int value) {
        if (!in(0, at, 1023)) {
            return false;
        }
        memory[at] = (value >>> 24) & 0xFF;
        memory[(at + 1) % 1024] = (value >>> 16) & 0xFF;
        memory[(at + 2) % 1024] = (value >>> 8) & 0xFF;
        memory[(at + 3) % 1024] = value & 0xFF;
        return true;
    }

    private static boolean isRegister(int register, int value) {
        switch (register) {
            case 0: return in(0, value, 1023);
            case 1: return in(0, value, 64);
            case 2: return in(0, value, 7);
            case 3: case 4: return in(0, value, 255);
            default: return false;
        }
    }

    boolean register(int register, int value) {
        if (!isRegister(register, value)) {
            return false;
        }
        registers[register] = value;
        return true;
    }

    int entry(int atY, int atX, int register, int value) {
        if (list.size() == 16 || !in(0, atY, 63) || !in(0, atX, 159) || !isRegister(register, value)) {
            return -1;
        }
        list.add(new int[] {atY, atX, register, value});
        return list.size();
    }

    void clear() {
        list.clear();
    }

    boolean readers(int newPeriod, int newPattern) {
        if (!in(1, newPeriod, 16)) {
            return false;
        }
        period = newPeriod;
        pattern = newPattern;
        return true;
    }

    boolean depth(int newDepth) {
        if (!in(1, newDepth, 8)) {
            return false;
        }
        depth = newDepth;
        return true;
    }

    boolean sprite(int sprite, int atX, int row, int height) {
        if (!(in(0, sprite, 7) && in(-8, atX, 63) && in(0, row, 63) && in(0, height, 8))) {
            return false;
        }
        sprites[sprite] = new int[] {atX, row, height};
        return true;
    }

    boolean bits(int sprite, boolean low, int value) {
        if (!in(0, sprite, 7)) {
            return false;
        }
        for (int k = 3; k >= 0; k--) {
            spriteRows[sprite][(low ? 0 : 4) + k] = value & 0xFF;
            value >>>= 8;
        }
        return true;
    }

    int ticks(int n) {
        if (!in(1, n, 4000) || signals.size() + n > 1000000) {
            return -1;
        }
        for (int k = 0; k < n; k++) {
            tick();
        }
        return signals.size();
    }

    private void tick() {
        for (int[] entry : list) {
            if (entry[0] == y && entry[1] == x) {
                registers[entry[2]] = entry[3];
            }
        }
        if (x == mode[0]) {
            queue.clear();
            left.clear();
            turnFetching();
        }
        if (!isTaken() && queue.size() < depth && !toFetch.isEmpty()) {
            int k = toFetch.removeFirst();
            queue.addLast(memory[(registers[0] + registers[1] * fetchRow + k) % 1024]);
            fetched++;
        }
        if (x < mode[0] && y < mode[4]) {
            dot();
        }
        signals.add(signalsHere());
        x++;
        if (x == sum(mode, 0)) {
            x = 0;
            y++;
        }
        if (y == sum(mode, 4)) {
            y = 0;
            mode = nextMode;
            field = nextField;
        }
    }

    private void turnFetching() {
        int lineY = y + 1;
        int lineField = field;
        int[] lineMode = mode;
        if (lineY == sum(mode, 4)) {
            nextMode = told;
            nextField = mode[8] == 0 || nextMode[8] == 0 ? 0 : 1 - field;
            lineY = 0;
            lineField = nextField;
            lineMode = nextMode;
        }
        toFetch.clear();
        fetchRow = lineMode[8] == 0 ? lineY : 2 * lineY + lineField;
        if (lineY < lineMode[4]) {
            for (int k = 0; k < (lineMode[0] + 7) / 8 + 1; k++) {
                toFetch.addLast(k);
            }
        }
    }

    private void dot() {
        if (x == 0) {
            for (int k = 0; k < registers[2]; k++) {
                if (bit() == -1) {
                    break;
                }
            }
        }
        int bit = bit();
        int row = mode[8] == 0 ? y : 2 * y + field;
        int answer = bit == -1 ? 512 : bit == 1 ? registers[3] : registers[4];
        for (int sprite : had(row)) {
            int across = x - sprites[sprite][0];
            if (in(0, across, 7) && (spriteRows[sprite][row - sprites[sprite][1]] & (0x80 >> across)) != 0) {
                answer = 256 + sprite;
                break;
            }
        }
        shown[x][row] = answer;
        dots++;
    }

    private int bit() {
        if (left.isEmpty()) {
            fewestAtTurn = Math.min(fewestAtTurn, queue.size());
            if (queue.isEmpty()) {
                unders++;
                return -1;
            }
            int value = queue.removeFirst();
            for (int k = 7; k >= 0; k--) {
                left.addLast((value >> k) & 1);
            }
        }
        return left.removeFirst();
    }

    private List<Integer> haveRow(int row) {
        List<Integer> found = new ArrayList<>();
        for (int sprite = 0; sprite < 8; sprite++) {
            if (row >= sprites[sprite][1] && row < sprites[sprite][1] + sprites[sprite][2]) {
                found.add(sprite);
            }
        }
        return found;
    }

    private List<Integer> had(int row) {
        List<Integer> all = haveRow(row);
        return all.subList(0, Math.min(3, all.size()));
    }

    private boolean isTaken() {
        return (pattern & (1 << (signals.size() % period))) != 0;
    }

    private int signalsHere() {
        int answer = 0;
        if (x >= mode[0] + mode[1] && x < mode[0] + mode[1] + mode[2]) {
            answer += 1;
        }
        if (y >= mode[4] + mode[5] && y < mode[4] + mode[5] + mode[6]) {
            answer += 2;
        }
        if (x >= mode[0] || y >= mode[4]) {
            answer += 4;
        }
        return answer;
    }

    int shown(int atX, int row) {
        return in(0, atX, 63) && in(0, row, 63) ? shown[atX][row] : -2;
    }

    int now(int what) {
        int[] all = {x, y, field, signalsHere(), sum(mode, 0), sum(mode, 4), queue.size(), left.size(), unders, dots,
            fetched, isTaken() ? 1 : 0};
        return in(0, what, 11) ? all[what] : -1;
    }

    int signals(int ago) {
        return in(1, ago, 512) && ago <= signals.size() ? signals.get(signals.size() - ago) : -1;
    }

    int value(int register) {
        return in(0, register, 4) ? registers[register] : -1;
    }

    int row(int row, int what) {
        if (!in(0, row, 63) || !in(0, what, 2)) {
            return -1;
        }
        if (what == 0) {
            return haveRow(row).size() - had(row).size();
        }
        if (what == 1) {
            return had(row).size();
        }
        int answer = 0;
        for (int sprite : had(row)) {
            answer |= 1 << sprite;
        }
        return answer;
    }

    /** Lets a line go by for each PATTERN and looks at the QUEUE. */
    int least(int ofPeriod, int share) {
        if (!in(1, ofPeriod, 10) || !in(0, share, ofPeriod)) {
            return -1;
        }
        int fewest = Integer.MAX_VALUE;
        for (int bits = 0; bits < 1 << ofPeriod; bits++) {
            if (Integer.bitCount(bits) <= share) {
                fewest = Math.min(fewest, fewestOfLine(ofPeriod, bits));
            }
        }
        return fewest;
    }

    private int fewestOfLine(int ofPeriod, int bits) {
        SlowModel model = new SlowModel();
        model.line(mode[0], mode[1], mode[2], mode[3]);
        model.depth(depth);
        model.ticks(8 + mode[0]);
        model.readers(ofPeriod, bits);
        model.fewestAtTurn = Integer.MAX_VALUE;
        model.ticks(sum(mode, 0));
        return model.fewestAtTurn;
    }

    int fit(int clock, int rate, int fromH, int toH, int fromV, int toV) {
        if (!in(1, clock, 1000000) || !in(1, rate, 1000)) {
            return -1;
        }
        if (!in(1, fromH, 200) || !in(1, toH, 200) || !in(1, fromV, 200) || !in(1, toV, 200) || fromH > toH || fromV > toV) {
            return -1;
        }
        int answer = -1;
        long off = 0;
        long by = 1;
        for (int h = fromH; h <= toH; h++) {
            for (int v = fromV; v <= toV; v++) {
                long thisOff = Math.abs(clock - (long) rate * h * v);
                if (answer == -1 || thisOff * by < off * h * v) {
                    answer = h * 1000 + v;
                    off = thisOff;
                    by = (long) h * v;
                }
            }
        }
        return answer;
    }

    boolean image(int k) {
        if (!in(0, k, 2)) {
            return false;
        }
        images[k] = new SlowModel();
        images[k].takeOver(this);
        return true;
    }

    boolean again(int k) {
        if (!in(0, k, 2) || images[k] == null) {
            return false;
        }
        takeOver(images[k]);
        return true;
    }

    private void takeOver(SlowModel other) {
        told = other.told;
        mode = other.mode;
        nextMode = other.nextMode;
        x = other.x;
        y = other.y;
        field = other.field;
        nextField = other.nextField;
        System.arraycopy(other.memory, 0, memory, 0, 1024);
        System.arraycopy(other.registers, 0, registers, 0, 5);
        list.clear();
        list.addAll(other.list);
        period = other.period;
        pattern = other.pattern;
        for (int sprite = 0; sprite < 8; sprite++) {
            sprites[sprite] = other.sprites[sprite].clone();
            spriteRows[sprite] = other.spriteRows[sprite].clone();
        }
        depth = other.depth;
        queue = other.queue.clone();
        left = other.left.clone();
        toFetch = other.toFetch.clone();
        fetchRow = other.fetchRow;
        for (int k = 0; k < 64; k++) {
            shown[k] = other.shown[k].clone();
        }
        signals.clear();
        signals.addAll(other.signals);
        unders = other.unders;
        dots = other.dots;
        fetched = other.fetched;
    }
}
