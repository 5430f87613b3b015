import java.util.Arrays;

/**
 * A maker of screen signals that goes tick by tick. The document ../shared/DOC.md
 * tells what each call answers; the words in capitals there are the names here.
 */
public final class PictureBeats {
    public static final int NONE = -1;

    private static final int NO_PLACE = -2;
    private static final int MOST_TICKS_A_CALL = 4000;
    private static final int MOST_TICKS = 1000000;
    private static final int IMAGES = 3;

    private static final int MEMORY_BYTES = 1024;
    private static final int SIDE = 64;
    private static final int KEPT_SIGNALS = 512;
    private static final int MOST_ENTRIES = 16;
    private static final int MOST_DEPTH = 8;
    private static final int MOST_PERIOD = 16;
    private static final int MOST_LEAST_PERIOD = 10;

    private static final int SPRITES = 8;
    private static final int SPRITE_SIDE = 8;
    private static final int SPRITES_A_ROW = 3;

    private static final int IN_X_SYNC = 1;
    private static final int IN_Y_SYNC = 2;
    private static final int BLANK = 4;

    private static final int SHOWN_SPRITE = 256;
    private static final int SHOWN_UNDER = 512;

    private static final int BASE = 0;
    private static final int STRIDE = 1;
    private static final int SCROLL = 2;
    private static final int INK = 3;
    private static final int PAPER = 4;
    private static final int[] HIGHEST_OF_REGISTER = {1023, 64, 7, 255, 255};

    private static final int MOST_CLOCK = 1000000;
    private static final int MOST_RATE = 1000;
    private static final int MOST_FIT_BOUND = 200;

    private final Machine machine = new Machine();
    private final Machine[] images = new Machine[IMAGES];

    public PictureBeats() {
    }

    public boolean line(int seen, int front, int sync, int back) {
        if (!within(seen, 8, 64) || !within(front, 1, 32) || !within(sync, 1, 32) || !within(back, 1, 32)) {
            return false;
        }
        machine.beam.told.across.tell(seen, front, sync, back);
        return true;
    }

    public boolean field(int seen, int front, int sync, int back, boolean interlaced) {
        if (!within(seen, 1, 32) || !within(front, 1, 8) || !within(sync, 1, 8) || !within(back, 1, 8)) {
            return false;
        }
        machine.beam.told.down.tell(seen, front, sync, back);
        machine.beam.told.interlaced = interlaced;
        return true;
    }

    public boolean put(int at, int value) {
        if (!within(at, 0, MEMORY_BYTES - 1)) {
            return false;
        }
        machine.storeByte(at, value);
        return true;
    }

    public boolean four(int at, int value) {
        if (!within(at, 0, MEMORY_BYTES - 1)) {
            return false;
        }
        for (int k = 0; k < 4; k++) {
            machine.storeByte(at + k, value >>> (24 - 8 * k));
        }
        return true;
    }

    public boolean register(int register, int value) {
        return machine.registers.change(register, value);
    }

    public int entry(int y, int x, int register, int value) {
        if (!within(y, 0, 63) || !within(x, 0, 159) || !Registers.takes(register, value)) {
            return NONE;
        }
        return machine.changes.append(y, x, register, value);
    }

    public void clear() {
        machine.changes.count = 0;
    }

    public boolean readers(int period, int pattern) {
        if (!within(period, 1, MOST_PERIOD)) {
            return false;
        }
        machine.period = period;
        machine.pattern = pattern;
        return true;
    }

    public boolean depth(int depth) {
        if (!within(depth, 1, MOST_DEPTH)) {
            return false;
        }
        machine.feed.depth = depth;
        return true;
    }

    public boolean sprite(int sprite, int x, int row, int height) {
        if (!within(sprite, 0, SPRITES - 1) || !within(x, -SPRITE_SIDE, SIDE - 1)
                || !within(row, 0, SIDE - 1) || !within(height, 0, SPRITE_SIDE)) {
            return false;
        }
        machine.sprites.move(sprite, x, row, height);
        return true;
    }

    public boolean bits(int sprite, boolean low, int value) {
        if (!within(sprite, 0, SPRITES - 1)) {
            return false;
        }
        machine.sprites.draw(sprite, low ? 0 : 4, value);
        return true;
    }

    public int ticks(int n) {
        if (!within(n, 1, MOST_TICKS_A_CALL) || machine.ticks > MOST_TICKS - n) {
            return NONE;
        }
        for (int k = 0; k < n; k++) {
            machine.tick();
        }
        return machine.ticks;
    }

    public int shown(int x, int row) {
        int place = placeOf(x, row);
        return place == NONE ? NO_PLACE : machine.shown[place];
    }

    public int now(int what) {
        Beam beam = machine.beam;
        switch (what) {
            case 0: return beam.x;
            case 1: return beam.y;
            case 2: return beam.field;
            case 3: return beam.signalsHere();
            case 4: return beam.holding.across.whole();
            case 5: return beam.holding.down.whole();
            case 6: return machine.feed.count;
            case 7: return machine.feed.leftBits;
            case 8: return machine.feed.unders;
            case 9: return machine.dots;
            case 10: return machine.feed.fetched;
            case 11: return machine.isTaken() ? 1 : 0;
            default: return NONE;
        }
    }

    public int signals(int ago) {
        if (!within(ago, 1, KEPT_SIGNALS) || ago > machine.ticks) {
            return NONE;
        }
        return machine.signals[(machine.ticks - ago) % KEPT_SIGNALS];
    }

    public int value(int register) {
        return machine.registers.read(register);
    }

    public int row(int row, int what) {
        if (!within(row, 0, SIDE - 1)) {
            return NONE;
        }
        int all = Integer.bitCount(machine.sprites.present[row]);
        switch (what) {
            case 0: return Math.max(all - SPRITES_A_ROW, 0);
            case 1: return Math.min(all, SPRITES_A_ROW);
            case 2: return machine.sprites.membersOf(row);
            default: return NONE;
        }
    }

    /*
     * Only patterns of SHARE taken ticks in a row are tried, in every phase. With
     * no UNDER yet, the bytes fetched by a tick are the least, over all ticks before
     * it, of what DEPTH or the line's end allowed at that tick and the free ticks
     * since then. Taken ticks in a row leave the fewest free ticks in any one
     * stretch, so no other pattern goes lower than the worst of these.
     */
    public int least(int period, int share) {
        if (!within(period, 1, MOST_LEAST_PERIOD) || !within(share, 0, period)) {
            return NONE;
        }
        int fewest = machine.feed.depth;
        for (int phase = 0; phase < period; phase++) {
            fewest = Math.min(fewest, fewestQueued(period, share, phase));
        }
        return fewest;
    }

    /*
     * With h told, the rate falls as v grows, so the nearest v of that h is one of
     * the two neighbours of clock / (rate * h), or the bound that lies nearer to it.
     */
    public int fit(int clock, int rate, int fromH, int toH, int fromV, int toV) {
        if (!within(clock, 1, MOST_CLOCK) || !within(rate, 1, MOST_RATE)
                || !areFitBounds(fromH, toH) || !areFitBounds(fromV, toV)) {
            return NONE;
        }
        int bestH = fromH;
        int bestV = fromV;
        for (int h = fromH; h <= toH; h++) {
            int below = clock / (rate * h);
            int first = Math.max(fromV, Math.min(below, toV));
            int last = Math.max(fromV, Math.min(below + 1, toV));
            for (int v = first; v <= last; v++) {
                if (isNearer(clock, rate, h * v, bestH * bestV)) {
                    bestH = h;
                    bestV = v;
                }
            }
        }
        return bestH * 1000 + bestV;
    }

    public boolean image(int k) {
        if (!within(k, 0, IMAGES - 1)) {
            return false;
        }
        if (images[k] == null) {
            images[k] = new Machine();
        }
        images[k].copyFrom(machine);
        return true;
    }

    public boolean again(int k) {
        if (!within(k, 0, IMAGES - 1) || images[k] == null) {
            return false;
        }
        machine.copyFrom(images[k]);
        return true;
    }

    private static boolean within(int number, int lowest, int highest) {
        return number >= lowest && number <= highest;
    }

    private static int placeOf(int x, int row) {
        if (!within(x, 0, SIDE - 1) || !within(row, 0, SIDE - 1)) {
            return NONE;
        }
        return row * SIDE + x;
    }

    private static int bytesOfLine(int seen) {
        return (seen + 7) / 8 + 1;
    }

    /** The fewest bytes in the QUEUE at a byte's turn, if (tick + phase) by period below share is taken. */
    private int fewestQueued(int period, int share, int phase) {
        Span across = machine.beam.holding.across;
        int depth = machine.feed.depth;
        int toFetch = bytesOfLine(across.seen);
        int blank = across.whole() - across.seen;
        int fewest = depth;
        int queued = 0;
        int slot = phase;
        for (int tick = 0; tick < across.whole(); tick++) {
            if (slot >= share && queued < depth && toFetch > 0) {
                queued++;
                toFetch--;
            }
            slot = slot + 1 < period ? slot + 1 : 0;
            if (tick >= blank && (tick - blank) % 8 == 0) {
                if (queued == 0) {
                    return 0;
                }
                fewest = Math.min(fewest, queued);
                queued--;
            }
        }
        return fewest;
    }

    private static boolean areFitBounds(int from, int to) {
        return within(from, 1, MOST_FIT_BOUND) && within(to, from, MOST_FIT_BOUND);
    }

    /** Whether clock / size is nearer to the rate than clock / other, told without a division. */
    private static boolean isNearer(int clock, int rate, int size, int other) {
        long off = Math.abs((long) clock - (long) rate * size);
        long otherOff = Math.abs((long) clock - (long) rate * other);
        return off * other < otherOff * size;
    }

    /** The four parts of a line, or of a FIELD. */
    private static final class Span {
        int seen;
        int front;
        int sync;
        int back;

        Span(int seen, int front, int sync, int back) {
            this.seen = seen;
            this.front = front;
            this.sync = sync;
            this.back = back;
        }

        void tell(int newSeen, int newFront, int newSync, int newBack) {
            seen = newSeen;
            front = newFront;
            sync = newSync;
            back = newBack;
        }

        int whole() {
            return seen + front + sync + back;
        }

        boolean isSeen(int at) {
            return at < seen;
        }

        boolean isSync(int at) {
            int start = seen + front;
            return at >= start && at < start + sync;
        }

        void copyFrom(Span other) {
            tell(other.seen, other.front, other.sync, other.back);
        }
    }

    private static final class Mode {
        final Span across = new Span(16, 2, 3, 3);
        final Span down = new Span(8, 1, 1, 1);
        boolean interlaced;

        int rowOf(int y, int field) {
            return interlaced ? 2 * y + field : y;
        }

        void copyFrom(Mode other) {
            across.copyFrom(other.across);
            down.copyFrom(other.down);
            interlaced = other.interlaced;
        }
    }

    /** Where the next TICK is, and the MODES: the one that holds, the one taken up, the one told. */
    private static final class Beam {
        final Mode holding = new Mode();
        final Mode takenUp = new Mode();
        final Mode told = new Mode();
        int x = holding.across.seen;
        int y = holding.down.whole() - 1;
        int field;
        int nextField;

        boolean isBehindSeen() {
            return x == holding.across.seen;
        }

        boolean isOnLastLine() {
            return y == holding.down.whole() - 1;
        }

        boolean isOnDot() {
            return holding.across.isSeen(x) && holding.down.isSeen(y);
        }

        int rowHere() {
            return holding.rowOf(y, field);
        }

        int signalsHere() {
            return (holding.across.isSync(x) ? IN_X_SYNC : 0)
                    | (holding.down.isSync(y) ? IN_Y_SYNC : 0)
                    | (isOnDot() ? 0 : BLANK);
        }

        void takeUp() {
            takenUp.copyFrom(told);
            nextField = holding.interlaced && takenUp.interlaced ? 1 - field : 0;
        }

        void goOn() {
            x++;
            if (x < holding.across.whole()) {
                return;
            }
            x = 0;
            y++;
            if (y < holding.down.whole()) {
                return;
            }
            y = 0;
            field = nextField;
            holding.copyFrom(takenUp);
        }

        void copyFrom(Beam other) {
            holding.copyFrom(other.holding);
            takenUp.copyFrom(other.takenUp);
            told.copyFrom(other.told);
            x = other.x;
            y = other.y;
            field = other.field;
            nextField = other.nextField;
        }
    }

    private static final class Registers {
        final int[] values = {0, 8, 0, 1, 0};

        static boolean takes(int register, int value) {
            return within(register, 0, HIGHEST_OF_REGISTER.length - 1)
                    && within(value, 0, HIGHEST_OF_REGISTER[register]);
        }

        boolean change(int register, int value) {
            if (!takes(register, value)) {
                return false;
            }
            values[register] = value;
            return true;
        }

        int read(int register) {
            return within(register, 0, values.length - 1) ? values[register] : NONE;
        }

        void copyFrom(Registers other) {
            System.arraycopy(other.values, 0, values, 0, values.length);
        }
    }

    /** THE LIST. */
    private static final class Changes {
        final int[] ys = new int[MOST_ENTRIES];
        final int[] xs = new int[MOST_ENTRIES];
        final int[] registers = new int[MOST_ENTRIES];
        final int[] values = new int[MOST_ENTRIES];
        int count;

        int append(int y, int x, int register, int value) {
            if (count >= MOST_ENTRIES) {
                return NONE;
            }
            ys[count] = y;
            xs[count] = x;
            registers[count] = register;
            values[count] = value;
            count++;
            return count;
        }

        void apply(int y, int x, Registers target) {
            for (int k = 0; k < count; k++) {
                if (xs[k] == x && ys[k] == y) {
                    target.change(registers[k], values[k]);
                }
            }
        }

        void copyFrom(Changes other) {
            System.arraycopy(other.ys, 0, ys, 0, MOST_ENTRIES);
            System.arraycopy(other.xs, 0, xs, 0, MOST_ENTRIES);
            System.arraycopy(other.registers, 0, registers, 0, MOST_ENTRIES);
            System.arraycopy(other.values, 0, values, 0, MOST_ENTRIES);
            count = other.count;
        }
    }

    /** The QUEUE, what is left of a byte, and which byte of which line is to be fetched next. */
    private static final class Feed {
        final int[] queue = new int[MOST_DEPTH];
        int first;
        int count;
        int depth = 2;
        int left;
        int leftBits;
        int row;
        int nextByte;
        int bytes;
        int unders;
        int fetched;

        void startLine(int lineRow, int lineBytes) {
            count = 0;
            leftBits = 0;
            row = lineRow;
            nextByte = 0;
            bytes = lineBytes;
        }

        boolean wantsByte() {
            return count < depth && nextByte < bytes;
        }

        void append(int value) {
            queue[(first + count) % MOST_DEPTH] = value;
            count++;
            nextByte++;
            fetched++;
        }

        /** The bit, or NONE for an UNDER. */
        int takeBit() {
            if (leftBits == 0) {
                if (count == 0) {
                    unders++;
                    return NONE;
                }
                left = queue[first];
                leftBits = 8;
                first = (first + 1) % MOST_DEPTH;
                count--;
            }
            leftBits--;
            return (left >> leftBits) & 1;
        }

        void copyFrom(Feed other) {
            System.arraycopy(other.queue, 0, queue, 0, MOST_DEPTH);
            first = other.first;
            count = other.count;
            depth = other.depth;
            left = other.left;
            leftBits = other.leftBits;
            row = other.row;
            nextByte = other.nextByte;
            bytes = other.bytes;
            unders = other.unders;
            fetched = other.fetched;
        }
    }

    private static final class Sprites {
        final int[] xs = new int[SPRITES];
        final int[] rows = new int[SPRITES];
        final int[] heights = new int[SPRITES];
        final int[] drawn = new int[SPRITES * SPRITE_SIDE];
        /** Of each ROW, a bit for each SPRITE that has a row there: a DOT asks this too often to look at all SPRITES. */
        final int[] present = new int[SIDE];

        void move(int sprite, int x, int row, int height) {
            turnPresence(sprite);
            xs[sprite] = x;
            rows[sprite] = row;
            heights[sprite] = height;
            turnPresence(sprite);
        }

        private void turnPresence(int sprite) {
            int end = Math.min(rows[sprite] + heights[sprite], SIDE);
            for (int row = rows[sprite]; row < end; row++) {
                present[row] ^= 1 << sprite;
            }
        }

        void draw(int sprite, int firstLine, int value) {
            for (int k = 0; k < 4; k++) {
                drawn[sprite * SPRITE_SIDE + firstLine + k] = (value >>> (24 - 8 * k)) & 255;
            }
        }

        int membersOf(int row) {
            int rest = present[row];
            int members = 0;
            for (int k = 0; k < SPRITES_A_ROW; k++) {
                int lowest = rest & -rest;
                members |= lowest;
                rest ^= lowest;
            }
            return members;
        }

        /** The SPRITE that a DOT shows, or NONE. */
        int showing(int x, int row) {
            int members = membersOf(row);
            for (int sprite = 0; sprite < SPRITES && members >> sprite != 0; sprite++) {
                if ((members >> sprite & 1) == 1 && hasBit(sprite, x, row)) {
                    return sprite;
                }
            }
            return NONE;
        }

        private boolean hasBit(int sprite, int x, int row) {
            int across = x - xs[sprite];
            int down = row - rows[sprite];
            if (!within(across, 0, SPRITE_SIDE - 1) || !within(down, 0, SPRITE_SIDE - 1)) {
                return false;
            }
            return (drawn[sprite * SPRITE_SIDE + down] >> (SPRITE_SIDE - 1 - across) & 1) == 1;
        }

        void copyFrom(Sprites other) {
            System.arraycopy(other.xs, 0, xs, 0, SPRITES);
            System.arraycopy(other.rows, 0, rows, 0, SPRITES);
            System.arraycopy(other.heights, 0, heights, 0, SPRITES);
            System.arraycopy(other.drawn, 0, drawn, 0, drawn.length);
            System.arraycopy(other.present, 0, present, 0, SIDE);
        }
    }

    /** All that an image holds. */
    private static final class Machine {
        final Beam beam = new Beam();
        final Feed feed = new Feed();
        final Registers registers = new Registers();
        final Changes changes = new Changes();
        final Sprites sprites = new Sprites();
        final int[] memory = new int[MEMORY_BYTES];
        final int[] shown = new int[SIDE * SIDE];
        final int[] signals = new int[KEPT_SIGNALS];
        int period = 1;
        int pattern;
        int ticks;
        int dots;

        Machine() {
            Arrays.fill(shown, NONE);
        }

        void storeByte(int at, int value) {
            memory[at & (MEMORY_BYTES - 1)] = value & 255;
        }

        boolean isTaken() {
            return period > 0 && (pattern >> (ticks % period) & 1) == 1;
        }

        void tick() {
            changes.apply(beam.y, beam.x, registers);
            if (beam.isBehindSeen()) {
                turnToNextLine();
            }
            if (feed.wantsByte() && !isTaken()) {
                fetchByte();
            }
            if (beam.isOnDot()) {
                makeDot();
            }
            signals[ticks % KEPT_SIGNALS] = beam.signalsHere();
            ticks++;
            beam.goOn();
        }

        private void turnToNextLine() {
            if (beam.isOnLastLine()) {
                beam.takeUp();
                startFeed(beam.takenUp, 0, beam.nextField);
            } else {
                startFeed(beam.holding, beam.y + 1, beam.field);
            }
        }

        private void startFeed(Mode mode, int y, int field) {
            int bytes = mode.down.isSeen(y) ? bytesOfLine(mode.across.seen) : 0;
            feed.startLine(mode.rowOf(y, field), bytes);
        }

        private void fetchByte() {
            int at = registers.read(BASE) + registers.read(STRIDE) * feed.row + feed.nextByte;
            feed.append(memory[at & (MEMORY_BYTES - 1)]);
        }

        private void makeDot() {
            if (beam.x == 0) {
                takeScroll();
            }
            int bit = feed.takeBit();
            int row = beam.rowHere();
            int place = placeOf(beam.x, row);
            if (place != NONE) {
                int sprite = sprites.showing(beam.x, row);
                shown[place] = sprite == NONE ? colourOf(bit) : SHOWN_SPRITE + sprite;
            }
            dots++;
        }

        private void takeScroll() {
            int bits = registers.read(SCROLL);
            for (int k = 0; k < bits; k++) {
                if (feed.takeBit() == NONE) {
                    return;
                }
            }
        }

        private int colourOf(int bit) {
            if (bit == NONE) {
                return SHOWN_UNDER;
            }
            return registers.read(bit == 1 ? INK : PAPER);
        }

        void copyFrom(Machine other) {
            beam.copyFrom(other.beam);
            feed.copyFrom(other.feed);
            registers.copyFrom(other.registers);
            changes.copyFrom(other.changes);
            sprites.copyFrom(other.sprites);
            System.arraycopy(other.memory, 0, memory, 0, MEMORY_BYTES);
            System.arraycopy(other.shown, 0, shown, 0, shown.length);
            System.arraycopy(other.signals, 0, signals, 0, KEPT_SIGNALS);
            period = other.period;
            pattern = other.pattern;
            ticks = other.ticks;
            dots = other.dots;
        }
    }
}
