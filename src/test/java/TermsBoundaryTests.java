/** Each sentence of the document's Terms that names a boundary case, with a test of its own. */
public final class TermsBoundaryTests {
    private static final int TO_FIELD = Scenes.TO_FIELD;
    /** Ticks of a FIELD of the MODE that holds at first. */
    private static final int FIRST_FIELD = 11 * 24;
    /** Ticks of a FIELD of the shortest line and the fewest lines. */
    private static final int SHORTEST_FIELD = 4 * 11;

    private TermsBoundaryTests() {
    }

    public static void main(String[] args) {
        ofModes();
        ofMemoryRegistersAndSprites();
        ofATick();
        ofLeast();
        ofFit();
        Due.end();
    }

    private static void ofModes() {
        linesOfEachBound();
        fieldsOfEachBound();
        toldByTheTickThatTakesUp();
        toldInTheTickBehind();
        halfToldInTime();
        takenUpOncePerField();
        takenUpInTheLastLineAlone();
        nextFieldOfEachPair();
        nextFieldToldTooLate();
        rowsOfTheLastLines();
    }

    private static void ofMemoryRegistersAndSprites() {
        memoryIsZeroAtFirst();
        memoryOfTheFirstAndLastPlace();
        registersAtTheirBounds();
        sixteenEntries();
        entriesOfTheFarthestTick();
        periodsOneToSixteen();
        spritesAtEachSide();
        spritesOfEachHeight();
        threeSpritesARow();
        theFourthIsNotShown();
    }

    private static void ofATick() {
        atFirst();
        entriesComeAheadOfTheFetch();
        entriesComeAheadOfTheDot();
        entriesOfOneTickInTheirOrder();
        emptiedBehindTheLastSeenTick();
        bytesOfEachWidth();
        noBytesOfLinesNotSeen();
        bytesOfTheNextFieldsMode();
        lessThanDepth();
        noByteMore();
        placesByTheNumberOfBytes();
        anUnderIfThereIsNone();
        noUnderIfFetchedInTheSameTick();
        underOfScroll();
        scrollOfTheLastBit();
        whatADotShowsAtMost();
        aLinesEnd();
        aFieldsEnd();
        noneShownYet();
    }

    // ---- Terms 1

    /** "so many ticks SEEN (8 .. 64), FRONT, SYNC, BACK (1 .. 32 each)", and the SIGNALS of each tick. */
    private static void linesOfEachBound() {
        int[][] lines = {{8, 1, 1, 1}, {64, 1, 1, 1}, {8, 32, 1, 1}, {8, 1, 32, 1}, {8, 1, 1, 32}, {64, 32, 32, 32}};
        for (int[] parts : lines) {
            String name = "1: line of " + parts[0] + " " + parts[1] + " " + parts[2] + " " + parts[3];
            PictureBeats x = Scenes.atFieldOf(parts[0], parts[1], parts[2], parts[3]);
            int whole = parts[0] + parts[1] + parts[2] + parts[3];
            x.ticks(whole);
            Due.now(name, x, 0, 1, 0, 0, whole, 11);
            Due.equal(name + ": DOTS", x.now(9), parts[0]);
            for (int at = 0; at < whole; at++) {
                int want = partAt(parts, at) == 0 ? 0 : partAt(parts, at) == 2 ? 5 : 4;
                Due.equal(name + ": X " + at, x.signals(whole - at), want);
            }
        }
    }

    /** "of a FIELD, so many lines SEEN (1 .. 32), FRONT, SYNC, BACK (1 .. 8 each)", and the SIGNALS of each line. */
    private static void fieldsOfEachBound() {
        int[][] fields = {{1, 1, 1, 1}, {32, 1, 1, 1}, {1, 8, 1, 1}, {1, 1, 8, 1}, {1, 1, 1, 8}, {32, 8, 8, 8}};
        int[] ofPart = {0, 4, 6, 4};
        for (int[] parts : fields) {
            String name = "1: FIELD of " + parts[0] + " " + parts[1] + " " + parts[2] + " " + parts[3];
            PictureBeats x = new PictureBeats();
            x.line(8, 1, 1, 1);
            x.field(parts[0], parts[1], parts[2], parts[3], false);
            x.ticks(TO_FIELD);
            int whole = parts[0] + parts[1] + parts[2] + parts[3];
            for (int y = 0; y < whole; y++) {
                int want = ofPart[partAt(parts, y)];
                Due.now(name, x, 0, y, 0, want, 11, whole);
                x.ticks(11);
                Due.equal(name + ": SYNC of Y " + y, x.signals(2), want | 5);
            }
            Due.now(name + " ends", x, 0, 0);
            Due.equal(name + ": DOTS", x.now(9), 8 * parts[0]);
        }
    }

    /** 0 for SEEN, 1 for FRONT, 2 for SYNC, 3 for BACK. */
    private static int partAt(int[] parts, int at) {
        int part = 0;
        int end = parts[0];
        while (part < 3 && at >= end) {
            part++;
            end += parts[part];
        }
        return part;
    }

    /** "in the tick behind the last SEEN one of a FIELD's last line the MODE that is told by then is taken up" */
    private static void toldByTheTickThatTakesUp() {
        PictureBeats x = new PictureBeats();
        x.ticks(FIRST_FIELD);
        Due.now("1: the tick that takes up comes next", x, 16, 10);
        x.line(40, 1, 1, 1);
        x.field(9, 8, 8, 8, true);
        x.line(9, 1, 1, 1);
        x.field(3, 1, 1, 1, false);
        x.ticks(TO_FIELD - 1);
        Due.now("1: it holds from the next FIELD on", x, 23, 10, 0, 4, 24, 11);
        x.ticks(1);
        Due.now("1: the last that was told is taken up", x, 0, 0, 0, 0, 12, 6);
    }

    /** The same sentence: what is told one tick later waits for the FIELD after. */
    private static void toldInTheTickBehind() {
        PictureBeats x = new PictureBeats();
        x.ticks(FIRST_FIELD + 1);
        Due.now("1: the tick behind the one that takes up", x, 17, 10);
        x.line(9, 1, 1, 1);
        x.field(3, 1, 1, 1, false);
        x.ticks(TO_FIELD - 1);
        Due.now("1: told too late", x, 0, 0, 0, 0, 24, 11);
        x.ticks(FIRST_FIELD - 1);
        Due.now("1: told too late, up to the end", x, 23, 10, 0, 4, 24, 11);
        x.ticks(1);
        Due.now("1: one FIELD later", x, 0, 0, 0, 0, 12, 6);
    }

    /** The same sentence: a line told in time is taken up with the old lines of a FIELD, and the other way round. */
    private static void halfToldInTime() {
        PictureBeats x = new PictureBeats();
        x.line(9, 1, 1, 1);
        x.ticks(1);
        x.field(3, 1, 1, 1, false);
        x.ticks(TO_FIELD - 1);
        Due.now("1: the line in time, the FIELD too late", x, 0, 0, 0, 0, 12, 11);
        PictureBeats y = new PictureBeats();
        y.field(3, 1, 1, 1, false);
        y.ticks(1);
        y.line(9, 1, 1, 1);
        y.ticks(TO_FIELD - 1);
        Due.now("1: the FIELD in time, the line too late", y, 0, 0, 0, 0, 24, 6);
    }

    /** The same sentence: the tick counts by the MODE that holds, not by the one that was taken up. */
    private static void takenUpOncePerField() {
        for (int seen = 17; seen < 24; seen++) {
            PictureBeats x = new PictureBeats();
            x.line(seen, 1, 1, 1);
            x.ticks(1);
            x.line(50, 1, 1, 1);
            x.ticks(TO_FIELD - 1);
            Due.now("1: " + seen + " SEEN ticks, taken up once", x, 0, 0, 0, 0, seen + 3, 11);
        }
    }

    /** The same sentence: the ticks behind the last SEEN one of other lines take nothing up. */
    private static void takenUpInTheLastLineAlone() {
        PictureBeats x = new PictureBeats();
        x.ticks(TO_FIELD);
        x.line(9, 1, 1, 1);
        x.ticks(10 * 24 + 16);
        Due.now("1: through all lines but the last", x, 16, 10, 0, 4, 24, 11);
        x.line(10, 1, 1, 1);
        x.ticks(8);
        Due.now("1: told in the last line", x, 0, 0, 0, 0, 13, 11);
    }

    /** "which is FIELD 0 if either of both MODES is not INTERLACED, else the other one" */
    private static void nextFieldOfEachPair() {
        nextField(false, 0, false, 0);
        nextField(false, 0, true, 0);
        nextField(true, 0, false, 0);
        nextField(true, 1, false, 0);
        nextField(true, 0, true, 1);
        nextField(true, 1, true, 0);
    }

    private static void nextField(boolean old, int field, boolean next, int due) {
        String name = "1: behind FIELD " + field + (old ? " INTERLACED," : ",") + (next ? " INTERLACED" : " not");
        PictureBeats x = new PictureBeats();
        x.line(8, 1, 1, 1);
        x.field(1, 1, 1, 1, old);
        x.put(8, 0xFF);
        x.ticks(TO_FIELD + field * SHORTEST_FIELD);
        Due.now(name, x, 0, 0, field);
        x.field(2, 1, 1, 1, next);
        x.ticks(SHORTEST_FIELD - 1);
        Due.now(name + ", its last tick", x, 10, 3, field);
        x.register(4, 9);
        x.register(3, 7);
        x.ticks(1);
        Due.now(name + ", the next one", x, 0, 0, due, 0, 11, 5);
        x.ticks(8);
        Due.equal(name + ", its first ROW", x.shown(7, due), due == 1 ? 7 : 9);
    }

    /** The same sentence: of the MODES that are told in time, not of one that is told behind the taking up. */
    private static void nextFieldToldTooLate() {
        for (int field = 0; field < 2; field++) {
            PictureBeats x = new PictureBeats();
            x.line(8, 1, 1, 1);
            x.field(1, 1, 1, 1, true);
            x.ticks(TO_FIELD + (field + 1) * SHORTEST_FIELD - 2);
            Due.now("1: behind the taking up", x, 9, 3, field);
            x.field(1, 1, 1, 1, false);
            x.ticks(2);
            Due.now("1: not INTERLACED, told too late", x, 0, 0, 1 - field);
            x.ticks(SHORTEST_FIELD - 2);
            x.field(1, 1, 1, 1, true);
            x.ticks(2);
            Due.now("1: INTERLACED, told too late", x, 0, 0, 0);
            x.ticks(SHORTEST_FIELD);
            Due.now("1: FIELD 0 behind a MODE that was not", x, 0, 0, 0);
            x.ticks(SHORTEST_FIELD);
            Due.now("1: FIELD 1 behind INTERLACED ones", x, 0, 0, 1);
        }
    }

    /** "A line's ROW is Y, or, INTERLACED, twice Y and the FIELD": the last ROWS that there are. */
    private static void rowsOfTheLastLines() {
        PictureBeats x = new PictureBeats();
        x.line(8, 1, 1, 1);
        x.field(32, 1, 1, 1, false);
        x.ticks(TO_FIELD + 35 * 11);
        Due.equal("1: ROW 31 is the last", x.shown(7, 31), 0);
        Due.equal("1: no ROW 32", x.shown(7, 32), -1);
        x.field(32, 1, 1, 1, true);
        x.ticks(35 * 11);
        x.ticks(35 * 11);
        Due.equal("1: FIELD 0 has ROW 62", x.shown(7, 62), 0);
        Due.equal("1: FIELD 0 has no ROW 63", x.shown(7, 63), -1);
        Due.equal("1: FIELD 0 has no ROW 33", x.shown(7, 33), -1);
        x.ticks(31 * 11 + 7);
        Due.equal("1: one tick ahead of the last DOT", x.shown(7, 63), -1);
        x.ticks(1);
        Due.equal("1: FIELD 1 has ROW 63", x.shown(7, 63), 0);
    }

    // ---- Terms 2

    /** "MEMORY has 1024 bytes, 0 at first" */
    private static void memoryIsZeroAtFirst() {
        for (int base = 0; base < 1024; base += 8) {
            PictureBeats x = new PictureBeats();
            x.line(64, 1, 1, 1);
            x.register(0, base);
            x.ticks(TO_FIELD + 64);
            for (int at = 0; at < 64; at++) {
                Due.equal("2: a bit of byte " + (base + at / 8), x.shown(at, 0), 0);
            }
        }
    }

    /** The same sentence: the first and the last byte are two of their own. */
    private static void memoryOfTheFirstAndLastPlace() {
        PictureBeats x = new PictureBeats();
        x.put(1023, 0xF0);
        x.put(0, 0x3C);
        x.register(0, 1022);
        x.line(24, 1, 1, 1);
        x.ticks(TO_FIELD + 24);
        Due.shown("2: bytes 1022, 1023 and 0", x, 0, 0, 0, 0, 0, 0, 0, 0, 0,
            1, 1, 1, 1, 0, 0, 0, 0, 0, 0, 1, 1, 1, 1, 0, 0);
    }

    /** "0 BASE, 0 .. 1023; 1 STRIDE, 0 .. 64; 2 SCROLL, 0 .. 7; 3 INK, 0 .. 255; 4 PAPER, 0 .. 255" at work. */
    private static void registersAtTheirBounds() {
        PictureBeats x = new PictureBeats();
        x.put(1023, 0x81);
        x.put(0, 0xFF);
        x.put(64, 0x0F);
        x.register(0, 1023);
        x.register(3, 255);
        x.ticks(TO_FIELD + 16);
        Due.shown("2: BASE 1023, INK 255", x, 0, 255, 0, 0, 0, 0, 0, 0, 255, 255);
        x.register(0, 0);
        x.register(1, 64);
        x.register(3, 0);
        x.register(4, 255);
        x.ticks(24);
        Due.shown("2: BASE 0, STRIDE 64, INK 0, PAPER 255", x, 1, 255, 255, 255, 255, 0, 0, 0, 0, 255);
        x.register(1, 0);
        x.register(2, 7);
        x.ticks(24);
        Due.shown("2: STRIDE 0, SCROLL 7", x, 2, 0, 255, 255);
        x.register(2, 0);
        x.ticks(24);
        Due.shown("2: SCROLL 0", x, 3, 0, 0, 0, 0, 0, 0, 0, 0, 255);
    }

    /** "at most 16 entries" */
    private static void sixteenEntries() {
        PictureBeats x = new PictureBeats();
        for (int k = 0; k < 16; k++) {
            Due.equal("2: entry " + (k + 1), x.entry(0, k, 4, 100 + k), k + 1);
        }
        Due.equal("2: no entry 17", x.entry(0, 15, 4, 99), -1);
        x.ticks(TO_FIELD + 16);
        for (int k = 0; k < 16; k++) {
            Due.equal("2: entry " + (k + 1) + " works", x.shown(k, 0), 100 + k);
        }
    }

    /** "each of a Y, an X": the last tick of the largest MODE. */
    private static void entriesOfTheFarthestTick() {
        PictureBeats x = new PictureBeats();
        x.line(64, 32, 32, 32);
        x.field(32, 8, 8, 8, false);
        x.entry(55, 159, 4, 77);
        x.ticks(TO_FIELD);
        x.ticks(4000);
        x.ticks(4000);
        x.ticks(56 * 160 - 8000 - 1);
        Due.now("2: the farthest tick", x, 159, 55, 0, 4, 160, 56);
        Due.equal("2: ahead of it", x.value(4), 0);
        x.ticks(1);
        Due.equal("2: behind it", x.value(4), 77);
    }

    /** "if its number (TICKS are numbered from 0 on) by PERIOD, 1 .. 16, is a bit of PATTERN that is 1" */
    private static void periodsOneToSixteen() {
        for (int period = 1; period <= 16; period++) {
            takenByBit(period, 0);
            takenByBit(period, period - 1);
        }
    }

    private static void takenByBit(int period, int bit) {
        PictureBeats x = new PictureBeats();
        x.readers(period, 1 << bit);
        for (int tick = 0; tick < 2 * period + 2; tick++) {
            int want = tick % period == bit ? 1 : 0;
            Due.equal("2: PERIOD " + period + ", bit " + bit + ", TICK " + tick, x.now(11), want);
            x.ticks(1);
        }
    }

    /** "X -8 .. 63": what is outside of a line is not shown, and shows nowhere else. */
    private static void spritesAtEachSide() {
        int[] places = {-8, -7, -1, 0, 55, 56, 57, 62, 63};
        for (int place : places) {
            PictureBeats x = new PictureBeats();
            x.line(64, 1, 1, 1);
            Due.yes("2: X " + place, x.sprite(5, place, 1, 1));
            x.bits(5, true, -1);
            x.ticks(TO_FIELD + 3 * 67);
            for (int at = 0; at < 64; at++) {
                int want = at >= place && at < place + 8 ? 261 : 0;
                Due.equal("2: SPRITE at " + place + ", X " + at, x.shown(at, 1), want);
                Due.equal("2: SPRITE at " + place + ", ROW 0, X " + at, x.shown(at, 0), 0);
                Due.equal("2: SPRITE at " + place + ", ROW 2, X " + at, x.shown(at, 2), 0);
            }
        }
    }

    /** "ROW 0 .. 63), a height 0 .. 8 (0: none), and bits of each of their rows" */
    private static void spritesOfEachHeight() {
        int[][] places = {{0, 0}, {0, 1}, {0, 8}, {31, 2}, {55, 8}, {56, 8}, {57, 8}, {62, 1}, {62, 8}, {63, 0}, {63, 1}, {63, 8}};
        for (int[] place : places) {
            String name = "2: SPRITE at ROW " + place[0] + " of height " + place[1] + ", ROW ";
            PictureBeats x = new PictureBeats();
            x.line(8, 1, 1, 1);
            x.field(32, 1, 1, 1, true);
            x.bits(3, true, 0x80402010);
            x.bits(3, false, 0x08040201);
            Due.yes(name, x.sprite(3, 0, place[0], place[1]));
            x.ticks(TO_FIELD + 2 * 35 * 11);
            for (int row = 0; row < 64; row++) {
                int down = row - place[0];
                boolean has = down >= 0 && down < place[1];
                Due.equal(name + row, x.row(row, 2), has ? 8 : 0);
                Due.equal(name + row + " on its bit", x.shown(has ? down : 0, row), has ? 259 : 0);
                Due.equal(name + row + " beside it", x.shown(has ? (down + 1) % 8 : 7, row), 0);
            }
        }
    }

    /** "A ROW has the first three SPRITES, by numbers, that have a row there; the others are LEFT OUT there." */
    private static void threeSpritesARow() {
        for (int all = 0; all <= 8; all++) {
            PictureBeats x = new PictureBeats();
            for (int k = 0; k < all; k++) {
                x.sprite(7 - k, 0, 20, 1);
            }
            int had = Math.min(all, 3);
            Due.equal("2: LEFT OUT of " + all, x.row(20, 0), all - had);
            Due.equal("2: had of " + all, x.row(20, 1), had);
            Due.equal("2: which of " + all, x.row(20, 2), ((1 << had) - 1) << (8 - all));
            Due.equal("2: in the ROW ahead", x.row(19, 1) + x.row(19, 0), 0);
            Due.equal("2: in the ROW behind", x.row(21, 1) + x.row(21, 0), 0);
        }
    }

    /** The same sentence: a fourth one is not shown, also where none of the three is. */
    private static void theFourthIsNotShown() {
        PictureBeats x = new PictureBeats();
        x.line(64, 1, 1, 1);
        int[] numbers = {1, 3, 6, 7};
        for (int k = 0; k < 4; k++) {
            x.sprite(numbers[k], 16 * k, k == 3 ? 0 : k, 3);
            x.bits(numbers[k], true, -1);
        }
        x.ticks(TO_FIELD + 3 * 67);
        Due.equal("2: the third of ROW 1 is SPRITE 7", x.shown(48, 1), 263);
        Due.equal("2: the third of ROW 2 is SPRITE 6", x.shown(32, 2), 262);
        Due.equal("2: the fourth of ROW 2 is not shown", x.shown(48, 2), 0);
    }

    // ---- Terms 3

    /** "At first X is that behind the last SEEN one, Y the last line, of FIELD 0, of a MODE of .." */
    private static void atFirst() {
        PictureBeats x = new PictureBeats();
        Due.now("3: at first", x, 16, 10, 0, 4, 24, 11, 0, 0, 0, 0, 0, 0);
        x.ticks(TO_FIELD - 1);
        Due.now("3: the last tick ahead of the FIELD", x, 23, 10, 0, 4);
        int[] across = {4, 4, 5, 5, 5, 4, 4};
        for (int k = 0; k < across.length; k++) {
            Due.equal("3: SIGNALS of TICK " + k, x.signals(across.length - k), across[k]);
        }
        x.ticks(1);
        Due.now("3: the first tick of the FIELD", x, 0, 0, 0, 0, 24, 11, 2, 0, 0, 0, 2, 0);
    }

    /** "entries of THE LIST of this Y and X .. change REGISTERS", ahead of the byte that is fetched in this tick. */
    private static void entriesComeAheadOfTheFetch() {
        PictureBeats x = new PictureBeats();
        x.entry(10, 16, 0, 100);
        x.entry(10, 17, 0, 200);
        x.put(100, 0xFF);
        x.put(201, 0xF0);
        x.ticks(TO_FIELD + 16);
        Due.shown("3: byte 0 from 100, byte 1 from 201", x, 0, 1, 1, 1, 1, 1, 1, 1, 1, 1, 1, 1, 1, 0, 0, 0, 0);
    }

    /** The same sentence: ahead of SCROLL's bits and of the DOT, at a line's first and last SEEN tick. */
    private static void entriesComeAheadOfTheDot() {
        PictureBeats x = new PictureBeats();
        x.put(0, 0x01);
        x.entry(0, 0, 2, 7);
        x.entry(0, 0, 3, 50);
        x.entry(0, 15, 4, 60);
        x.ticks(TO_FIELD + 16);
        Due.shown("3: changed in the first and the last tick", x, 0, 50, 0, 0, 0, 0, 0, 0, 0, 0, 0, 0, 0, 0, 0, 0, 60);
    }

    /** "in the order of THE LIST" */
    private static void entriesOfOneTickInTheirOrder() {
        PictureBeats x = new PictureBeats();
        for (int k = 0; k < 16; k++) {
            x.entry(0, 5, 4, 200 - k);
        }
        x.ticks(TO_FIELD + 6);
        Due.shown("3: the last of sixteen counts", x, 0, 0, 0, 0, 0, 0, 185);
    }

    /** "If X is that behind the last SEEN one: the QUEUE is emptied, and what is left of a byte is gone" */
    private static void emptiedBehindTheLastSeenTick() {
        PictureBeats x = Scenes.atFieldOf(12, 1, 1, 1);
        x.depth(8);
        x.ticks(11);
        Due.now("3: the last SEEN tick comes", x, 11, 0, 0, 0, 15, 11, 1, 5);
        x.readers(1, 1);
        x.ticks(1);
        Due.now("3: behind the last SEEN tick", x, 12, 0, 0, 4, 15, 11, 1, 4);
        x.ticks(1);
        Due.now("3: emptied", x, 13, 0, 0, 5, 15, 11, 0, 0);
    }

    /** "as many as its SEEN ticks and 7, by 8, cut, and one more" */
    private static void bytesOfEachWidth() {
        for (int seen = 8; seen <= 64; seen++) {
            PictureBeats x = new PictureBeats();
            x.line(seen, 1, 1, 1);
            x.depth(8);
            x.ticks(TO_FIELD + seen);
            Due.equal("3: bytes of a line of " + seen, x.now(10), (seen + 7) / 8 + 1);
        }
    }

    /** "if that line is SEEN" */
    private static void noBytesOfLinesNotSeen() {
        PictureBeats x = new PictureBeats();
        x.line(8, 1, 1, 1);
        x.field(1, 1, 1, 1, false);
        x.ticks(TO_FIELD + 8);
        for (int y = 0; y < 3; y++) {
            Due.now("3: line " + y + " ends", x, 8, y);
            Due.equal("3: bytes behind line " + y, x.now(10), 2);
            x.ticks(11);
        }
        Due.now("3: the last line ends", x, 8, 3);
        Due.equal("3: none yet", x.now(10), 2);
        x.ticks(3);
        Due.equal("3: bytes of the next FIELD's first line", x.now(10), 4);
    }

    /** "of a FIELD's last one, the first line of the next FIELD, in the MODE that was taken up just now" */
    private static void bytesOfTheNextFieldsMode() {
        PictureBeats x = Scenes.atFieldOf(64, 1, 1, 1);
        x.depth(8);
        x.line(8, 32, 32, 32);
        x.ticks(10 * 67 + 64);
        int before = x.now(10);
        Due.now("3: the tick that takes up comes", x, 64, 10, 0, 4, 67, 11);
        x.ticks(3 + 8);
        Due.equal("3: two bytes for 8 SEEN ticks", x.now(10) - before, 2);
        x.line(64, 1, 1, 1);
        x.ticks(10 * 104);
        before = x.now(10);
        Due.now("3: the next tick that takes up", x, 8, 10, 0, 4, 104, 11);
        x.ticks(96 + 64);
        Due.equal("3: nine bytes for 64 SEEN ticks", x.now(10) - before, 9);
    }

    /** "the QUEUE has less than DEPTH bytes (1 .. 8; 2 at first)" */
    private static void lessThanDepth() {
        for (int depth = 0; depth <= 8; depth++) {
            PictureBeats x = new PictureBeats();
            x.line(64, 32, 32, 32);
            if (depth > 0) {
                x.depth(depth);
            }
            int most = depth > 0 ? depth : 2;
            x.ticks(TO_FIELD + 160);
            Due.equal("3: bytes at DEPTH " + depth, x.now(6), most);
            x.ticks(1);
            Due.equal("3: one is taken at DEPTH " + depth, x.now(6), most - 1);
            x.ticks(1);
            Due.equal("3: one comes at DEPTH " + depth, x.now(6), most);
        }
    }

    /** "and there is one yet" */
    private static void noByteMore() {
        PictureBeats x = new PictureBeats();
        x.line(8, 32, 32, 32);
        x.depth(8);
        x.ticks(2);
        Due.equal("3: both bytes are fetched", x.now(6), 2);
        x.ticks(TO_FIELD - 2);
        Due.equal("3: no third one", x.now(6), 2);
        x.ticks(8);
        Due.now("3: nor in the line", x, 8, 0, 0, 4, 104, 11, 1, 0, 0, 8, 2);
    }

    /** "that of MEMORY at BASE + STRIDE * ROW + k, by 1024" */
    private static void placesByTheNumberOfBytes() {
        PictureBeats x = new PictureBeats();
        x.line(64, 1, 1, 1);
        x.field(32, 1, 1, 1, true);
        x.register(0, 1023);
        x.register(1, 64);
        int first = (1023 + 64 * 63) % 1024;
        x.put(first, 0x80);
        x.put(first + 7, 0x01);
        x.put(1023, 0x42);
        x.put(0, 0x24);
        x.ticks(TO_FIELD);
        x.ticks(67 * 35);
        x.ticks(67 * 32);
        Due.shown("3: 1023, then 0", x, 0, 0, 1, 0, 0, 0, 0, 1, 0, 0, 0, 1, 0, 0, 1, 0, 0);
        Due.equal("3: the first bit of ROW 63", x.shown(0, 63), 1);
        Due.equal("3: the next one", x.shown(1, 63), 0);
        Due.equal("3: the last one", x.shown(63, 63), 1);
        Due.equal("3: the one ahead", x.shown(62, 63), 0);
        Due.equal("3: ROW 47 is 1024 ahead of it", x.shown(0, 47), 1);
    }

    /** "if there is none: it is an UNDER, and no bit is taken" */
    private static void anUnderIfThereIsNone() {
        PictureBeats x = new PictureBeats();
        x.four(0, -1);
        x.depth(1);
        x.ticks(TO_FIELD);
        x.readers(1, 1);
        x.ticks(8);
        Due.now("3: the byte's last bit is taken", x, 8, 0, 0, 0, 24, 11, 0, 0, 0, 8, 1, 1);
        x.ticks(1);
        Due.now("3: an UNDER", x, 9, 0, 0, 0, 24, 11, 0, 0, 1, 9, 1, 1);
        x.ticks(7);
        Due.now("3: one for each DOT", x, 16, 0, 0, 4, 24, 11, 0, 0, 8, 16, 1, 1);
        x.ticks(8);
        Due.equal("3: none without a DOT", x.now(8), 8);
        Due.shown("3: UNDERS", x, 0, 1, 1, 1, 1, 1, 1, 1, 1, 512, 512, 512, 512, 512, 512, 512, 512, -1);
    }

    /** The same sentence: a byte that comes in this very tick is there. */
    private static void noUnderIfFetchedInTheSameTick() {
        PictureBeats x = new PictureBeats();
        x.put(0, 0x80);
        x.readers(16, 0xFEFF);
        x.ticks(TO_FIELD);
        Due.now("3: nothing is there", x, 0, 0, 0, 0, 24, 11, 0, 0, 0, 0, 0, 0);
        x.ticks(1);
        Due.now("3: fetched and taken", x, 1, 0, 0, 0, 24, 11, 0, 7, 0, 1, 1, 1);
        Due.equal("3: its highest bit", x.shown(0, 0), 1);
    }

    /** "an UNDER of a bit that SCROLL takes counts, and ends the taking for SCROLL" */
    private static void underOfScroll() {
        for (int scroll = 0; scroll <= 7; scroll++) {
            PictureBeats x = new PictureBeats();
            x.readers(1, 1);
            x.register(2, scroll);
            x.ticks(TO_FIELD);
            Due.equal("3: no UNDER ahead of X 0", x.now(8), 0);
            x.ticks(1);
            Due.equal("3: UNDERS at X 0, SCROLL " + scroll, x.now(8), scroll == 0 ? 1 : 2);
            Due.equal("3: shown at X 0, SCROLL " + scroll, x.shown(0, 0), 512);
            x.ticks(1);
            Due.equal("3: UNDERS at X 1, SCROLL " + scroll, x.now(8), scroll == 0 ? 2 : 3);
        }
    }

    /** "as many bits as SCROLL tells then": 7 leave one of the only byte, and the DOT behind it has none. */
    private static void scrollOfTheLastBit() {
        PictureBeats x = new PictureBeats();
        x.put(0, 0x01);
        x.register(2, 7);
        x.readers(16, ~1);
        x.ticks(TO_FIELD);
        Due.equal("3: one byte is there", x.now(6), 1);
        x.ticks(1);
        Due.now("3: its last bit is the DOT's", x, 1, 0, 0, 0, 24, 11, 0, 0, 0, 1, 1);
        x.ticks(1);
        Due.now("3: the next DOT has none", x, 2, 0, 0, 0, 24, 11, 0, 0, 1, 2, 1);
        Due.shown("3: SCROLL 7", x, 0, 1, 512, -1);
    }

    /** "256 and its number; else INK if its bit is 1, PAPER if it is 0, and 512 if it is an UNDER": the highest ones. */
    private static void whatADotShowsAtMost() {
        PictureBeats x = new PictureBeats();
        x.readers(1, 1);
        x.sprite(0, 0, 0, 1);
        x.sprite(7, 1, 0, 1);
        x.bits(0, true, 0x80000000);
        x.bits(7, true, 0xC0000000);
        x.ticks(TO_FIELD + 16);
        Due.shown("3: a SPRITE goes ahead of an UNDER", x, 0, 256, 263, 263, 512);
        Due.equal("3: it is an UNDER all the same", x.now(8), 16);
    }

    /** "behind a line's last tick X is 0, and Y goes on" */
    private static void aLinesEnd() {
        int[][] lines = {{8, 1, 1, 1}, {64, 32, 32, 32}};
        for (int[] parts : lines) {
            PictureBeats x = Scenes.atFieldOf(parts[0], parts[1], parts[2], parts[3]);
            int whole = x.now(4);
            x.ticks(whole - 1);
            Due.now("3: a line's last tick", x, whole - 1, 0);
            x.ticks(1);
            Due.now("3: behind it", x, 0, 1);
        }
    }

    /** "behind the last line's Y is 0, and the next FIELD begins" */
    private static void aFieldsEnd() {
        PictureBeats x = new PictureBeats();
        x.line(8, 1, 1, 1);
        x.field(1, 1, 1, 1, true);
        x.ticks(TO_FIELD + SHORTEST_FIELD - 11);
        Due.now("3: the last line", x, 0, 3, 0);
        x.ticks(10);
        Due.now("3: its last tick", x, 10, 3, 0);
        x.ticks(1);
        Due.now("3: the next FIELD", x, 0, 0, 1);
        x.ticks(SHORTEST_FIELD);
        Due.now("3: the one behind it", x, 0, 0, 0);
    }

    /** "SHOWN at X, ROW: the latest DOT there (X 0 .. 63, ROW 0 .. 63); -1 if there was none." */
    private static void noneShownYet() {
        PictureBeats x = new PictureBeats();
        int[] edges = {0, 63};
        for (int at : edges) {
            for (int row : edges) {
                Due.equal("3: none at " + at + ", " + row, x.shown(at, row), -1);
            }
        }
        x.ticks(TO_FIELD + 15);
        Due.equal("3: none yet in the last SEEN tick", x.shown(15, 0), -1);
        x.ticks(1);
        Due.equal("3: a DOT there", x.shown(15, 0), 0);
        x.ticks(8);
        Due.equal("3: none behind the last SEEN tick", x.shown(16, 0), -1);
        x.ticks(7 * 24);
        Due.equal("3: a DOT in the last SEEN line", x.shown(0, 7), 0);
        x.ticks(24);
        Due.equal("3: none behind the last SEEN line", x.shown(0, 8), -1);
        x.register(4, 9);
        x.ticks(2 * 24 + 1);
        Due.shown("3: the latest DOT", x, 0, 9, 0);
    }

    // ---- Terms 4

    /** "of all PATTERNS of that PERIOD with at most so many bits, .. (0: an UNDER)" */
    private static void ofLeast() {
        leastOfTheFirstTurn();
        leastOfLaterTurns();
        leastOfTheModeThatHolds();
        leastAtEachBound();
    }

    /** One more taken tick than there are up to the first byte's turn, or as many, is an UNDER. */
    private static void leastOfTheFirstTurn() {
        for (int front = 1; front <= 7; front++) {
            PictureBeats x = Scenes.atFieldOf(8, front, 1, 1);
            int upToTheTurn = front + 3;
            Due.equal("4: all of " + upToTheTurn + " taken", x.least(10, upToTheTurn), 0);
            Due.equal("4: all but one of " + upToTheTurn + " taken", x.least(10, upToTheTurn - 1), 1);
            Due.equal("4: all but two of " + upToTheTurn + " taken", x.least(10, upToTheTurn - 2), 2);
        }
    }

    /** At DEPTH 1 a byte comes in the eight ticks up to the next turn, or there is an UNDER. */
    private static void leastOfLaterTurns() {
        PictureBeats x = Scenes.atFieldOf(64, 32, 32, 32);
        x.depth(1);
        Due.equal("4: seven of eight taken", x.least(10, 7), 1);
        Due.equal("4: eight of eight taken", x.least(10, 8), 0);
        x.depth(2);
        Due.equal("4: a byte ahead", x.least(10, 8), 1);
        Due.equal("4: it is not enough for nine of ten", x.least(10, 9), 0);
        x.depth(8);
        Due.equal("4: eight ahead are enough", x.least(10, 9), 2);
        Due.equal("4: without any", x.least(10, 10), 0);
        PictureBeats narrow = Scenes.atFieldOf(8, 1, 1, 1);
        narrow.depth(1);
        Due.equal("4: one turn alone", narrow.least(10, 3), 1);
    }

    /** "in a line of the MODE that holds now": up to a FIELD's last tick the old one, from the next FIELD on the new. */
    private static void leastOfTheModeThatHolds() {
        PictureBeats x = new PictureBeats();
        x.line(8, 1, 1, 1);
        Due.equal("4: the MODE is told", x.least(10, 4), 2);
        x.ticks(1);
        Due.equal("4: it is taken up", x.least(10, 4), 2);
        x.ticks(TO_FIELD - 2);
        Due.equal("4: the last tick ahead of it", x.least(10, 4), 2);
        x.ticks(1);
        Due.equal("4: it holds", x.least(10, 4), 0);
        x.line(64, 32, 32, 32);
        Due.equal("4: another one is told", x.least(10, 4), 0);
    }

    private static void leastAtEachBound() {
        int[][] lines = {{8, 1, 1, 1}, {9, 1, 1, 1}, {64, 1, 1, 1}, {8, 32, 32, 32}, {57, 3, 2, 1}};
        int[] depths = {1, 2, 8};
        int[][] asked = {{1, 0}, {1, 1}, {2, 1}, {9, 8}, {10, 0}, {10, 1}, {10, 5}, {10, 8}, {10, 9}, {10, 10}};
        for (int[] parts : lines) {
            PictureBeats x = Scenes.atFieldOf(parts[0], parts[1], parts[2], parts[3]);
            SlowModel model = new SlowModel();
            model.line(parts[0], parts[1], parts[2], parts[3]);
            model.ticks(TO_FIELD);
            for (int depth : depths) {
                x.depth(depth);
                model.depth(depth);
                for (int[] ask : asked) {
                    Due.equal("4: " + parts[0] + " SEEN, DEPTH " + depth + ", least(" + ask[0] + ", " + ask[1] + ")",
                        x.least(ask[0], ask[1]), model.least(ask[0], ask[1]));
                }
            }
        }
    }

    // ---- Terms 5

    /** "of several alike the least h, then the least v" */
    private static void ofFit() {
        PictureBeats x = new PictureBeats();
        Due.equal("5: the same product, least h", x.fit(1000, 10, 1, 200, 1, 200), 1100);
        Due.equal("5: the same product, h from 3 on", x.fit(1000, 10, 3, 200, 1, 200), 4025);
        Due.equal("5: the same product, v up to 24", x.fit(1000, 10, 1, 200, 1, 24), 5020);
        Due.equal("5: 4 and 2 are alike to 3, least v", x.fit(4, 3, 1, 1, 1, 2), 1001);
        Due.equal("5: 4 and 2 are alike to 3, least h", x.fit(4, 3, 1, 2, 1, 1), 1001);
        Due.equal("5: 4 and 2 are alike to 3, h 1 and v 1", x.fit(4, 3, 1, 2, 1, 2), 1001);
        // 15 / (5 * 2) and 15 / (6 * 1) both lie a half from 2: the least h has the greater v.
        Due.equal("5: the least h goes ahead of the least v", x.fit(15, 2, 5, 6, 1, 2), 5002);
        Due.equal("5: the other one, if it is alone", x.fit(15, 2, 6, 6, 1, 2), 6001);
        Due.equal("5: nearest by the quotient, not the product", x.fit(7, 2, 1, 1, 3, 4), 1004);
        Due.equal("5: both bounds below", x.fit(1000000, 1, 1, 200, 1, 200), 200200);
        Due.equal("5: both bounds above", x.fit(1, 1000, 1, 200, 1, 200), 1001);
        Due.equal("5: one pair", x.fit(77, 5, 200, 200, 1, 1), 200001);
    }
}
