import java.util.Arrays;

/** Each sentence of promises 1 to 22 that names a boundary case, with a test of its own. */
public final class CallsBoundaryTests {
    private static final int TO_FIELD = Scenes.TO_FIELD;
    private static final int[] HIGHEST = {1023, 64, 7, 255, 255};

    /** A call with its numbers; a boolean answer counts 1 or 0. */
    private interface Call {
        int answer(PictureBeats x, int[] numbers);
    }

    private CallsBoundaryTests() {
    }

    public static void main(String[] args) {
        refusedCalls();
        refusedQuestions();
        newObjectHasNothing();
        refusedModeIsNotTold();
        putTakesTheLowestBits();
        fourByTheNumberOfBytes();
        registersOfEachBound();
        entriesOfEachBound();
        thereAreSixteen();
        theListIsEmpty();
        bitsFromPeriodOnCountForNothing();
        refusedReaders();
        whatIsInTheQueueStays();
        spriteOfHeightNone();
        bitsOfTheFirstAndLastRows();
        ticksOfEachBound();
        noMoreThanAMillion();
        signalsOfTheLatest();
        signalsOfFewerTicks();
        sharesOfEachPeriod();
        fitBoundsInOrder();
        imagesOfEachBound();
        imageOfNothing();
        imageOfAllThatIsFull();
        spriteOfAnImageMoves();
        otherImagesStay();
        noneSuchImage();
        Due.end();
    }

    private static int counted(boolean answer) {
        return answer ? 1 : 0;
    }

    /**
     * Each number of a call by turns at both its bounds, where the call is taken, and just outside of them and
     * farthest away, where it is refused and changes nothing; the call's other numbers are the usual ones.
     */
    private static void bounds(String name, Call call, int refused, int[] usual, int[]... bounds) {
        PictureBeats taking = Scenes.busy();
        PictureBeats refusing = Scenes.busy();
        for (int k = 0; k < bounds.length; k++) {
            for (int inside : bounds[k]) {
                int[] numbers = with(usual, k, inside);
                int answer = call.answer(taking, numbers);
                Due.no(name + Arrays.toString(numbers) + " is refused", answer == refused);
            }
            int[] outside = {bounds[k][0] - 1, bounds[k][1] + 1, Integer.MIN_VALUE, Integer.MAX_VALUE};
            for (int number : outside) {
                int[] numbers = with(usual, k, number);
                Due.equal(name + Arrays.toString(numbers), call.answer(refusing, numbers), refused);
            }
        }
        Due.same(name + ": the object behind refused calls", Scenes.story(refusing), Scenes.story(Scenes.busy()));
    }

    private static int[] with(int[] usual, int k, int number) {
        int[] numbers = usual.clone();
        numbers[k] = number;
        return numbers;
    }

    private static int[] of(int... numbers) {
        return numbers;
    }

    /** "false for others", "false: there is no such place", "NONE for another number" and their like. */
    private static void refusedCalls() {
        bounds("2: line", (x, n) -> counted(x.line(n[0], n[1], n[2], n[3])), 0, of(16, 2, 3, 3),
            of(8, 64), of(1, 32), of(1, 32), of(1, 32));
        bounds("3: field", (x, n) -> counted(x.field(n[0], n[1], n[2], n[3], false)), 0, of(8, 1, 1, 1),
            of(1, 32), of(1, 8), of(1, 8), of(1, 8));
        bounds("3: field INTERLACED", (x, n) -> counted(x.field(n[0], n[1], n[2], n[3], true)), 0, of(8, 1, 1, 1),
            of(1, 32), of(1, 8), of(1, 8), of(1, 8));
        bounds("4: put", (x, n) -> counted(x.put(n[0], 0x5A)), 0, of(0), of(0, 1023));
        bounds("5: four", (x, n) -> counted(x.four(n[0], 0x5A5A5A5A)), 0, of(0), of(0, 1023));
        bounds("9: readers", (x, n) -> counted(x.readers(n[0], -1)), 0, of(1), of(1, 16));
        bounds("10: depth", (x, n) -> counted(x.depth(n[0])), 0, of(1), of(1, 8));
        bounds("11: sprite", (x, n) -> counted(x.sprite(n[0], n[1], n[2], n[3])), 0, of(0, 1, 1, 8),
            of(0, 7), of(-8, 63), of(0, 63), of(0, 8));
        bounds("12: bits low", (x, n) -> counted(x.bits(n[0], true, 0x5A5A5A5A)), 0, of(0), of(0, 7));
        bounds("12: bits high", (x, n) -> counted(x.bits(n[0], false, 0x5A5A5A5A)), 0, of(0), of(0, 7));
        bounds("13: ticks", (x, n) -> x.ticks(n[0]), -1, of(1), of(1, 4000));
        bounds("21: image", (x, n) -> counted(x.image(n[0])), 0, of(1), of(0, 2));
        for (int register = 0; register < 5; register++) {
            int[] values = of(0, HIGHEST[register]);
            bounds("6: register", (x, n) -> counted(x.register(n[0], n[1])), 0, of(register, 1), of(0, 4), values);
            bounds("7: entry", (x, n) -> x.entry(n[0], n[1], n[2], n[3]), -1, of(2, 3, register, 1),
                of(0, 63), of(0, 159), of(0, 4), values);
        }
    }

    /** "-2: there is no such place", "NONE for another what", "NONE: there is none such" and their like. */
    private static void refusedQuestions() {
        bounds("14: shown", (x, n) -> x.shown(n[0], n[1]), -2, of(1, 1), of(0, 63), of(0, 63));
        bounds("15: now", (x, n) -> x.now(n[0]), -1, of(0), of(0, 11));
        bounds("17: value", (x, n) -> x.value(n[0]), -1, of(0), of(0, 4));
        bounds("18: row", (x, n) -> x.row(n[0], n[1]), -1, of(1, 1), of(0, 63), of(0, 2));
        bounds("19: least", (x, n) -> x.least(n[0], n[1]), -1, of(1, 0), of(1, 10), of(0, 1));
        bounds("20: fit", (x, n) -> x.fit(n[0], n[1], 1, 200, 1, 200), -1, of(1000, 10), of(1, 1000000), of(1, 1000));
        bounds("20: fit from", (x, n) -> x.fit(1000, 10, n[0], 200, n[1], 200), -1, of(5, 5), of(1, 200), of(1, 200));
        bounds("20: fit to", (x, n) -> x.fit(1000, 10, 1, n[0], 1, n[1]), -1, of(5, 5), of(1, 200), of(1, 200));
    }

    /** "no entries, no OTHER READERS (PERIOD 1, PATTERN 0), no SPRITES; TICK 0; no images" */
    private static void newObjectHasNothing() {
        PictureBeats x = new PictureBeats();
        for (int row = 0; row < 64; row++) {
            Due.equal("1: no SPRITE in ROW " + row, x.row(row, 0) + x.row(row, 1) + x.row(row, 2), 0);
        }
        for (int k = 0; k < 3; k++) {
            Due.no("1: no image " + k, x.again(k));
        }
        Due.equal("1: no entries", x.entry(63, 159, 0, 0), 1);
        for (int tick = 1; tick <= 40; tick++) {
            Due.equal("1: TICK " + tick + " is not taken", x.now(11), 0);
            Due.equal("1: TICKS so far", x.ticks(1), tick);
        }
    }

    /** "false for others": a line or a FIELD with one wrong number tells none of its others. */
    private static void refusedModeIsNotTold() {
        PictureBeats x = new PictureBeats();
        Due.no("2: BACK is wrong", x.line(40, 5, 6, 33));
        Due.no("2: SEEN is wrong", x.line(65, 5, 6, 7));
        Due.no("3: BACK is wrong", x.field(20, 5, 6, 9, true));
        Due.no("3: SEEN is wrong", x.field(33, 5, 6, 7, true));
        x.ticks(TO_FIELD);
        Due.now("3: the MODE of the beginning", x, 0, 0, 0, 0, 24, 11);
        x.ticks(10 * 24);
        x.ticks(24);
        Due.now("3: it is not INTERLACED", x, 0, 0, 0, 0, 24, 11);
    }

    /** "A byte (the lowest 8 bits)" */
    private static void putTakesTheLowestBits() {
        int[][] values = {{0, 0}, {255, 255}, {256, 0}, {511, 255}, {-1, 255}, {-256, 0}, {0x7FFFFF81, 0x81},
            {Integer.MIN_VALUE, 0}, {Integer.MAX_VALUE, 255}};
        for (int[] value : values) {
            PictureBeats x = new PictureBeats();
            x.put(0, 0x66);
            x.put(1, 0x66);
            Due.yes("4: put(1, " + value[0] + ")", x.put(1, value[0]));
            Due.equal("4: the byte behind put(1, " + value[0] + ")", byteAt(x, 1), value[1]);
            Due.equal("4: the byte ahead of put(1, " + value[0] + ")", byteAt(x, 0), 0x66);
            Due.equal("4: the byte behind put(1, " + value[0] + ")", byteAt(x, 2), 0);
        }
    }

    /** A byte of MEMORY as ROW 0 shows it, from a new object's tick on; a whole FIELD goes by. */
    private static int byteAt(PictureBeats x, int place) {
        x.register(0, place);
        x.ticks(TO_FIELD + 8);
        int value = 0;
        for (int at = 0; at < 8; at++) {
            value = value * 2 + x.shown(at, 0);
        }
        x.ticks(11 * 24 - TO_FIELD - 8);
        return value;
    }

    /** "Four bytes of MEMORY from a place on (by 1024), the highest of the number first" */
    private static void fourByTheNumberOfBytes() {
        int[] due = {0x81, 0x42, 0x24, 0x18};
        for (int place = 1019; place <= 1023; place++) {
            PictureBeats x = new PictureBeats();
            Due.yes("5: four(" + place + ")", x.four(place, 0x81422418));
            for (int k = -1; k <= 4; k++) {
                int want = k < 0 || k > 3 ? 0 : due[k];
                Due.equal("5: four(" + place + "), byte " + k, byteAt(x, (place + k) % 1024), want);
            }
        }
        PictureBeats first = new PictureBeats();
        Due.yes("5: four(0)", first.four(0, 0x81422418));
        Due.equal("5: four(0), byte 1023 stays", byteAt(first, 1023), 0);
        Due.equal("5: four(0), byte 0", byteAt(first, 0), 0x81);
        Due.equal("5: four(0), byte 3", byteAt(first, 3), 0x18);
    }

    /** "A REGISTER's value from now on: true; false for others." */
    private static void registersOfEachBound() {
        for (int register = 0; register < 5; register++) {
            PictureBeats x = Scenes.busy();
            int[] values = {0, 1, HIGHEST[register] - 1, HIGHEST[register]};
            for (int value : values) {
                Due.yes("6: register(" + register + ", " + value + ")", x.register(register, value));
                Due.equal("17: value(" + register + ")", x.value(register), value);
                Due.no("6: one above", x.register(register, HIGHEST[register] + 1));
                Due.no("6: one below", x.register(register, -1));
                Due.equal("17: value(" + register + ") stays", x.value(register), value);
            }
        }
    }

    /** "NONE: .. Y is not 0 .. 63 or X not 0 .. 159; no such REGISTER or value": a refused entry takes no room. */
    private static void entriesOfEachBound() {
        PictureBeats x = new PictureBeats();
        int[][] wrong = {{-1, 0, 0, 0}, {64, 0, 0, 0}, {0, -1, 0, 0}, {0, 160, 0, 0}, {0, 0, -1, 0}, {0, 0, 5, 0}};
        for (int k = 1; k <= 16; k++) {
            for (int[] w : wrong) {
                Due.equal("7: entry" + Arrays.toString(w), x.entry(w[0], w[1], w[2], w[3]), -1);
            }
            int register = k % 5;
            Due.equal("7: value above", x.entry(0, 0, register, HIGHEST[register] + 1), -1);
            Due.equal("7: value below", x.entry(0, 0, register, -1), -1);
            Due.equal("7: entry " + k, x.entry(63, 159, register, HIGHEST[register]), k);
        }
    }

    /** "An entry comes behind THE LIST: how many it has. NONE: there are 16" */
    private static void thereAreSixteen() {
        PictureBeats x = new PictureBeats();
        for (int k = 1; k <= 16; k++) {
            Due.equal("7: how many", x.entry(0, 3, 4, 10 + k), k);
        }
        for (int k = 0; k < 3; k++) {
            Due.equal("7: there are 16", x.entry(0, 3, 4, 99), -1);
        }
        x.ticks(TO_FIELD + 4);
        Due.equal("7: the sixteenth counts", x.value(4), 26);
    }

    /** "THE LIST is empty." */
    private static void theListIsEmpty() {
        PictureBeats x = new PictureBeats();
        x.clear();
        Due.equal("8: empty as before", x.entry(0, 3, 4, 50), 1);
        for (int k = 2; k <= 16; k++) {
            x.entry(0, 3, 4, 50 + k);
        }
        x.clear();
        x.ticks(TO_FIELD + 24);
        Due.equal("8: no entry works any more", x.value(4), 0);
        for (int k = 1; k <= 16; k++) {
            Due.equal("8: sixteen fit again", x.entry(1, 4, 4, 70 + k), k);
        }
        Due.equal("8: and no more", x.entry(1, 4, 4, 99), -1);
        x.ticks(24);
        Due.equal("8: the new ones work", x.value(4), 86);
    }

    /** "(Bits of PATTERN from PERIOD on count for nothing.)" */
    private static void bitsFromPeriodOnCountForNothing() {
        for (int period = 1; period <= 16; period++) {
            PictureBeats none = new PictureBeats();
            none.readers(period, -1 << period);
            PictureBeats all = new PictureBeats();
            all.readers(period, (1 << period) - 1);
            for (int tick = 0; tick < 34; tick++) {
                Due.equal("9: PERIOD " + period + ", TICK " + tick + " is free", none.now(11), 0);
                Due.equal("9: PERIOD " + period + ", TICK " + tick + " is taken", all.now(11), 1);
                none.ticks(1);
                all.ticks(1);
            }
            Due.equal("9: PERIOD " + period + ", bytes", none.now(10), 6);
            Due.equal("9: PERIOD " + period + ", no bytes", all.now(10), 0);
        }
    }

    /** "false for another PERIOD": the READERS that were told go on. */
    private static void refusedReaders() {
        PictureBeats x = new PictureBeats();
        x.readers(3, 2);
        Due.no("9: PERIOD 0", x.readers(0, -1));
        Due.no("9: PERIOD 17", x.readers(17, -1));
        for (int tick = 0; tick < 20; tick++) {
            Due.equal("9: TICK " + tick, x.now(11), tick % 3 == 1 ? 1 : 0);
            x.ticks(1);
        }
    }

    /** "DEPTH from now on (what is in the QUEUE stays)" */
    private static void whatIsInTheQueueStays() {
        for (int depth = 1; depth <= 8; depth++) {
            PictureBeats x = new PictureBeats();
            x.line(64, 32, 32, 32);
            x.depth(8);
            x.ticks(TO_FIELD + 160);
            Due.equal("10: eight bytes", x.now(6), 8);
            Due.yes("10: DEPTH " + depth, x.depth(depth));
            Due.equal("10: they stay", x.now(6), 8);
            x.ticks(1);
            Due.equal("10: one is taken", x.now(6), 7);
            // Bytes are taken at 0, 8, .. and the ninth comes in the first tick with less than DEPTH of them.
            for (int at = 1; at < 64; at++) {
                int taken = (at + 7) / 8;
                int came = 8 - taken < depth && at > 1 + 8 * (8 - depth) ? 1 : 0;
                Due.equal("10: DEPTH " + depth + ", X " + at, x.now(6), 8 - taken + came);
                x.ticks(1);
            }
            Due.equal("10: no UNDER", x.now(8), 0);
        }
        PictureBeats y = new PictureBeats();
        y.ticks(TO_FIELD);
        y.depth(1);
        y.depth(8);
        Due.equal("10: two stay through 1 and 8", y.now(6), 2);
        y.ticks(1);
        Due.equal("10: a third one comes", y.now(10), 3);
    }

    /** "height 0 .. 8 (0: none)": told 0, a SPRITE that was there is gone. */
    private static void spriteOfHeightNone() {
        PictureBeats x = new PictureBeats();
        x.bits(2, true, -1);
        x.sprite(2, 0, 0, 8);
        Due.equal("11: eight rows", x.row(7, 2), 4);
        Due.equal("11: no ninth", x.row(8, 2), 0);
        Due.yes("11: height 0", x.sprite(2, 0, 0, 0));
        for (int row = 0; row < 9; row++) {
            Due.equal("11: none in ROW " + row, x.row(row, 1), 0);
        }
        x.ticks(TO_FIELD + 16);
        Due.shown("11: none is shown", x, 0, 0, 0, 0, 0, 0, 0, 0, 0);
        x.sprite(2, 0, 1, 1);
        x.ticks(24);
        Due.shown("11: its bits have stayed", x, 1, 258, 258, 258, 258, 258, 258, 258, 258, 0);
    }

    /** "Rows 0 .. 3 (low true) or 4 .. 7 of a SPRITE, the highest eight bits of the number first" */
    private static void bitsOfTheFirstAndLastRows() {
        for (int sprite = 0; sprite < 8; sprite += 7) {
            PictureBeats x = new PictureBeats();
            x.sprite(sprite, 0, 0, 8);
            x.bits(sprite, true, 0x80000001);
            x.ticks(TO_FIELD + 8 * 24);
            int shown = 256 + sprite;
            int[][] lows = {{shown, 0}, {0, 0}, {0, 0}, {0, shown}, {0, 0}, {0, 0}, {0, 0}, {0, 0}};
            dueEnds("12: low", x, lows);
            x.bits(sprite, false, 0x01000080);
            x.ticks(11 * 24);
            int[][] both = {{shown, 0}, {0, 0}, {0, 0}, {0, shown}, {0, shown}, {0, 0}, {0, 0}, {shown, 0}};
            dueEnds("12: both", x, both);
            x.bits(sprite, true, 0);
            x.ticks(11 * 24);
            int[][] highs = {{0, 0}, {0, 0}, {0, 0}, {0, 0}, {0, shown}, {0, 0}, {0, 0}, {shown, 0}};
            dueEnds("12: high", x, highs);
        }
    }

    /** What X 0 and X 7 of each ROW from 0 on show. */
    private static void dueEnds(String name, PictureBeats x, int[][] want) {
        for (int row = 0; row < want.length; row++) {
            Due.equal(name + ": ROW " + row + ", X 0", x.shown(0, row), want[row][0]);
            Due.equal(name + ": ROW " + row + ", X 7", x.shown(7, row), want[row][1]);
            Due.equal(name + ": ROW " + row + ", X 8", x.shown(8, row), 0);
        }
    }

    /** "So many TICKS go by, 1 .. 4000: how many did in all. NONE for another number" */
    private static void ticksOfEachBound() {
        PictureBeats x = new PictureBeats();
        Due.equal("13: 1", x.ticks(1), 1);
        Due.now("13: one tick on", x, 17, 10);
        Due.equal("13: 4000", x.ticks(4000), 4001);
        int on = (4001 - TO_FIELD) % (11 * 24);
        Due.now("13: 4000 ticks on", x, on % 24, on / 24);
        int[] others = {0, 4001, -1, -4000, Integer.MIN_VALUE, Integer.MAX_VALUE};
        for (int n : others) {
            Due.equal("13: ticks(" + n + ")", x.ticks(n), -1);
        }
        Due.now("13: none went by", x, on % 24, on / 24);
        Due.equal("13: how many in all", x.ticks(1), 4002);
    }

    /** "or if these would be more than 1000000" */
    private static void noMoreThanAMillion() {
        PictureBeats x = new PictureBeats();
        for (int k = 0; k < 249; k++) {
            x.ticks(4000);
        }
        x.image(0);
        Due.equal("13: 4000 up to 1000000", x.ticks(4000), 1000000);
        Due.equal("13: 1 more", x.ticks(1), -1);
        Due.equal("13: 4000 more", x.ticks(4000), -1);
        x.again(0);
        Due.equal("13: 1", x.ticks(1), 996001);
        int at = x.now(0);
        int under = x.now(10);
        Due.equal("13: 1000001 would be one too many", x.ticks(4000), -1);
        Due.equal("13: none of them went by", x.now(0), at);
        Due.equal("13: nothing was fetched", x.now(10), under);
        Due.equal("13: no SIGNALS came", x.signals(1), 4);
        Due.equal("13: 1000000", x.ticks(3999), 1000000);
        int on = (1000000 - TO_FIELD) % (11 * 24);
        Due.now("13: at the end", x, on % 24, on / 24);
        Due.equal("13: no tick is left", x.ticks(1), -1);
        Due.now("13: at the end still", x, on % 24, on / 24);
    }

    /** "SIGNALS of one of the latest 512 TICKS, 1 the latest. NONE: there is none such." */
    private static void signalsOfTheLatest() {
        for (int shift = 0; shift < 24; shift++) {
            PictureBeats x = new PictureBeats();
            x.ticks(1000 + shift);
            int[] agos = {1, 2, 3, 256, 510, 511, 512};
            for (int ago : agos) {
                int on = (1000 + shift - ago + 11 * 24 - TO_FIELD) % (11 * 24);
                int across = on % 24;
                int y = on / 24;
                int want = (across >= 18 && across < 21 ? 1 : 0) | (y == 9 ? 2 : 0) | (across >= 16 || y >= 8 ? 4 : 0);
                Due.equal("16: signals(" + ago + ") of TICK " + (1000 + shift), x.signals(ago), want);
            }
            int[] others = {0, 513, 514, 1000, -1, -512, Integer.MIN_VALUE, Integer.MAX_VALUE};
            for (int ago : others) {
                Due.equal("16: signals(" + ago + ")", x.signals(ago), -1);
            }
        }
    }

    /** The same sentence: of fewer TICKS there are no more than went by. */
    private static void signalsOfFewerTicks() {
        PictureBeats none = new PictureBeats();
        Due.equal("16: none at first", none.signals(1), -1);
        Due.equal("16: none at first, 512", none.signals(512), -1);
        int[] counts = {1, 2, 511, 512, 513};
        for (int count : counts) {
            PictureBeats x = new PictureBeats();
            x.ticks(count);
            // TICK 0 is BLANK and in no SYNC, TICK 1 as well.
            int oldest = Math.min(count, 512);
            Due.equal("16: the oldest of " + count, x.signals(oldest), 4);
            Due.equal("16: one older of " + count, x.signals(oldest + 1), -1);
        }
        PictureBeats back = new PictureBeats();
        back.ticks(3);
        back.image(0);
        back.ticks(600);
        back.again(0);
        Due.equal("16: the image's three", back.signals(3), 4);
        Due.equal("16: not a fourth", back.signals(4), -1);
    }

    /** "NONE for another PERIOD or SHARE": SHARE 0 .. PERIOD, of each PERIOD 1 .. 10. */
    private static void sharesOfEachPeriod() {
        PictureBeats x = new PictureBeats();
        for (int period = 1; period <= 10; period++) {
            Due.equal("19: least(" + period + ", -1)", x.least(period, -1), -1);
            Due.equal("19: least(" + period + ", 0)", x.least(period, 0), 2);
            Due.equal("19: least(" + period + ", PERIOD)", x.least(period, period), 0);
            Due.equal("19: least(" + period + ", PERIOD + 1)", x.least(period, period + 1), -1);
        }
        int[] others = {0, 11, 16, -1, Integer.MIN_VALUE, Integer.MAX_VALUE};
        for (int period : others) {
            Due.equal("19: least(" + period + ", 0)", x.least(period, 0), -1);
        }
    }

    /** "or bounds are not 1 .. 200, the first not above the second" */
    private static void fitBoundsInOrder() {
        PictureBeats x = new PictureBeats();
        int[] places = {1, 2, 100, 200};
        for (int place : places) {
            Due.equal("20: h " + place + " alone", x.fit(1000, 10, place, place, 1, 1), place * 1000 + 1);
            Due.equal("20: v " + place + " alone", x.fit(1000, 10, 1, 1, place, place), 1000 + place);
            Due.equal("20: h from above", x.fit(1000, 10, place + 1, place, 1, 1), -1);
            Due.equal("20: v from above", x.fit(1000, 10, 1, 1, place + 1, place), -1);
        }
        Due.equal("20: h from 200 to 1", x.fit(1000, 10, 200, 1, 1, 1), -1);
        Due.equal("20: v from 200 to 1", x.fit(1000, 10, 1, 1, 200, 1), -1);
        Due.equal("20: the highest clock and rate", x.fit(1000000, 1000, 200, 200, 1, 200), 200005);
        Due.equal("20: the lowest clock and rate", x.fit(1, 1, 1, 200, 1, 200), 1001);
    }

    /** "Image k (0 .. 2) is all that is told, as it is now: true; false for another k." */
    private static void imagesOfEachBound() {
        int[] others = {-1, 3, Integer.MIN_VALUE, Integer.MAX_VALUE};
        PictureBeats x = new PictureBeats();
        for (int k : others) {
            Due.no("21: image(" + k + ")", x.image(k));
            Due.no("22: again(" + k + ")", x.again(k));
        }
        for (int k = 0; k < 3; k++) {
            Due.no("22: again(" + k + ") ahead of an image", x.again(k));
            Due.yes("21: image(" + k + ")", x.image(k));
            Due.yes("22: again(" + k + ")", x.again(k));
        }
        for (int k : others) {
            Due.no("22: again(" + k + ") with all images", x.again(k));
        }
    }

    /** "all that is told, as it is now", of an object to which nothing has been told yet. */
    private static void imageOfNothing() {
        PictureBeats x = new PictureBeats();
        x.image(0);
        fill(x);
        x.ticks(1500);
        Due.yes("22: again", x.again(0));
        PictureBeats twin = new PictureBeats();
        twin.image(0);
        Due.same("22: a new object's image", Scenes.story(x), Scenes.story(twin));
    }

    /** The same sentence, of an object with a full LIST, a full QUEUE and all SPRITES, in each tick of a line. */
    private static void imageOfAllThatIsFull() {
        for (int tick = 0; tick < 67; tick++) {
            PictureBeats x = imageOfFull(tick);
            x.clear();
            x.four(0, 0);
            x.depth(1);
            x.readers(1, 0);
            x.line(8, 1, 1, 1);
            x.field(1, 1, 1, 1, false);
            for (int k = 0; k < 8; k++) {
                x.entry(60, 100 + k, 2, k);
                x.entry(61, 100 + k, 2, k);
                x.sprite(k, 0, 0, 0);
                x.bits(k, true, 0);
            }
            x.ticks(3900);
            x.readers(1, 1);
            x.ticks(100);
            Due.yes("22: again", x.again(0));
            Due.same("22: a full object's image, tick " + tick, Scenes.story(x), Scenes.story(imageOfFull(tick)));
        }
    }

    /** The same sentence: a SPRITE's place and height are the image's, also for the call that moves it on. */
    private static void spriteOfAnImageMoves() {
        PictureBeats x = new PictureBeats();
        x.sprite(2, 0, 10, 8);
        x.image(0);
        x.sprite(2, 0, 30, 1);
        x.again(0);
        x.sprite(2, 0, 63, 1);
        for (int row = 0; row < 64; row++) {
            Due.equal("22: the SPRITE in ROW " + row, x.row(row, 2), row == 63 ? 4 : 0);
        }
    }

    private static PictureBeats imageOfFull(int tick) {
        PictureBeats x = new PictureBeats();
        fill(x);
        x.ticks(TO_FIELD + 34 * 67 + 60 + tick);
        x.image(0);
        return x;
    }

    /** THE LIST, DEPTH and SPRITES at their most, in lines of 64 SEEN ticks of an INTERLACED MODE. */
    private static void fill(PictureBeats x) {
        x.line(64, 1, 1, 1);
        x.field(32, 1, 1, 1, true);
        x.depth(8);
        x.readers(16, 0x8001);
        for (int k = 0; k < 8; k++) {
            x.four(4 * k, 0x9A3C5F17 * (k + 1));
            x.entry(k, 5 * k, 3, 100 + k);
            x.entry(2 * k, 64, 4, 200 + k);
            x.sprite(k, 7 * k - 8, k / 2, 8);
            x.bits(k, k % 2 == 0, 0x81C3A599 * (k + 1));
        }
    }

    /** "(other images stay)", and image k itself stays too. */
    private static void otherImagesStay() {
        for (int k = 0; k < 3; k++) {
            PictureBeats x = new PictureBeats();
            for (int image = 0; image < 3; image++) {
                x.register(4, 10 + image);
                x.ticks(image + 1);
                x.image(image);
            }
            int[] ticks = {1, 3, 6};
            Due.yes("22: again(" + k + ")", x.again(k));
            Due.equal("22: as image " + k, x.value(4), 10 + k);
            x.register(4, 99);
            x.ticks(50);
            for (int image = 2; image >= 0; image--) {
                Due.yes("22: image " + image + " behind again(" + k + ")", x.again(image));
                Due.equal("22: its PAPER", x.value(4), 10 + image);
                Due.equal("22: its TICKS", x.ticks(1), ticks[image] + 1);
            }
            x.image(k);
            for (int image = 0; image < 3; image++) {
                x.again(image);
                Due.equal("22: PAPER behind a new image " + k, x.value(4), image == k ? 10 : 10 + image);
                Due.equal("22: TICKS behind a new image " + k, x.ticks(1), image == k ? 3 : ticks[image] + 1);
            }
        }
    }

    /** "false if there is none such": nothing is changed then. */
    private static void noneSuchImage() {
        PictureBeats x = Scenes.busy();
        int[] others = {0, 2, 3, -1, Integer.MIN_VALUE, Integer.MAX_VALUE};
        for (int k : others) {
            Due.no("22: again(" + k + ")", x.again(k));
        }
        Due.same("22: the object behind them", Scenes.story(x), Scenes.story(Scenes.busy()));
        PictureBeats back = Scenes.busy();
        Due.yes("22: image 1", back.again(1));
        Due.no("22: still no image 0", back.again(0));
        Due.no("22: still no image 2", back.again(2));
    }
}
