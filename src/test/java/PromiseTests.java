/** Each promise of the document by hand: ordinary inputs, the edges that it names, wrong inputs. */
public final class PromiseTests {
    private static final int TO_FIELD = Scenes.TO_FIELD;

    private PromiseTests() {
    }

    public static void main(String[] args) {
        newObject();
        line();
        field();
        fieldsInTurn();
        modeTakenUp();
        put();
        four();
        register();
        registersInFetching();
        entry();
        entriesInOrder();
        clear();
        readers();
        depth();
        sprite();
        bits();
        spritesAboveEachOther();
        ticks();
        ticksInAll();
        fetching();
        scroll();
        unders();
        shown();
        now();
        signals();
        value();
        row();
        least();
        leastOfMode();
        fit();
        image();
        imageOfAll();
        Due.end();
    }

    private static void newObject() {
        PictureBeats x = new PictureBeats();
        Due.now("1", x, 16, 10, 0, 4, 24, 11, 0, 0, 0, 0, 0, 0);
        int[] registers = {0, 8, 0, 1, 0};
        for (int register = 0; register < 5; register++) {
            Due.equal("1: value(" + register + ")", x.value(register), registers[register]);
        }
        Due.equal("1: no SIGNALS", x.signals(1), PictureBeats.NONE);
        Due.equal("1: shown first", x.shown(0, 0), -1);
        Due.equal("1: shown last", x.shown(63, 63), -1);
        for (int k = 0; k < 3; k++) {
            Due.no("1: no image " + k, x.again(k));
        }
        for (int row = 0; row < 64; row += 9) {
            Due.equal("1: no SPRITES in ROW " + row, x.row(row, 1), 0);
        }
        Due.equal("1: an empty LIST", x.entry(0, 0, 0, 0), 1);
        x.ticks(TO_FIELD + 16);
        Due.shown("1: MEMORY is 0, PAPER 0", x, 0, 0, 0, 0, 0, 0, 0, 0, 0, 0, 0, 0, 0, 0, 0, 0, 0, -1);
        Due.equal("NONE", PictureBeats.NONE, -1);
    }

    private static void line() {
        PictureBeats x = new PictureBeats();
        Due.yes("2: the shortest", x.line(8, 1, 1, 1));
        Due.yes("2: the longest", x.line(64, 32, 32, 32));
        int[][] wrong = {{7, 1, 1, 1}, {65, 1, 1, 1}, {8, 0, 1, 1}, {8, 33, 1, 1}, {8, 1, 0, 1}, {8, 1, 33, 1}, {8, 1, 1, 0},
            {8, 1, 1, 33}, {-8, 1, 1, 1}, {Integer.MIN_VALUE, 1, 1, 1}, {8, Integer.MAX_VALUE, 1, 1}};
        for (int[] w : wrong) {
            Due.no("2: line(" + w[0] + ", " + w[1] + ", " + w[2] + ", " + w[3] + ")", x.line(w[0], w[1], w[2], w[3]));
        }
        Due.equal("2: only told yet", x.now(4), 24);
        x.ticks(TO_FIELD - 1);
        Due.equal("2: not ahead of the FIELD", x.now(4), 24);
        x.ticks(1);
        Due.now("2: the longest holds", x, 0, 0, 0, 0, 160, 11);
        PictureBeats short11 = Scenes.atFieldOf(8, 1, 1, 1);
        Due.now("2: the shortest holds", short11, 0, 0, 0, 0, 11, 11);
        short11.ticks(11);
        Due.now("2: a line of 11", short11, 0, 1);
        short11.ticks(10);
        Due.now("2: ahead of a line's end", short11, 10, 1);
    }

    private static void field() {
        PictureBeats x = new PictureBeats();
        Due.yes("3: the shortest", x.field(1, 1, 1, 1, true));
        Due.yes("3: the longest", x.field(32, 8, 8, 8, false));
        int[][] wrong = {{0, 1, 1, 1}, {33, 1, 1, 1}, {1, 0, 1, 1}, {1, 9, 1, 1}, {1, 1, 0, 1}, {1, 1, 9, 1}, {1, 1, 1, 0},
            {1, 1, 1, 9}, {-1, 1, 1, 1}, {Integer.MIN_VALUE, 1, 1, 1}, {1, 1, Integer.MAX_VALUE, 1}};
        for (int[] w : wrong) {
            Due.no("3: field(" + w[0] + ", " + w[1] + ", " + w[2] + ", " + w[3] + ")", x.field(w[0], w[1], w[2], w[3], true));
        }
        x.ticks(TO_FIELD);
        Due.now("3: the longest holds", x, 0, 0, 0, 0, 24, 56);
        Due.equal("3: its last tick", x.ticks(56 * 24 - 1), TO_FIELD + 56 * 24 - 1);
        Due.now("3: its last tick", x, 23, 55, 0, 4);
        x.ticks(1);
        Due.now("3: not INTERLACED, FIELD 0 again", x, 0, 0, 0, 0);

        PictureBeats y = new PictureBeats();
        y.field(1, 1, 1, 1, false);
        y.ticks(TO_FIELD);
        Due.equal("3: the shortest holds", y.now(5), 4);
        y.ticks(24 * 4);
        Due.now("3: four lines", y, 0, 0);
    }

    private static void fieldsInTurn() {
        PictureBeats x = new PictureBeats();
        x.field(2, 1, 1, 1, true);
        int[] fields = {0, 1, 0, 1};
        x.ticks(TO_FIELD);
        for (int field : fields) {
            Due.equal("3: FIELDS in turn", x.now(2), field);
            x.ticks(5 * 24);
        }
        x.register(4, 9);
        x.ticks(24 + 24);
        Due.shown("3: FIELD 0 has ROW 0", x, 0, 9);
        Due.shown("3: FIELD 0 has ROW 2", x, 2, 9);
        Due.shown("3: ROW 1 is of FIELD 1", x, 1, 0);
        Due.equal("3: no DOT in ROW 4", x.shown(0, 4), -1);
        x.register(4, 7);
        x.ticks(3 * 24 + 2 * 24);
        Due.shown("3: FIELD 1 has ROW 1", x, 1, 7);
        Due.shown("3: FIELD 1 has ROW 3", x, 3, 7);
        Due.shown("3: ROW 0 stays", x, 0, 9);
        x.field(2, 1, 1, 1, false);
        x.ticks(3 * 24);
        Due.now("3: FIELD 0 behind FIELD 1", x, 0, 0, 0);
        x.field(2, 1, 1, 1, true);
        x.ticks(5 * 24);
        Due.equal("3: FIELD 0 behind a MODE not INTERLACED", x.now(2), 0);
        x.field(2, 1, 1, 1, false);
        x.ticks(5 * 24);
        Due.equal("3: FIELD 0 in a MODE not INTERLACED", x.now(2), 0);
    }

    /** The MODE told by the tick behind the last SEEN one of the last line is taken up, one told later is not. */
    private static void modeTakenUp() {
        PictureBeats x = new PictureBeats();
        x.ticks(1);
        x.line(32, 1, 1, 1);
        x.field(3, 1, 1, 1, true);
        x.ticks(TO_FIELD - 1);
        Due.now("2: told too late for this FIELD", x, 0, 0, 0, 0, 24, 11);
        x.ticks(11 * 24 - 8);
        Due.now("2: at the tick that takes up", x, 16, 10, 0, 4, 24, 11);
        x.ticks(1);
        x.line(8, 1, 1, 1);
        Due.now("2: the old MODE holds on", x, 17, 10, 0, 4, 24, 11);
        x.ticks(7);
        Due.now("2: the MODE taken up holds", x, 0, 0, 0, 0, 35, 6, 2);
        x.ticks(32);
        Due.equal("2: bytes of the new MODE's line (5)", x.now(10), 8 * 3 + 5);
    }

    private static void put() {
        PictureBeats x = new PictureBeats();
        Due.yes("4: first place", x.put(0, 0x180));
        Due.yes("4: last place", x.put(1023, -1));
        Due.yes("4: the lowest 8 bits", x.put(1, 0xFFFFFF00));
        Due.no("4: put(-1)", x.put(-1, 1));
        Due.no("4: put(1024)", x.put(1024, 1));
        Due.no("4: put(lowest)", x.put(Integer.MIN_VALUE, 1));
        Due.no("4: put(highest)", x.put(Integer.MAX_VALUE, 1));
        x.ticks(TO_FIELD + 16);
        Due.shown("4: bits of 80 00", x, 0, 1, 0, 0, 0, 0, 0, 0, 0, 0, 0, 0, 0, 0, 0, 0, 0);
        x.register(0, 1023);
        x.register(1, 0);
        x.ticks(24);
        Due.shown("4: bits of FF 80", x, 1, 1, 1, 1, 1, 1, 1, 1, 1, 1, 0, 0, 0, 0, 0, 0, 0);
    }

    private static void four() {
        PictureBeats x = new PictureBeats();
        x.put(2, 0xF0);
        x.put(1021, 0x0F);
        Due.yes("5: four(1022)", x.four(1022, 0x80FF0102));
        Due.no("5: four(-1)", x.four(-1, 0));
        Due.no("5: four(1024)", x.four(1024, 0));
        Due.no("5: four(lowest)", x.four(Integer.MIN_VALUE, 0));
        x.ticks(TO_FIELD + 16);
        Due.shown("5: the last two bytes are at 0 and 1", x, 0, 0, 0, 0, 0, 0, 0, 0, 1, 0, 0, 0, 0, 0, 0, 1, 0);
        x.register(0, 1022 - 8);
        x.ticks(24);
        Due.shown("5: the first two at 1022 and 1023", x, 1, 1, 0, 0, 0, 0, 0, 0, 0, 1, 1, 1, 1, 1, 1, 1, 1);
        x.register(0, 1021 - 16);
        x.ticks(24);
        Due.shown("5: the byte ahead stays", x, 2, 0, 0, 0, 0, 1, 1, 1, 1, 1, 0);
        x.register(0, 1);
        x.register(1, 0);
        x.ticks(24);
        Due.shown("5: the byte behind stays", x, 3, 0, 0, 0, 0, 0, 0, 1, 0, 1, 1, 1, 1, 0, 0, 0, 0);
        Due.yes("5: last place", x.four(1023, 0));
    }

    private static void register() {
        PictureBeats x = new PictureBeats();
        int[] highest = {1023, 64, 7, 255, 255};
        for (int register = 0; register < 5; register++) {
            String name = "6: register " + register;
            Due.yes(name + " highest", x.register(register, highest[register]));
            Due.equal(name + " value", x.value(register), highest[register]);
            Due.no(name + " above", x.register(register, highest[register] + 1));
            Due.no(name + " below", x.register(register, -1));
            Due.equal(name + " stays", x.value(register), highest[register]);
            Due.yes(name + " lowest", x.register(register, 0));
            Due.equal(name + " lowest value", x.value(register), 0);
        }
        Due.no("6: register(-1)", x.register(-1, 0));
        Due.no("6: register(5)", x.register(5, 0));
        Due.no("6: register(highest)", x.register(Integer.MAX_VALUE, 0));
        Due.no("6: register(lowest)", x.register(Integer.MIN_VALUE, 0));
    }

    /** BASE and STRIDE count as they are in the tick that fetches, INK and PAPER as in the DOT's tick. */
    private static void registersInFetching() {
        PictureBeats x = new PictureBeats();
        x.four(0, 0x00000000);
        x.four(100, 0xFFFFFFFF);
        x.ticks(1);
        x.register(0, 100);
        x.ticks(TO_FIELD - 1 + 8);
        x.register(3, 200);
        x.ticks(8);
        Due.shown("6: byte 0 from 0, byte 1 from 101", x, 0, 0, 0, 0, 0, 0, 0, 0, 0, 200, 200);
        x.register(0, 98);
        x.register(1, 2);
        x.ticks(24);
        Due.shown("6: BASE and STRIDE times ROW", x, 1, 200, 200);
        x.register(1, 1);
        x.ticks(24);
        Due.shown("6: 98 and 2", x, 2, 200);
        x.register(0, 1023);
        x.register(1, 64);
        x.put((1023 + 64 * 3) % 1024, 0xA0);
        x.ticks(24);
        Due.shown("6: by 1024", x, 3, 200, 0, 200, 0);
    }

    private static void entry() {
        PictureBeats x = new PictureBeats();
        Due.equal("7: Y -1", x.entry(-1, 0, 0, 0), -1);
        Due.equal("7: Y 64", x.entry(64, 0, 0, 0), -1);
        Due.equal("7: X -1", x.entry(0, -1, 0, 0), -1);
        Due.equal("7: X 160", x.entry(0, 160, 0, 0), -1);
        Due.equal("7: register -1", x.entry(0, 0, -1, 0), -1);
        Due.equal("7: register 5", x.entry(0, 0, 5, 0), -1);
        int[] above = {1024, 65, 8, 256, 256};
        for (int register = 0; register < 5; register++) {
            Due.equal("7: value above", x.entry(0, 0, register, above[register]), -1);
            Due.equal("7: value below", x.entry(0, 0, register, -1), -1);
        }
        Due.equal("7: the first", x.entry(63, 159, 0, 1023), 1);
        for (int k = 2; k <= 16; k++) {
            Due.equal("7: entry " + k, x.entry(0, k, 1, 64), k);
        }
        Due.equal("7: there are 16", x.entry(0, 0, 0, 0), -1);
        Due.equal("7: there are 16 still", x.entry(0, 0, 0, 0), -1);
    }

    private static void entriesInOrder() {
        PictureBeats x = new PictureBeats();
        x.entry(10, 16, 3, 33);
        x.entry(0, 2, 4, 20);
        x.entry(0, 2, 4, 21);
        x.entry(1, 2, 4, 22);
        x.entry(0, 0, 2, 4);
        x.entry(0, 3, 3, 44);
        x.put(0, 0x0B);
        x.ticks(1);
        Due.equal("7: at once in the first tick", x.value(3), 33);
        x.ticks(TO_FIELD - 1);
        Due.equal("7: not ahead of its tick", x.value(2), 0);
        x.ticks(3);
        Due.equal("7: the later entry counts", x.value(4), 21);
        Due.equal("7: SCROLL of the same tick", x.now(7), 1);
        x.ticks(13);
        Due.shown("7: changed ahead of the DOT", x, 0, 33, 0, 33, 44, 21, 21);
        x.ticks(8 + 3);
        Due.equal("7: the next line's", x.value(4), 22);
        x.ticks(11 * 24);
        Due.equal("7: each FIELD anew", x.value(4), 22);
        x.register(4, 1);
        x.ticks(10 * 24);
        Due.equal("7: again at 0, 2", x.value(4), 21);

        PictureBeats edge = Scenes.atFieldOf(8, 1, 1, 1);
        edge.entry(0, 11, 4, 5);
        edge.entry(11, 0, 4, 6);
        edge.entry(10, 10, 3, 7);
        edge.ticks(2 * 11 * 11);
        Due.equal("7: no such tick in this MODE", edge.value(4), 0);
        Due.equal("7: the last tick of a FIELD", edge.value(3), 7);
    }

    private static void clear() {
        PictureBeats x = new PictureBeats();
        for (int k = 0; k < 16; k++) {
            x.entry(0, k, 4, 100 + k);
        }
        x.clear();
        x.ticks(TO_FIELD + 24);
        Due.equal("8: no entry works", x.value(4), 0);
        Due.equal("8: the first again", x.entry(1, 1, 4, 3), 1);
        x.ticks(24);
        Due.equal("8: a new entry works", x.value(4), 3);
        x.clear();
        x.clear();
        Due.equal("8: cleared twice", x.entry(0, 0, 0, 0), 1);
    }

    private static void readers() {
        PictureBeats x = new PictureBeats();
        Due.no("9: PERIOD 0", x.readers(0, -1));
        Due.no("9: PERIOD 17", x.readers(17, -1));
        Due.no("9: PERIOD -1", x.readers(-1, -1));
        Due.no("9: PERIOD lowest", x.readers(Integer.MIN_VALUE, -1));
        Due.equal("9: nothing changed", x.now(11), 0);
        Due.yes("9: bits from PERIOD on", x.readers(3, ~2));
        int[] taken = {1, 0, 1, 1, 0, 1, 1, 0};
        int[] queued = {0, 1, 1, 1, 2, 2, 2, 2};
        for (int k = 0; k < 8; k++) {
            Due.equal("9: taken " + k, x.now(11), taken[k]);
            x.ticks(1);
            Due.equal("9: bytes behind tick " + k, x.now(6), queued[k]);
        }
        Due.yes("9: PERIOD 16", x.readers(16, 1 << 15));
        for (int k = 8; k < 33; k++) {
            Due.equal("9: by 16, tick " + k, x.now(11), k % 16 == 15 ? 1 : 0);
            x.ticks(1);
        }
        Due.yes("9: PERIOD 1", x.readers(1, -2));
        Due.equal("9: bit 0 alone counts", x.now(11), 0);
        Due.yes("9: PERIOD 1, all", x.readers(1, 1));
        Due.equal("9: all are taken", x.now(11), 1);
    }

    private static void depth() {
        PictureBeats x = new PictureBeats();
        Due.no("10: 0", x.depth(0));
        Due.no("10: 9", x.depth(9));
        Due.no("10: -1", x.depth(-1));
        Due.no("10: highest", x.depth(Integer.MAX_VALUE));
        x.ticks(TO_FIELD);
        Due.equal("10: 2 at first", x.now(6), 2);
        PictureBeats y = new PictureBeats();
        y.line(64, 8, 8, 8);
        Due.yes("10: 8", y.depth(8));
        y.ticks(TO_FIELD + 64 + 24);
        Due.equal("10: eight bytes", y.now(6), 8);
        Due.yes("10: 1", y.depth(1));
        Due.equal("10: what is in the QUEUE stays", y.now(6), 8);
        int fetched = y.now(10);
        y.ticks(49);
        Due.equal("10: seven taken, none fetched", y.now(6), 1);
        Due.equal("10: none fetched", y.now(10), fetched);
        y.ticks(8);
        Due.equal("10: the last one is taken at 56", y.now(6), 0);
        y.ticks(1);
        Due.equal("10: one fetched when there is room", y.now(6), 1);
        Due.equal("10: one more fetched", y.now(10), fetched + 1);
    }

    private static void sprite() {
        PictureBeats x = new PictureBeats();
        Due.yes("11: edges", x.sprite(0, -8, 0, 0));
        Due.yes("11: other edges", x.sprite(7, 63, 63, 8));
        int[][] wrong = {{-1, 0, 0, 1}, {8, 0, 0, 1}, {0, -9, 0, 1}, {0, 64, 0, 1}, {0, 0, -1, 1}, {0, 0, 64, 1}, {0, 0, 0, -1},
            {0, 0, 0, 9}, {Integer.MIN_VALUE, 0, 0, 1}, {0, Integer.MAX_VALUE, 0, 1}, {0, 0, Integer.MIN_VALUE, 1}};
        for (int[] w : wrong) {
            Due.no("11: sprite(" + w[0] + ", " + w[1] + ", " + w[2] + ", " + w[3] + ")", x.sprite(w[0], w[1], w[2], w[3]));
        }
        Due.equal("11: height 0 is none", x.row(0, 1), 0);
        Due.equal("11: at the last ROW", x.row(63, 2), 128);
        Due.equal("11: above it", x.row(62, 2), 0);
        x.sprite(7, 0, 10, 2);
        Due.equal("11: gone from the old place", x.row(63, 2), 0);
        Due.equal("11: ahead of the new one", x.row(9, 2), 0);
        Due.equal("11: first row", x.row(10, 2), 128);
        Due.equal("11: last row", x.row(11, 2), 128);
        Due.equal("11: behind it", x.row(12, 2), 0);
        x.sprite(7, 0, 11, 8);
        Due.equal("11: moved over itself, left", x.row(10, 2), 0);
        Due.equal("11: moved over itself", x.row(11, 2), 128);
        Due.equal("11: its last", x.row(18, 2), 128);
        x.sprite(7, 0, 11, 0);
        Due.equal("11: none", x.row(11, 2), 0);

        PictureBeats y = new PictureBeats();
        y.bits(1, true, 0x81000000);
        y.bits(2, true, 0x03000000);
        y.sprite(1, 14, 0, 1);
        y.sprite(2, -7, 0, 1);
        y.ticks(TO_FIELD + 16);
        Due.shown("11: over both edges", y, 0, 258, 0, 0, 0, 0, 0, 0, 0, 0, 0, 0, 0, 0, 0, 257, 0, -1);
        y.sprite(2, -8, 1, 1);
        y.ticks(24);
        Due.shown("11: at -8 nothing is to be seen", y, 1, 0, 0);
        wideSprite();
        y.sprite(0, 1, 2, 1);
        y.bits(0, true, 0xFF000000);
        y.ticks(24);
        Due.shown("11: SPRITE 0 shows, eight wide", y, 2, 0, 256, 256, 256, 256, 256, 256, 256, 256, 0, 0);
    }

    private static void wideSprite() {
        PictureBeats x = new PictureBeats();
        x.line(64, 1, 1, 1);
        x.sprite(6, 40, 0, 8);
        x.bits(6, true, -1);
        x.ticks(TO_FIELD + 64);
        for (int at = 0; at < 64; at++) {
            Due.equal("11: shown(" + at + ", 0)", x.shown(at, 0), at >= 40 && at < 48 ? 262 : 0);
        }
    }

    private static void bits() {
        PictureBeats x = new PictureBeats();
        Due.no("12: SPRITE -1", x.bits(-1, true, 1));
        Due.no("12: SPRITE 8", x.bits(8, false, 1));
        Due.no("12: SPRITE lowest", x.bits(Integer.MIN_VALUE, false, 1));
        Due.yes("12: SPRITE 7 low", x.bits(7, true, 0x80402010));
        Due.yes("12: SPRITE 7 high", x.bits(7, false, 0x08040281));
        Due.yes("12: SPRITE 0", x.bits(0, true, -1));
        x.sprite(7, 1, 0, 8);
        x.ticks(TO_FIELD + 8 * 24);
        for (int row = 0; row < 8; row++) {
            for (int at = 0; at < 10; at++) {
                boolean drawn = at - 1 == row || row == 7 && at == 1;
                Due.equal("12: shown(" + at + ", " + row + ")", x.shown(at, row), drawn ? 263 : 0);
            }
        }
    }

    private static void spritesAboveEachOther() {
        PictureBeats x = new PictureBeats();
        for (int sprite = 1; sprite < 6; sprite++) {
            x.sprite(sprite, 2 * sprite, 0, 1);
            x.bits(sprite, true, 0xF0000000);
        }
        x.put(0, 0xFF);
        x.ticks(TO_FIELD + 9);
        Due.equal("12: a bit is taken under a SPRITE too", x.now(7), 7);
        x.ticks(7);
        Due.shown("11: the first one shows, three in a ROW", x, 0, 1, 1, 257, 257, 257, 257, 258, 258, 259, 259, 0, 0, 0);
        x.sprite(1, -8, 1, 8);
        x.sprite(2, -8, 1, 8);
        x.sprite(3, -8, 1, 8);
        x.sprite(4, 3, 1, 1);
        x.ticks(24);
        Due.shown("11: unseen ones count for the three", x, 1, 0, 0, 0, 0, 0);
        x.sprite(2, 0, 2, 0);
        x.sprite(4, 3, 2, 1);
        x.ticks(24);
        Due.shown("11: a height of 0 does not", x, 2, 0, 0, 0, 260, 260, 260, 260, 0);
        x.readers(1, 1);
        x.sprite(4, 3, 3, 1);
        int unders = x.now(8);
        x.ticks(24);
        Due.shown("13: an UNDER under a SPRITE", x, 3, 512, 512, 512, 260, 260, 260, 260, 512);
        Due.equal("13: it counts", x.now(8), unders + 16);
    }

    private static void ticks() {
        PictureBeats x = new PictureBeats();
        Due.equal("13: 0", x.ticks(0), -1);
        Due.equal("13: -1", x.ticks(-1), -1);
        Due.equal("13: 4001", x.ticks(4001), -1);
        Due.equal("13: lowest", x.ticks(Integer.MIN_VALUE), -1);
        Due.equal("13: highest", x.ticks(Integer.MAX_VALUE), -1);
        Due.now("13: nothing happened", x, 16, 10);
        Due.equal("13: 1", x.ticks(1), 1);
        Due.equal("13: 4000", x.ticks(4000), 4001);
        Due.equal("13: one by one", x.ticks(2), 4003);
        int on = (4003 - TO_FIELD) % (11 * 24);
        Due.now("13: there it is", x, on % 24, on / 24);
    }

    private static void ticksInAll() {
        PictureBeats x = new PictureBeats();
        for (int k = 0; k < 249; k++) {
            x.ticks(4000);
        }
        Due.equal("13: 999999", x.ticks(3999), 999999);
        Due.equal("13: 1000001 would be too many", x.ticks(2), -1);
        x.image(0);
        Due.equal("13: 1000000", x.ticks(1), 1000000);
        Due.equal("13: no more", x.ticks(1), -1);
        Due.equal("13: no more at all", x.ticks(4000), -1);
        int on = (1000000 - TO_FIELD) % (11 * 24);
        Due.now("13: at the end", x, on % 24, on / 24);
        x.again(0);
        Due.equal("13: as the image has it", x.ticks(1), 1000000);
    }

    /** How many bytes of which lines are fetched, and when the QUEUE and what is left are gone. */
    private static void fetching() {
        PictureBeats x = new PictureBeats();
        x.line(17, 2, 3, 3);
        x.depth(8);
        x.ticks(TO_FIELD);
        Due.equal("13: 17 SEEN, 4 bytes", x.now(6), 4);
        x.ticks(17);
        Due.now("13: ahead of the next line", x, 17, 0, 0, 4, 25, 11, 1, 7);
        x.ticks(1);
        Due.now("13: emptied, and one fetched", x, 18, 0, 0, 4, 25, 11, 1, 0);
        x.ticks(7 * 25 - 2);
        Due.now("13: the last SEEN line is at its end", x, 16, 7);
        Due.equal("13: bytes of eight lines", x.now(10), 8 * 4);
        x.ticks(2);
        Due.now("13: no bytes for a line not SEEN", x, 18, 7, 0, 4, 25, 11, 0, 0, 0, 8 * 17, 8 * 4);
        x.ticks(3 * 25 - 1);
        Due.now("13: none so far", x, 17, 10, 0, 4, 25, 11, 0, 0, 0, 8 * 17, 8 * 4);
        x.ticks(1);
        Due.equal("13: the next FIELD's first line", x.now(10), 8 * 4 + 1);
        PictureBeats y = Scenes.atFieldOf(16, 1, 1, 1);
        y.depth(8);
        y.ticks(16 + 19);
        Due.equal("13: 16 SEEN, 3 bytes", y.now(10) - 3, 3);
        PictureBeats z = Scenes.atFieldOf(15, 1, 1, 1);
        z.ticks(15);
        Due.equal("13: 15 SEEN, 3 bytes", z.now(10), 3);
        PictureBeats own = Scenes.atFieldOf(8, 1, 1, 1);
        own.put(8, 0x80);
        own.put(16, 0x40);
        own.ticks(8 + 11 + 11);
        Due.shown("13: each line has its own bytes", own, 1, 1, 0, 0);
        Due.shown("13: each line has its own bytes", own, 2, 0, 1, 0);
    }

    private static void scroll() {
        PictureBeats x = new PictureBeats();
        x.four(0, 0x01FE0200);
        x.register(2, 7);
        x.ticks(TO_FIELD + 1);
        Due.now("13: eight bits are gone", x, 1, 0, 0, 0, 24, 11, 1, 0, 0, 1);
        x.ticks(15);
        Due.shown("13: from bit 7 on", x, 0, 1, 1, 1, 1, 1, 1, 1, 1, 0, 0, 0, 0, 0, 0, 0, 1);
        Due.equal("13: the one byte more", x.now(7), 1);
        Due.equal("13: no UNDER", x.now(8), 0);
        x.four(8, 0x08000000);
        x.register(2, 4);
        x.ticks(24);
        Due.shown("13: from bit 4 on", x, 1, 1, 0, 0, 0);
        x.register(2, 0);
        x.put(16, 0x80);
        x.ticks(9);
        x.register(2, 5);
        x.ticks(15);
        Due.shown("13: SCROLL counts at X 0 alone", x, 2, 1, 0, 0, 0, 0, 0, 0, 0);
    }

    private static void unders() {
        PictureBeats x = new PictureBeats();
        x.readers(1, 1);
        x.register(2, 5);
        x.ticks(TO_FIELD + 1);
        Due.now("13: one UNDER of SCROLL, one of the DOT", x, 1, 0, 0, 0, 24, 11, 0, 0, 2, 1, 0, 1);
        x.ticks(2);
        x.four(0, 0xA0000000);
        x.readers(1, 0);
        x.ticks(1);
        Due.now("13: fetched and taken in one tick", x, 4, 0, 0, 0, 24, 11, 0, 7, 4, 4, 1, 0);
        x.readers(1, 1);
        x.ticks(12);
        Due.shown("13: UNDERS around a byte", x, 0, 512, 512, 512, 1, 0, 1, 0, 0, 0, 0, 0, 512, 512, 512, 512, 512, -1);
        Due.now("13: UNDERS of the line", x, 16, 0, 0, 4, 24, 11, 0, 0, 9, 16, 1, 1);
    }

    private static void shown() {
        PictureBeats x = new PictureBeats();
        int[][] wrong = {{-1, 0}, {64, 0}, {0, -1}, {0, 64}, {Integer.MIN_VALUE, 0}, {0, Integer.MAX_VALUE}};
        for (int[] w : wrong) {
            Due.equal("14: shown(" + w[0] + ", " + w[1] + ")", x.shown(w[0], w[1]), -2);
        }
        x.line(64, 1, 1, 1);
        x.field(32, 1, 1, 1, true);
        x.register(4, 255);
        x.ticks(TO_FIELD);
        x.ticks(67 * 35);
        Due.equal("14: FIELD 0, its last", x.shown(63, 62), 255);
        Due.equal("14: none in ROW 63 yet", x.shown(63, 63), -1);
        x.register(4, 254);
        x.ticks(67 * 32 - 4);
        Due.equal("14: not yet", x.shown(63, 63), -1);
        x.ticks(1);
        Due.equal("14: the last place", x.shown(63, 63), 254);
        Due.equal("14: FIELD 0 stays", x.shown(0, 0), 255);
        Due.equal("14: FIELD 1", x.shown(0, 1), 254);
        x.line(8, 1, 1, 1);
        x.field(1, 1, 1, 1, false);
        x.register(4, 3);
        x.ticks(67 * 3 + 3 + 8);
        Due.equal("14: the latest DOT", x.shown(7, 0), 3);
        Due.equal("14: outside the MODE it stays", x.shown(8, 0), 255);
    }

    private static void now() {
        PictureBeats x = new PictureBeats();
        Due.equal("15: -1", x.now(-1), -1);
        Due.equal("15: 12", x.now(12), -1);
        Due.equal("15: lowest", x.now(Integer.MIN_VALUE), -1);
        Due.equal("15: highest", x.now(Integer.MAX_VALUE), -1);
        x.field(2, 1, 1, 1, true);
        x.readers(2, 2);
        x.ticks(TO_FIELD + 5 * 24 + 24 + 5);
        Due.now("15: in FIELD 1", x, 5, 1, 1, 0, 24, 5, 2, 3, 0, 53, 12, 1);
    }

    private static void signals() {
        PictureBeats x = Scenes.atFieldOf(8, 2, 3, 4);
        x.field(1, 2, 1, 2, false);
        Due.equal("16: 0", x.signals(0), -1);
        Due.equal("16: -1", x.signals(-1), -1);
        Due.equal("16: 9 of 8", x.signals(9), -1);
        Due.equal("16: 8 of 8", x.signals(8), 4);
        x.ticks(17 * 11);
        int[] across = {0, 0, 0, 0, 0, 0, 0, 0, 4, 4, 5, 5, 5, 4, 4, 4, 4};
        x.ticks(17 * 6);
        for (int line = 0; line < 6; line++) {
            for (int at = 0; at < 17; at++) {
                int want = line == 0 ? across[at] : line == 3 ? across[at] | 6 : across[at] | 4;
                Due.equal("16: X " + at + ", Y " + line, x.signals(17 * 6 - line * 17 - at), want);
            }
        }
        Due.equal("16: of all", x.signals(8 + 17 * 17), 4);
        Due.equal("16: of more", x.signals(8 + 17 * 17 + 1), -1);
        x.ticks(512);
        Due.equal("16: 513", x.signals(513), -1);
        Due.equal("16: highest", x.signals(Integer.MAX_VALUE), -1);
        int ago = 512;
        int on = 0;
        while (ago > 0) {
            int want = on / 17 % 6 == 0 ? across[on % 17] : on / 17 % 6 == 3 ? across[on % 17] | 6 : across[on % 17] | 4;
            Due.equal("16: ago " + ago, x.signals(ago), want);
            ago -= 29;
            on += 29;
        }
    }

    private static void value() {
        PictureBeats x = new PictureBeats();
        Due.equal("17: -1", x.value(-1), -1);
        Due.equal("17: 5", x.value(5), -1);
        Due.equal("17: lowest", x.value(Integer.MIN_VALUE), -1);
        Due.equal("17: highest", x.value(Integer.MAX_VALUE), -1);
        for (int register = 0; register < 5; register++) {
            x.register(register, register + 2);
        }
        for (int register = 0; register < 5; register++) {
            Due.equal("17: of each its own", x.value(register), register + 2);
        }
    }

    private static void row() {
        PictureBeats x = new PictureBeats();
        int[][] wrong = {{-1, 0}, {64, 0}, {0, -1}, {0, 3}, {Integer.MIN_VALUE, 0}, {0, Integer.MAX_VALUE}};
        for (int[] w : wrong) {
            Due.equal("18: row(" + w[0] + ", " + w[1] + ")", x.row(w[0], w[1]), -1);
        }
        for (int sprite = 7; sprite >= 0; sprite--) {
            x.sprite(sprite, 0, sprite, 8);
        }
        for (int row = 0; row < 16; row++) {
            int all = 0;
            int which = 0;
            for (int sprite = 0; sprite < 8; sprite++) {
                if (row >= sprite && row < sprite + 8) {
                    all++;
                    which |= all <= 3 ? 1 << sprite : 0;
                }
            }
            Due.equal("18: left out of " + row, x.row(row, 0), Math.max(0, all - 3));
            Due.equal("18: how many of " + row, x.row(row, 1), Math.min(3, all));
            Due.equal("18: which of " + row, x.row(row, 2), which);
        }
        Due.equal("18: eight of them", x.row(7, 0), 5);
        Due.equal("18: the first three", x.row(7, 2), 7);
        x.sprite(1, 0, 0, 0);
        Due.equal("18: the next one comes in", x.row(7, 2), 13);
        Due.equal("18: one less left out", x.row(7, 0), 4);
    }

    private static void least() {
        PictureBeats x = new PictureBeats();
        int[][] wrong = {{0, 0}, {11, 0}, {-1, 0}, {3, 4}, {3, -1}, {10, 11}, {Integer.MIN_VALUE, 0}, {1, Integer.MAX_VALUE}};
        for (int[] w : wrong) {
            Due.equal("19: least(" + w[0] + ", " + w[1] + ")", x.least(w[0], w[1]), -1);
        }
        for (int period = 1; period <= 10; period++) {
            Due.equal("19: no readers, PERIOD " + period, x.least(period, 0), 2);
            Due.equal("19: all taken, PERIOD " + period, x.least(period, period), 0);
        }
        // Nine ticks up to the first byte's turn, eight from there to the next one.
        Due.equal("19: two free in nine", x.least(9, 7), 2);
        Due.equal("19: one free in nine may come too late for the second turn", x.least(9, 8), 0);
        Due.equal("19: one free in ten may come too late", x.least(10, 9), 0);
        Due.equal("19: two free in ten may do", x.least(10, 8), 1);
        Due.equal("19: one free in eight", x.least(8, 7), 1);
        Due.equal("19: one free in four", x.least(4, 3), 2);
        x.register(2, 7);
        x.readers(1, 1);
        Due.equal("19: neither SCROLL nor READERS count", x.least(4, 3), 2);
        x.depth(8);
        Due.equal("19: three bytes are all there are, the last turn has two", x.least(1, 0), 2);
        x.depth(1);
        Due.equal("19: DEPTH 1", x.least(1, 0), 1);
        Due.equal("19: nothing is changed", x.now(6), 0);
    }

    private static void leastOfMode() {
        PictureBeats x = new PictureBeats();
        x.line(64, 32, 32, 32);
        x.depth(8);
        Due.equal("19: the MODE told does not count", x.least(2, 0), 2);
        x.ticks(TO_FIELD - 1);
        Due.equal("19: nor the one taken up", x.least(2, 0), 2);
        x.ticks(1);
        Due.equal("19: the MODE that holds: two for the last turn", x.least(1, 0), 2);
        Due.equal("19: nine in ten taken: eight bytes at first", x.least(10, 9), 2);
        x.depth(1);
        Due.equal("19: one free in eight for each turn", x.least(8, 7), 1);
        Due.equal("19: a DEPTH of 1 keeps none ahead", x.least(9, 8), 0);
        PictureBeats tight = Scenes.atFieldOf(24, 1, 1, 1);
        // Four ticks up to the first turn: a taken stretch of four leaves nothing.
        Due.equal("19: four taken in a row", tight.least(8, 4), 0);
        Due.equal("19: three taken in a row", tight.least(8, 3), 1);
        Due.equal("19: the DEPTH reached", tight.least(2, 1), 2);
        Due.now("19: the object goes on as it was", tight, 0, 0, 0, 0, 27, 11, 2, 0, 0, 0, 2, 0);
    }

    private static void fit() {
        PictureBeats x = new PictureBeats();
        Due.equal("20: exact, least h", x.fit(1000, 10, 1, 200, 1, 200), 1100);
        Due.equal("20: not cut to a whole rate", x.fit(7, 2, 1, 3, 1, 3), 2002);
        Due.equal("20: one pair", x.fit(1, 1000, 200, 200, 200, 200), 200200);
        Due.equal("20: highest", x.fit(1000000, 1000, 1, 200, 1, 200), 5200);
        Due.equal("20: clock too fast", x.fit(1000000, 1, 1, 200, 1, 200), 200200);
        Due.equal("20: clock too slow", x.fit(1, 1000, 3, 200, 2, 200), 3002);
        // 12 / 2 = 6 and 12 / 6 = 2 both lie 2 from 4, 12 / 3 lies on it.
        Due.equal("20: alike, least h", x.fit(12, 4, 2, 6, 1, 1), 3001);
        Due.equal("20: alike on both sides, least v", x.fit(4, 3, 1, 1, 1, 2), 1001);
        Due.equal("20: alike on both sides, least h", x.fit(4, 3, 1, 2, 1, 1), 1001);
        int[][] wrong = {{0, 1, 1, 1, 1, 1}, {1000001, 1, 1, 1, 1, 1}, {1, 0, 1, 1, 1, 1}, {1, 1001, 1, 1, 1, 1},
            {1, 1, 0, 1, 1, 1}, {1, 1, 1, 201, 1, 1}, {1, 1, 2, 1, 1, 1}, {1, 1, 1, 1, 0, 1}, {1, 1, 1, 1, 1, 201},
            {1, 1, 1, 1, 2, 1}, {1, 1, 201, 201, 1, 1}, {1, 1, 1, 1, 201, 201}, {-1, 1, 1, 1, 1, 1}, {1, -1, 1, 1, 1, 1},
            {1, 1, 1, 0, 1, 1}, {Integer.MIN_VALUE, 1, 1, 1, 1, 1}, {1, 1, Integer.MIN_VALUE, 1, 1, 1}};
        for (int[] w : wrong) {
            Due.equal("20: fit(" + w[0] + ", " + w[1] + ", " + w[2] + ", " + w[3] + ", " + w[4] + ", " + w[5] + ")",
                x.fit(w[0], w[1], w[2], w[3], w[4], w[5]), -1);
        }
    }

    private static void image() {
        PictureBeats x = new PictureBeats();
        Due.no("21: -1", x.image(-1));
        Due.no("21: 3", x.image(3));
        Due.no("21: lowest", x.image(Integer.MIN_VALUE));
        Due.no("22: -1", x.again(-1));
        Due.no("22: 3", x.again(3));
        Due.no("22: highest", x.again(Integer.MAX_VALUE));
        Due.yes("21: 0", x.image(0));
        Due.no("22: none such yet", x.again(2));
        x.ticks(5);
        Due.yes("21: 2", x.image(2));
        x.ticks(5);
        Due.yes("22: 0", x.again(0));
        Due.equal("22: TICK 0 again", x.ticks(1), 1);
        Due.yes("22: 2 stays", x.again(2));
        Due.equal("22: TICK 5 again", x.ticks(1), 6);
        Due.yes("22: an image serves twice", x.again(2));
        Due.equal("22: TICK 5 once more", x.ticks(1), 6);
        Due.yes("21: 0 anew", x.image(0));
        x.ticks(9);
        Due.yes("22: the new 0", x.again(0));
        Due.equal("22: TICK 6", x.ticks(1), 7);
        Due.no("22: 1 never was", x.again(1));
    }

    /** Tells all that can be told, in one of two ways. */
    private static void tellAll(PictureBeats x, boolean other) {
        x.line(other ? 9 : 24, 3, 2, 1);
        x.field(other ? 1 : 3, 1, 2, 1, !other);
        x.four(0, other ? 0x12345678 : 0xA5C3F00F);
        x.four(24, other ? 0x0F0F0F0F : 0x33CC55AA);
        x.register(0, other ? 5 : 0);
        x.register(1, other ? 3 : 12);
        x.register(2, other ? 6 : 3);
        x.register(3, other ? 90 : 30);
        x.register(4, other ? 80 : 40);
        x.clear();
        x.entry(other ? 1 : 0, other ? 2 : 5, other ? 3 : 4, other ? 11 : 22);
        x.entry(other ? 2 : 1, other ? 9 : 3, other ? 0 : 3, other ? 33 : 44);
        if (other) {
            x.entry(0, 0, 1, 7);
        }
        x.readers(other ? 3 : 5, other ? 5 : 14);
        x.depth(other ? 1 : 3);
        x.sprite(1, other ? 0 : 4, other ? 5 : 1, other ? 1 : 3);
        x.bits(1, true, other ? 0x7E7E7E7E : 0x99999999);
    }

    private static long lookAtAll(PictureBeats x) {
        long seen = 17;
        for (int what = 0; what < 12; what++) {
            seen = seen * 31 + x.now(what);
        }
        for (int register = 0; register < 5; register++) {
            seen = seen * 31 + x.value(register);
        }
        for (int row = 0; row < 6; row++) {
            for (int at = 0; at < 24; at += 5) {
                seen = seen * 31 + x.shown(at, row);
            }
            seen = seen * 31 + x.row(row, 2);
        }
        for (int ago = 1; ago < 80; ago += 13) {
            seen = seen * 31 + x.signals(ago);
        }
        return seen * 31 + x.least(5, 2);
    }

    /** What an image had goes on just as it did the first time, whatever was told in between. */
    private static void imageOfAll() {
        // Through two FIELDS, so that images fall on every kind of tick of a line and of a FIELD.
        for (int start = 1; start < 2 * 7 * 30; start++) {
            PictureBeats x = new PictureBeats();
            tellAll(x, false);
            x.ticks(start);
            x.image(1);
            long atImage = lookAtAll(x);
            x.ticks(83);
            long later = lookAtAll(x);
            tellAll(x, true);
            x.ticks(211);
            x.readers(1, 1);
            x.ticks(200);
            x.again(1);
            Due.equal("22: as the image of tick " + start, lookAtAll(x), atImage);
            x.ticks(83);
            Due.equal("22: goes on as from tick " + start, lookAtAll(x), later);
            Due.equal("22: THE LIST has two", x.entry(0, 0, 0, 0), 3);
            x.sprite(1, 0, 60, 1);
            Due.equal("22: the SPRITE leaves the image's place", x.row(1, 2) + x.row(3, 2), 0);
            Due.equal("22: and nothing else", x.row(5, 2), 0);
        }
    }
}
