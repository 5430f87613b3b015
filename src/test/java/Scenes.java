/** Objects that tests begin with, and all that can be seen of one. */
final class Scenes {
    /** Ticks from a new object's first one to the first tick of the next FIELD. */
    static final int TO_FIELD = 8;

    private Scenes() {
    }

    /** A new object with these ticks of a line, at the first tick of the first FIELD that has them. */
    static PictureBeats atFieldOf(int seen, int front, int sync, int back) {
        PictureBeats x = new PictureBeats();
        Due.yes("line told", x.line(seen, front, sync, back));
        Due.equal("ticks to the FIELD", x.ticks(TO_FIELD), TO_FIELD);
        return x;
    }

    /** An object in mid-line of FIELD 1 in which nothing is as at first; it has image 1 alone, of earlier ticks. */
    static PictureBeats busy() {
        PictureBeats x = new PictureBeats();
        x.line(20, 2, 3, 4);
        x.field(3, 1, 1, 1, true);
        x.four(1020, 0xA5C3F00F);
        x.four(0, 0x9669AA55);
        x.four(8, 0x12345678);
        int[] registers = {1021, 5, 3, 30, 40};
        for (int register = 0; register < registers.length; register++) {
            x.register(register, registers[register]);
        }
        x.entry(1, 4, 4, 22);
        x.entry(2, 20, 3, 33);
        x.readers(7, 0x12);
        x.depth(3);
        for (int sprite = 0; sprite < 8; sprite += 2) {
            x.sprite(sprite, 3 * sprite - 2, sprite / 2, 3);
            x.bits(sprite, true, 0x99A5C381);
        }
        x.ticks(TO_FIELD + 40);
        x.image(1);
        x.ticks(174 + 21);
        x.line(24, 3, 3, 3);
        x.field(2, 1, 2, 1, true);
        return x;
    }

    /** All that can be seen of an object now and later on, in some 420 calls. */
    static String story(PictureBeats x) {
        StringBuilder text = new StringBuilder();
        for (int row = 0; row < 64; row++) {
            text.append(x.row(row, 2)).append(' ');
        }
        text.append(x.least(1, 0)).append(' ').append(x.least(5, 3)).append(' ');
        int[] steps = {1, 30, 140, 180};
        for (int step : steps) {
            lookAround(x, text);
            text.append(x.ticks(step)).append(' ');
        }
        text.append(x.entry(0, 0, 3, 3)).append(' ');
        int[] images = {0, 2, 1};
        for (int k : images) {
            text.append(x.again(k)).append(' ');
        }
        lookAround(x, text);
        return text.toString();
    }

    private static void lookAround(PictureBeats x, StringBuilder text) {
        for (int what = 0; what < 12; what++) {
            text.append(x.now(what)).append(' ');
        }
        for (int register = 0; register < 5; register++) {
            text.append(x.value(register)).append(' ');
        }
        for (int ago = 1; ago < 120; ago *= 3) {
            text.append(x.signals(ago)).append(' ');
        }
        for (int row = 0; row < 6; row++) {
            for (int at = row % 2; at < 24; at += 3) {
                text.append(x.shown(at, row)).append(' ');
            }
        }
        text.append('\n');
    }
}
