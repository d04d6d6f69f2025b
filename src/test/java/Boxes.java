/** Names of addresses and codes, and machines that tests begin with. */
final class Boxes {
    static final int BANKS = 3840;
    static final int MODE = 3841;
    static final int SCROLL = 3842;
    static final int BACKGROUND = 3843;
    static final int SCREEN = 3847;
    static final int LETTERS = 3848;
    static final int LINE = 3849;
    static final int FLAGS = 3850;
    static final int MASK = 3851;
    static final int LATCH_A = 3852;
    static final int LATCH_B = 3854;
    static final int TIMERS = 3856;
    static final int SPRITES_ON = 3857;
    static final int DOUBLED = 3858;
    static final int BEHIND = 3859;
    static final int SPRITE_X = 3860;
    static final int SPRITE_Y = 3864;
    static final int SPRITE_COLOUR = 3868;
    static final int HITS_OF_SPRITES = 3869;
    static final int HITS_OF_SOLID = 3870;
    static final int KEYS = 3871;
    static final int VOICES = 3872;
    static final int MOTOR = 3884;

    static final int A = 0;
    static final int X = 1;
    static final int Y = 2;
    static final int S = 3;
    static final int P = 4;

    static final int C = 1;
    static final int Z = 2;
    static final int I = 4;
    static final int D = 8;
    static final int V = 64;
    static final int N = 128;

    private static final String[] OPERATIONS = {
        "lda", "ldx", "ldy", "sta", "stx", "sty", "adc", "sbc", "and", "ora", "eor", "cmp", "cpx", "cpy", "inc", "dec",
        "lax", "sax", "dcp", "isc", "bit"};
    private static final String[] OTHERS = {
        "inx", "dex", "iny", "dey", "tax", "txa", "tay", "tya", "tsx", "txs", "pha", "pla", "php", "plp", "sec", "clc",
        "sed", "cld", "sei", "cli", "clv", "nop", "asl", "lsr", "rol", "ror", "brk", "rti", "rts", "jmp", "jsr", "jmi",
        "bne", "beq", "bcc", "bcs", "bpl", "bmi", "bvc", "bvs"};

    private Boxes() {
    }

    /** The code of a name; that of the mode 0 for an operation. */
    static int code(String name) {
        for (int i = 0; i < OPERATIONS.length; i++) {
            if (OPERATIONS[i].equals(name)) {
                return i < 16 ? 8 * i : 192 + 8 * (i - 16);
            }
        }
        for (int i = 0; i < OTHERS.length; i++) {
            if (OTHERS[i].equals(name)) {
                return 128 + i;
            }
        }
        if (name.equals("jam")) {
            return 255;
        }
        throw new IllegalArgumentException(name);
    }

    static void runTo(Rasterbox box, long cycle) {
        for (long left = cycle - box.cycle(); left > 0; left = cycle - box.cycle()) {
            box.run((int) Math.min(left, 1000));
        }
    }

    /** A machine whose processor does nothing any more; 2 cycles have passed. */
    static Rasterbox jammed() {
        Rasterbox box = new Rasterbox();
        box.poke(4000, code("jam"));
        box.setRegister(P, 4000);
        box.run(2);
        return box;
    }

    /** The same with no flag set, and with a cycle that is told. */
    static Rasterbox jammedAt(int cycle) {
        Rasterbox box = jammed();
        runTo(box, cycle);
        box.poke(FLAGS, 15);
        return box;
    }

    /** A machine in the mode 3, so that all cycles are of the processor; 4 have passed, in which one plp was done. */
    static Rasterbox ready(int p, int a, int x, int y, int flags) {
        Rasterbox box = new Rasterbox();
        box.poke(MODE, 3);
        box.poke(511, flags);
        box.setRegister(S, 254);
        box.poke(4090, code("plp"));
        box.setRegister(P, 4090);
        box.run(4);
        box.setRegister(A, a);
        box.setRegister(X, x);
        box.setRegister(Y, y);
        box.setRegister(P, p);
        return box;
    }

    /** The same at a later cycle (from 12 on, any), with no flag of the register 10 set. */
    static Rasterbox readyAt(int cycle, int p, int a, int x, int y, int flags) {
        Rasterbox box = ready(600, a, x, y, flags);
        box.poke(600, code("nop"));
        box.assemble(601, code("jmp"), 600);
        // A turn of this loop takes 5 cycles, a nop alone 2, so that together they come to any cycle.
        int left = cycle - 4;
        int nops = left % 5 % 2 == 0 ? left % 5 / 2 : (left % 5 + 5) / 2;
        if (left > 2 * nops) {
            box.run(left - 2 * nops);
        }
        for (int i = 0; i < nops; i++) {
            box.run(2);
            box.setRegister(P, 600);
        }
        box.setRegister(P, p);
        box.poke(FLAGS, 15);
        return box;
    }

    /** Lets the sprites 0 and 1 hit one another and what is solid, in the pixel 0 0, and puts them away. */
    private static void collide(Rasterbox box) {
        box.poke(MODE, 1);
        box.poke(SCREEN, 2);
        box.poke(512, 128);
        box.poke(512 + 128, 128);
        box.poke(512 + 136, 128);
        box.poke(SPRITES_ON, 3);
        box.run(960);
        box.poke(SPRITES_ON, 0);
        box.poke(MODE, 3);
    }

    /** A jammed machine whose registers 29 and 30 are both 3. */
    static Rasterbox hit() {
        Rasterbox box = jammed();
        collide(box);
        return box;
    }

    /** The same with a processor that is ready. */
    static Rasterbox readyAndHit(int p, int a, int x, int y, int flags) {
        Rasterbox box = ready(3000, a, x, y, flags);
        box.assemble(3000, code("jmp"), 3000);
        collide(box);
        for (int i = 0; i < 9 && box.underWay() > 0; i++) {
            box.run(1);
        }
        box.setRegister(P, p);
        return box;
    }

    static String line(Rasterbox box, int address) {
        int length = box.writeLine(address);
        StringBuilder text = new StringBuilder();
        for (int i = 0; i < length; i++) {
            text.append(box.lineAt(i));
        }
        return text.toString();
    }
}
