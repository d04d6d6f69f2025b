/** Every sentence on the registers 0 to 47 that names an edge. */
public final class RegisterEdgesTest {
    private RegisterEdgesTest() {
    }

    public static void main(String[] args) {
        lowestBits();
        scrollBits();
        lineToBeMet();
        presentLine();
        flagsAreCleared();
        flagsAreRead();
        latches();
        counts();
        timerBits();
        countBecomesLatch();
        hitsReadByTheProcessor();
        hitsReadByEveryOperation();
        hitsByStores();
        hitsAreNotWritten();
        rowsAskedFor();
        columnsAndJoystick();
        motor();
        noRegisters();
        Due.end("RegisterEdgesTest");
    }

    private static void lowestBits() {
        Due.by("What is written is kept, and read, as far as its lowest bits of the told number");
        int[] numbers = {0, 1, 2, 3, 4, 5, 6, 7, 8, 11, 16, 17, 18, 19, 20, 21, 22, 23, 24, 25, 26, 27, 28, 44};
        int[] bits = {4, 2, 5, 4, 4, 4, 4, 4, 4, 4, 3, 4, 4, 4, 6, 6, 6, 6, 6, 6, 6, 6, 4, 1};
        for (int i = 0; i < numbers.length; i++) {
            int address = 3840 + numbers[i];
            int beyond = 1 << bits[i];
            Rasterbox box = new Rasterbox();
            box.poke(address, 255);
            Due.is("255 in " + numbers[i], box.peek(address), beyond - 1);
            box.poke(address, beyond);
            Due.is(beyond + " in " + numbers[i], box.peek(address), 0);
            box.poke(address, beyond / 2);
            Due.is(beyond / 2 + " in " + numbers[i], box.peek(address), beyond / 2);
            box.poke(address, 1);
            Due.is("1 in " + numbers[i], box.peek(address), 1);
        }
        Rasterbox voices = new Rasterbox();
        for (int number = 32; number <= 43; number++) {
            voices.poke(3840 + number, 255);
            Due.is("255 in " + number, voices.peek(3840 + number), 255);
            voices.poke(3840 + number, 128);
            Due.is("128 in " + number, voices.peek(3840 + number), 128);
        }
    }

    /** One dot of the picture tells how far it was moved. */
    private static void scrollBits() {
        Due.by("2 the scroll, 5 bits: in its lowest 2 bits to the left, in the others upwards");
        int[][] cases = {{0, 4, 8}, {1, 3, 8}, {3, 1, 8}, {4, 4, 7}, {28, 4, 1}, {31, 1, 1}, {32, 4, 8}};
        for (int[] one : cases) {
            Rasterbox box = Boxes.jammed();
            box.poke(Boxes.MODE, 1);
            box.poke(Boxes.SCREEN, 2);
            box.poke(Boxes.BACKGROUND + 1, 1);
            box.poke(512 + 4 * 8, 8);
            box.poke(Boxes.SCROLL, one[0]);
            box.run(958);
            Due.is("scroll " + one[0], box.pixel(one[1], one[2]), 1);
            Due.is("one dot alone, scroll " + one[0], (int) (1024 * box.solidShare()), 1);
        }
    }

    private static void lineToBeMet() {
        Due.by("9: writing tells the line to be met, 8 bits");
        int[] never = {40, 64, 128, 255};
        for (int line : never) {
            Rasterbox box = Boxes.jammedAt(12);
            box.poke(Boxes.LINE, line);
            box.run(960);
            Due.is("the line " + line + " is none of 0 to 39", box.peek(Boxes.FLAGS), 0);
        }
        int[] lines = {1, 2, 38, 39};
        for (int line : lines) {
            Rasterbox box = Boxes.jammedAt(12);
            box.poke(Boxes.LINE, line);
            Boxes.runTo(box, 24 * line);
            Due.is("ahead of the line " + line, box.peek(Boxes.FLAGS), 0);
            box.run(1);
            Due.is("in the line " + line, box.peek(Boxes.FLAGS), 1);
        }
        Rasterbox first = Boxes.jammedAt(12);
        first.run(947);
        Due.is("ahead of the line 0 of the next frame", first.peek(Boxes.FLAGS), 0);
        first.run(2);
        Due.is("in the line 0 of the next frame", first.peek(Boxes.FLAGS), 1);
    }

    private static void presentLine() {
        Due.by("reading gives the present line");
        Rasterbox box = Boxes.jammed();
        box.poke(Boxes.LINE, 255);
        int[][] cases = {{2, 0}, {23, 0}, {24, 1}, {47, 1}, {48, 2}, {935, 38}, {936, 39}, {959, 39}, {960, 0}, {984, 1}};
        for (int[] one : cases) {
            Boxes.runTo(box, one[0]);
            Due.is("in the cycle " + one[0], box.peek(Boxes.LINE), one[1]);
        }
    }

    private static Rasterbox withAllFlags() {
        Rasterbox box = Boxes.jammed();
        box.poke(Boxes.TIMERS, 3);
        box.addPulse(1);
        box.poke(Boxes.MOTOR, 1);
        box.run(1);
        box.poke(Boxes.TIMERS, 0);
        return box;
    }

    private static void flagsAreCleared() {
        Due.by("10: reading gives the flags, writing clears those whose bits are 1.");
        for (int bits = 0; bits < 16; bits++) {
            Rasterbox box = withAllFlags();
            Due.is("all flags", box.poke(Boxes.FLAGS, bits), 15);
            Due.is("behind " + bits, box.peek(Boxes.FLAGS), 15 - bits);
        }
        Rasterbox box = withAllFlags();
        box.poke(Boxes.FLAGS, 240);
        Due.is("240 clears none", box.peek(Boxes.FLAGS), 15);
        box.poke(Boxes.FLAGS, 255);
        Due.is("255 clears all", box.peek(Boxes.FLAGS), 0);
        box.poke(Boxes.FLAGS, 255);
        Due.is("none is set by writing", box.peek(Boxes.FLAGS), 0);
    }

    private static void flagsAreRead() {
        Due.by("10: reading gives the flags, writing clears those whose bits are 1.");
        Rasterbox box = Boxes.ready(600, 0, 0, 0, 0);
        Due.is("the line 0 was met", box.peek(Boxes.FLAGS), 1);
        box.assemble(600, Boxes.code("lda") + 3, Boxes.FLAGS);
        box.step();
        Due.is("read by the processor", box.register(Boxes.A), 1);
        Due.is("reading clears none", box.peek(Boxes.FLAGS), 1);
    }

    private static void latches() {
        Due.by("12 and 13, 14 and 15: writing tells the low and the high byte of the latch of the timer A, B");
        for (int timer = 0; timer < 2; timer++) {
            int low = Boxes.LATCH_A + 2 * timer;
            int bit = 1 << timer;
            Rasterbox box = Boxes.jammed();
            box.poke(low, 255);
            box.poke(low + 1, 255);
            Due.is("the latch is not read, low", box.peek(low), 0);
            Due.is("the latch is not read, high", box.peek(low + 1), 0);
            box.poke(Boxes.TIMERS, bit);
            Due.is("65535, low", box.peek(low), 255);
            Due.is("65535, high", box.peek(low + 1), 255);
            box.poke(low, 1);
            box.poke(low + 1, 2);
            Due.is("a latch of a running timer is not its count", box.peek(low) + 256 * box.peek(low + 1), 65535);
            Due.is("the other timer has none", box.peek(Boxes.LATCH_B - 2 * timer), 0);
            box.poke(Boxes.TIMERS, 0);
            box.poke(Boxes.TIMERS, bit);
            Due.is("the latch later", box.peek(low) + 256 * box.peek(low + 1), 513);
        }
    }

    private static void counts() {
        Due.by("reading gives those of its count");
        for (int timer = 0; timer < 2; timer++) {
            int low = Boxes.LATCH_A + 2 * timer;
            Rasterbox box = Boxes.jammed();
            box.poke(low + 1, 1);
            box.poke(Boxes.TIMERS, 1 << timer);
            Due.is("256, low", box.peek(low), 0);
            Due.is("256, high", box.peek(low + 1), 1);
            box.run(1);
            Due.is("255, low", box.peek(low), 255);
            Due.is("255, high", box.peek(low + 1), 0);
            box.run(255);
            Due.is("0, low", box.peek(low), 0);
            Due.is("0, high", box.peek(low + 1), 0);
            box.run(1);
            Due.is("256 again, low", box.peek(low), 0);
            Due.is("256 again, high", box.peek(low + 1), 1);
        }
    }

    private static void timerBits() {
        Due.by("16: 3 bits: A runs, B runs, B counts what A runs out");
        int[][] cases = {{0, 10, 10}, {1, 5, 10}, {2, 10, 5}, {3, 5, 5}, {4, 10, 10}, {5, 5, 10}, {6, 10, 10}, {7, 5, 10}};
        for (int[] one : cases) {
            Rasterbox box = Boxes.jammed();
            box.poke(Boxes.LATCH_A, 10);
            box.poke(Boxes.LATCH_B, 10);
            box.poke(Boxes.TIMERS, 3);
            box.poke(Boxes.TIMERS, 0);
            // Both counts are 10 now; a bit that becomes 1 again makes them 10 again.
            box.poke(Boxes.TIMERS, one[0]);
            box.run(5);
            Due.is("A by " + one[0], box.peek(Boxes.LATCH_A), one[1]);
            Due.is("B by " + one[0], box.peek(Boxes.LATCH_B), one[2]);
        }
    }

    private static void countBecomesLatch() {
        Due.by("when the bit of a timer becomes 1, its count becomes its latch");
        Rasterbox box = Boxes.jammed();
        box.poke(Boxes.LATCH_A, 20);
        box.poke(Boxes.LATCH_B, 30);
        box.poke(Boxes.TIMERS, 4);
        Due.is("the bit 2 is of no timer", box.peek(Boxes.LATCH_A) + box.peek(Boxes.LATCH_B), 0);
        box.poke(Boxes.TIMERS, 1);
        Due.is("A becomes 1", box.peek(Boxes.LATCH_A), 20);
        Due.is("B is still 0", box.peek(Boxes.LATCH_B), 0);
        box.run(7);
        box.poke(Boxes.TIMERS, 3);
        Due.is("A stays 1", box.peek(Boxes.LATCH_A), 13);
        Due.is("B becomes 1", box.peek(Boxes.LATCH_B), 30);
        box.run(7);
        box.poke(Boxes.TIMERS, 11);
        Due.is("both stay 1", box.peek(Boxes.LATCH_A) * 100 + box.peek(Boxes.LATCH_B), 623);
        box.poke(Boxes.TIMERS, 0);
        Due.is("becoming 0 changes no count", box.peek(Boxes.LATCH_A) * 100 + box.peek(Boxes.LATCH_B), 623);
        box.poke(Boxes.TIMERS, 2);
        Due.is("B alone becomes 1 again", box.peek(Boxes.LATCH_A) * 100 + box.peek(Boxes.LATCH_B), 630);
    }

    private static void hitsReadByTheProcessor() {
        Due.by("29 and 30: hits, 4 bits; they are 0 behind reading by the processor");
        for (int number = 0; number < 2; number++) {
            int address = Boxes.HITS_OF_SPRITES + number;
            int other = Boxes.HITS_OF_SOLID - number;
            Rasterbox box = Boxes.readyAndHit(600, 0, 0, 0, 0);
            box.assemble(600, Boxes.code("lda") + 3, address);
            box.assemble(603, Boxes.code("lda") + 3, address);
            Due.is("hits of " + address, box.peek(address), 3);
            box.step();
            Due.is("read from " + address, box.register(Boxes.A), 3);
            Due.is("0 behind reading " + address, box.peek(address), 0);
            Due.is("the other ones stay by " + address, box.peek(other), 3);
            box.step();
            Due.is("read again from " + address, box.register(Boxes.A), 0);
        }
        Rasterbox beside = Boxes.readyAndHit(600, 0, 0, 0, 0);
        beside.assemble(600, Boxes.code("lda") + 3, Boxes.HITS_OF_SPRITES - 1);
        beside.assemble(603, Boxes.code("lda") + 3, Boxes.HITS_OF_SOLID + 1);
        beside.step();
        beside.step();
        Due.is("registers beside them clear none", beside.peek(3869) * 10 + beside.peek(3870), 33);
    }

    private static void hitsReadByEveryOperation() {
        Due.by("29 and 30: hits, 4 bits; they are 0 behind reading by the processor");
        String[] names = {"lda", "ldx", "ldy", "adc", "sbc", "and", "ora", "eor", "cmp", "cpx", "cpy", "inc", "dec", "lax",
            "dcp", "isc", "bit"};
        for (String name : names) {
            Rasterbox box = Boxes.readyAndHit(600, 1, 0, 0, 0);
            box.assemble(600, Boxes.code(name) + 3, Boxes.HITS_OF_SOLID);
            box.step();
            Due.is(name, box.peek(Boxes.HITS_OF_SPRITES) * 10 + box.peek(Boxes.HITS_OF_SOLID), 30);
        }
        for (int mode = 3; mode < 8; mode++) {
            Rasterbox box = Boxes.readyAndHit(600, 1, 9, 9, 0);
            box.poke(40, (Boxes.HITS_OF_SOLID - 9) % 256);
            box.poke(41, 15);
            box.poke(49, Boxes.HITS_OF_SOLID % 256);
            box.poke(50, 15);
            int address = mode == 3 ? Boxes.HITS_OF_SOLID : Boxes.HITS_OF_SOLID - 9;
            box.assemble(600, Boxes.code("lda") + mode, mode > 5 ? 40 : address);
            box.step();
            Due.is("lda in the mode " + mode, box.register(Boxes.A), 3);
            Due.is("behind the mode " + mode, box.peek(Boxes.HITS_OF_SPRITES) * 10 + box.peek(Boxes.HITS_OF_SOLID), 30);
        }
    }

    private static void hitsByStores() {
        Due.by("29 and 30: hits, 4 bits; they are 0 behind reading by the processor; writing does nothing.");
        String[] names = {"sta", "stx", "sty", "sax"};
        for (String name : names) {
            Rasterbox box = Boxes.readyAndHit(600, 12, 12, 12, 0);
            box.assemble(600, Boxes.code(name) + 3, Boxes.HITS_OF_SPRITES);
            box.step();
            Due.is(name + " neither reads nor writes hits", box.peek(Boxes.HITS_OF_SPRITES), 3);
        }
        String[] changing = {"inc", "dec", "dcp", "isc"};
        for (String name : changing) {
            Rasterbox box = Boxes.readyAndHit(600, 12, 12, 12, 0);
            box.assemble(600, Boxes.code(name) + 3, Boxes.HITS_OF_SPRITES);
            box.step();
            Due.is(name + " reads them, and writes none", box.peek(Boxes.HITS_OF_SPRITES), 0);
        }
    }

    private static void hitsAreNotWritten() {
        Due.by("writing does nothing");
        Rasterbox box = Boxes.hit();
        for (int value : new int[] {0, 3, 12, 255}) {
            Due.is("poke " + value, box.poke(Boxes.HITS_OF_SPRITES, value), 3);
            Due.is("poke " + value, box.poke(Boxes.HITS_OF_SOLID, value), 3);
        }
        Due.is("they stay", box.peek(Boxes.HITS_OF_SPRITES) * 10 + box.peek(Boxes.HITS_OF_SOLID), 33);
        Due.is("RAM below stays", box.ram(Boxes.HITS_OF_SPRITES) + box.ram(Boxes.HITS_OF_SOLID), 0);
    }

    private static void rowsAskedFor() {
        Due.by("31: writing tells which rows of keys are asked for, 4 bits");
        Rasterbox box = new Rasterbox();
        for (int n = 0; n < 4; n++) {
            box.key(n, n, true);
        }
        for (int rows = 0; rows < 16; rows++) {
            box.poke(Boxes.KEYS, rows);
            Due.is("rows " + rows, box.peek(Boxes.KEYS), rows);
        }
        box.poke(Boxes.KEYS, 16);
        Due.is("16 asks for none", box.peek(Boxes.KEYS), 0);
        box.poke(Boxes.KEYS, 255);
        Due.is("255 asks for all", box.peek(Boxes.KEYS), 15);
    }

    private static void columnsAndJoystick() {
        Due.by("reading gives the columns that are seen, plus 16 times the joystick");
        Rasterbox box = Boxes.ready(600, 0, 0, 0, 0);
        box.joystick(15);
        Due.is("no column", box.peek(Boxes.KEYS), 240);
        box.key(3, 3, true);
        box.poke(Boxes.KEYS, 8);
        Due.is("the column 3", box.peek(Boxes.KEYS), 248);
        for (int column = 0; column < 3; column++) {
            box.key(3, column, true);
        }
        Due.is("all", box.peek(Boxes.KEYS), 255);
        box.assemble(600, Boxes.code("lda") + 3, Boxes.KEYS);
        box.step();
        Due.is("read by the processor", box.register(Boxes.A), 255);
        box.joystick(0);
        box.poke(Boxes.KEYS, 7);
        Due.is("nothing", box.peek(Boxes.KEYS), 0);
    }

    private static void motor() {
        Due.by("44: writing tells the motor, 1 bit; reading gives the motor, plus 2 times the level of the tape, plus 4 if there is a pulse left.");
        Rasterbox box = Boxes.jammed();
        Due.is("nothing", box.peek(Boxes.MOTOR), 0);
        box.poke(Boxes.MOTOR, 254);
        Due.is("254 is no motor", box.peek(Boxes.MOTOR), 0);
        box.poke(Boxes.MOTOR, 255);
        Due.is("the motor", box.peek(Boxes.MOTOR), 1);
        box.poke(Boxes.MOTOR, 0);
        box.addPulse(1);
        Due.is("a pulse", box.peek(Boxes.MOTOR), 4);
        box.poke(Boxes.MOTOR, 1);
        Due.is("the motor and a pulse", box.peek(Boxes.MOTOR), 5);
        box.run(1);
        Due.is("the motor and the level", box.peek(Boxes.MOTOR), 3);
        box.poke(Boxes.MOTOR, 0);
        Due.is("the level", box.peek(Boxes.MOTOR), 2);
        box.rewind();
        Due.is("the level and a pulse", box.peek(Boxes.MOTOR), 6);
        box.poke(Boxes.MOTOR, 1);
        Due.is("all", box.peek(Boxes.MOTOR), 7);
        box.run(1);
        Due.is("the level is back", box.peek(Boxes.MOTOR), 1);
    }

    private static void noRegisters() {
        Due.by("45 to 47 are read as 0, and writing does nothing.");
        Rasterbox box = Boxes.ready(600, 255, 0, 0, 0);
        for (int number = 45; number <= 47; number++) {
            Due.is("poke " + number, box.poke(3840 + number, 255), 0);
            Due.is("peek " + number, box.peek(3840 + number), 0);
            Due.is("RAM below " + number, box.ram(3840 + number), 0);
            box.assemble(600, Boxes.code("sta") + 3, 3840 + number);
            box.setRegister(Boxes.P, 600);
            box.step();
            Due.is("sta " + number, box.peek(3840 + number), 0);
        }
    }
}
