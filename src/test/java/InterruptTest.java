/** Promises 14 to 18: reset, freeze, run, step and cycle, and the interrupts. */
public final class InterruptTest {
    private static final int FLAGS = 3850;
    private static final int MASK = 3851;
    private static final int I = 4;

    private InterruptTest() {
    }

    public static void main(String[] args) {
        interrupt();
        maskedByRegister();
        maskedByI();
        flagOfTheSameCycle();
        interruptAgain();
        returned();
        freeze();
        freezeBeforeInterrupt();
        freezeUnderWay();
        pushesGoRound();
        vectorsAtTheEnd();
        reset();
        resetClearsRegisters();
        resetKeeps();
        resetFromTheLowByte();
        runCounts();
        stepOverThePicture();
        Due.end("InterruptTest");
    }

    /** A machine without cycles of the picture, with nop everywhere from 600 on, i not set, and vectors. */
    private static Rasterbox waiting() {
        Rasterbox box = new Rasterbox();
        box.poke(3841, 3);
        for (int address = 600; address < 640; address++) {
            box.poke(address, 149);
        }
        box.poke(3834, 44);
        box.poke(3835, 1);
        box.poke(3836, 188);
        box.poke(3837, 2);
        box.poke(3838, 144);
        box.poke(3839, 1);
        box.poke(599, 147);
        box.setRegister(4, 599);
        box.step();
        return box;
    }

    private static void interrupt() {
        Rasterbox box = waiting();
        box.poke(3849, 99);
        Due.is("the flag of line 0", box.peek(FLAGS), 1);
        Due.is("not asked for", box.step(), 2);
        box.poke(MASK, 1);
        Due.is("cycles", box.step(), 7);
        Due.is("P", box.register(4), 400);
        Due.is("S", box.register(3), 252);
        Due.is("high byte", box.ram(511), 2);
        Due.is("low byte", box.ram(510), 89);
        Due.is("the status without 16", box.ram(509), 32);
        Due.is("i", box.status(), 52);
        Due.is("done counts it", box.done(), 3);
        Due.is("the trace does not", box.traceAt(0), 600);
        Due.is("the flag stays", box.peek(FLAGS), 1);
    }

    private static void maskedByRegister() {
        Rasterbox box = waiting();
        box.poke(FLAGS, 15);
        box.poke(3849, 99);
        box.poke(3854, 100);
        box.poke(3856, 3);
        box.poke(MASK, 12);
        box.step();
        Due.is("the timer A has run out", box.peek(FLAGS), 2);
        Due.is("another mask", box.register(4), 601);
        box.poke(MASK, 2);
        box.step();
        Due.is("its mask", box.register(4), 400);
        Rasterbox tape = waiting();
        tape.poke(FLAGS, 15);
        tape.addPulse(1);
        tape.poke(3884, 1);
        tape.poke(MASK, 7);
        tape.step();
        Due.is("the tape does not ask", tape.register(4), 601);
        tape.poke(MASK, 8);
        tape.step();
        Due.is("the tape asks", tape.register(4), 400);
    }

    private static void maskedByI() {
        Rasterbox box = waiting();
        box.poke(MASK, 15);
        box.poke(600, 146);
        box.poke(601, 147);
        box.poke(FLAGS, 15);
        box.step();
        box.poke(3852, 0);
        box.poke(3856, 1);
        Due.is("sei", box.status(), 52);
        box.step();
        Due.is("i holds it off", box.register(4), 602);
        box.step();
        Due.is("cli lets it begin", box.register(4), 400);
    }

    /** A flag that is set in a cycle is seen by the processor in this cycle. */
    private static void flagOfTheSameCycle() {
        for (int latch = 0; latch < 6; latch++) {
            Rasterbox box = waiting();
            box.poke(FLAGS, 15);
            box.poke(3852, latch);
            box.poke(3856, 1);
            box.poke(MASK, 2);
            // The timer runs out in the cycle latch; nops begin in the cycles 0, 2, 4.
            int begun = (latch + 1) / 2 * 2;
            box.run(begun + 1);
            Due.is("under way, latch " + latch, box.underWay(), 6);
            box.run(6);
            Due.is("P, latch " + latch, box.register(4), 400);
            Due.is("low byte, latch " + latch, box.ram(510), 88 + begun / 2);
        }
    }

    private static void interruptAgain() {
        Rasterbox box = waiting();
        box.poke(MASK, 1);
        box.assemble(400, 155, 0);
        Due.is("the interrupt", box.step(), 7);
        Due.is("its end", box.step(), 6);
        Due.is("P is back", box.register(4), 600);
        Due.is("i is back", box.status(), 48);
        box.step();
        Due.is("the flag is still set", box.register(4), 400);
        box.poke(FLAGS, 1);
        box.step();
        box.step();
        Due.is("the flag is cleared", box.register(4), 601);
    }

    private static void returned() {
        Rasterbox box = waiting();
        box.poke(MASK, 1);
        int behind = box.assemble(400, 0, 1);
        behind = box.assemble(behind, 27, FLAGS);
        box.assemble(behind, 155, 0);
        box.step();
        box.step();
        box.step();
        box.step();
        Due.is("the program has cleared the flag", box.peek(FLAGS), 0);
        box.step();
        Due.is("and goes on", box.register(4), 601);
    }

    private static void freeze() {
        Rasterbox box = waiting();
        box.poke(3840, 1);
        Due.is("the register 0 before", box.freeze(), 1);
        Due.is("the register 0", box.peek(3840), 15);
        Due.is("and again", box.freeze(), 15);
        Due.is("nothing is under way", box.underWay(), 0);
        Due.is("cycles", box.step(), 7);
        Due.is("P", box.register(4), 300);
        Due.is("high byte", box.ram(511), 2);
        Due.is("low byte", box.ram(510), 88);
        Due.is("status", box.ram(509), 32);
        Due.is("i", box.status(), 52);
        box.assemble(300, 149, 0);
        Due.is("pending no more", box.step(), 2);
        Due.is("P goes on", box.register(4), 301);
        Rasterbox masked = waiting();
        masked.poke(600, 146);
        masked.step();
        masked.freeze();
        masked.step();
        Due.is("i does not hold off a freeze", masked.register(4), 300);
        Due.is("the bank 3 of the cartridge", masked.peek(3840), 14);
    }

    private static void freezeBeforeInterrupt() {
        Rasterbox box = waiting();
        box.poke(MASK, 1);
        box.freeze();
        box.step();
        Due.is("the freeze is first", box.register(4), 300);
        box.assemble(300, 147, 0);
        box.step();
        box.step();
        Due.is("then the interrupt", box.register(4), 400);
        Due.is("all are done", box.done(), 4);
        Due.is("cli is the latest", box.traceAt(0), 300);
    }

    private static void freezeUnderWay() {
        Rasterbox box = waiting();
        box.run(1);
        box.freeze();
        Due.is("the nop is under way", box.underWay(), 1);
        box.run(1);
        Due.is("and is done first", box.register(4), 601);
        box.run(3);
        Due.is("the freeze is under way", box.underWay(), 4);
        box.freeze();
        box.run(4);
        Due.is("P", box.register(4), 300);
        box.run(7);
        Due.is("a second one is pending in the first", box.register(3), 249);
        box.run(2);
        Due.is("and no third one", box.register(3), 249);
        Rasterbox away = waiting();
        away.freeze();
        away.reset();
        away.step();
        Due.is("a reset takes it away", away.register(4), 702);
    }

    private static void pushesGoRound() {
        Rasterbox box = waiting();
        box.setRegister(3, 1);
        box.poke(MASK, 1);
        box.step();
        Due.is("high", box.ram(257), 2);
        Due.is("low", box.ram(256), 88);
        Due.is("status", box.ram(511), 32);
        Due.is("S", box.register(3), 254);
    }

    private static void vectorsAtTheEnd() {
        Rasterbox box = waiting();
        box.poke(3839, 255);
        box.poke(MASK, 1);
        box.step();
        Due.is("a vector is modulo 4096", box.register(4), 255 * 256 % 4096 + 144);
    }

    private static void reset() {
        Rasterbox box = waiting();
        for (int n = 0; n < 4; n++) {
            box.setRegister(n, 10 + n);
        }
        box.poke(268, 255);
        box.assemble(600, 141, 0);
        box.poke(270, 255);
        box.step();
        Due.is("all flags", box.status(), 255);
        box.run(1);
        Due.is("P then", box.reset(), 700);
        Due.is("A", box.register(0), 0);
        Due.is("X", box.register(1), 0);
        Due.is("Y", box.register(2), 0);
        Due.is("S", box.register(3), 255);
        Due.is("P", box.register(4), 700);
        Due.is("status", box.status(), 52);
        Due.is("nothing is under way", box.underWay(), 0);
        box.poke(3837, 255);
        Due.is("the vector is modulo 4096", box.reset(), 255 * 256 % 4096 + 188);
    }

    private static void resetClearsRegisters() {
        Rasterbox box = waiting();
        for (int n = 0; n < 48; n++) {
            box.poke(3840 + n, 255);
        }
        box.run(2);
        box.reset();
        for (int n = 0; n < 48; n++) {
            Due.is("register " + n, box.peek(3840 + n), 0);
        }
        box.poke(3856, 3);
        Due.is("latches too", box.peek(3852) + box.peek(3853) + box.peek(3854) + box.peek(3855), 0);
        box.poke(FLAGS, 15);
        box.poke(3856, 0);
        box.run(960 - (int) box.cycle());
        Due.is("not yet", box.peek(FLAGS), 0);
        box.run(1);
        Due.is("the line to be met too", box.peek(FLAGS), 1);
    }

    private static void resetKeeps() {
        Rasterbox box = waiting();
        box.pokeRom(3, 33);
        box.pokeCartridge(1, 3, 34);
        box.key(2, 2, true);
        box.joystick(5);
        box.addPulse(5);
        box.addPulse(10);
        box.poke(3884, 1);
        box.poke(3872, 255);
        box.poke(3873, 255);
        box.poke(3874, 3);
        box.poke(3843, 6);
        box.run(200);
        box.poke(1000, 35);
        long cycle = box.cycle();
        int sum = box.sumOfPicture();
        int done = box.done();
        int trace = box.traceAt(2);
        double mean = box.meanSample();
        int level = box.level(0);
        Due.is("a picture", sum != 0 && mean > 0 && level > 0, true);
        box.reset();
        Due.is("ROM", box.pokeRom(3, 0), 33);
        Due.is("cartridge", box.pokeCartridge(1, 3, 0), 34);
        Due.is("RAM", box.ram(1000), 35);
        Due.is("keys", box.columns(4), 4);
        Due.is("joystick", box.joystick(5), 5);
        Due.is("tape", box.pulsesLeft(), 0);
        Due.is("level of the tape", box.peek(3884), 0);
        Due.is("cycle", box.cycle(), cycle);
        Due.is("picture", box.sumOfPicture(), sum);
        Due.is("done", box.done(), done);
        Due.is("trace", box.traceAt(2), trace);
        Due.exactly("samples", box.meanSample(), mean);
        Due.is("level", box.level(0), level);
        Due.is("rows are asked for no more", box.peek(3871), 80);
        Due.is("the tape was over", box.rewind(), 2);
        Rasterbox tape = waiting();
        tape.addPulse(5);
        tape.addPulse(10);
        tape.poke(3884, 1);
        tape.run(8);
        tape.reset();
        Due.is("the motor is off", tape.peek(3884), 6);
        tape.poke(3884, 1);
        tape.run(6);
        Due.is("the tape is where it was", tape.pulsesLeft(), 1);
        tape.run(1);
        Due.is("and goes on", tape.pulsesLeft(), 0);
    }

    private static void resetFromTheLowByte() {
        Rasterbox box = new Rasterbox();
        box.poke(3836, 7);
        Due.is("low", box.reset(), 7);
        box.poke(3837, 1);
        Due.is("and high", box.reset(), 263);
    }

    private static void runCounts() {
        Rasterbox box = new Rasterbox();
        Due.is("at the beginning", box.cycle(), 0);
        Due.is("one", box.run(1), 0);
        Due.is("cycle", box.cycle(), 1);
        Due.is("the most", box.run(1000), 32);
        Due.is("cycle then", box.cycle(), 1001);
        Due.is("pictures", box.pictures(), 32);
        Due.fails("none", IllegalArgumentException.class, () -> box.run(0));
        Due.fails("less than none", IllegalArgumentException.class, () -> box.run(-1));
        Due.fails("too many", IllegalArgumentException.class, () -> box.run(1001));
        Due.fails("far too many", IllegalArgumentException.class, () -> box.run(Integer.MAX_VALUE));
        Due.fails("far too few", IllegalArgumentException.class, () -> box.run(Integer.MIN_VALUE));
        Due.is("no cycle has passed", box.cycle(), 1001);
        Due.is("the next ones", box.run(96), 8);
    }

    private static void stepOverThePicture() {
        Rasterbox box = new Rasterbox();
        for (int address = 600; address < 640; address++) {
            box.poke(address, 149);
        }
        box.setRegister(4, 600);
        box.run(95);
        Due.is("one cycle of a nop is left", box.underWay(), 1);
        box.poke(3857, 15);
        Due.is("it is done ahead of the picture's cycles", box.step(), 1);
        Due.is("the picture has 8", box.step(), 10);
        for (int i = 0; i < 5; i++) {
            box.step();
        }
        Due.is("cycle", box.cycle(), 116);
        Due.is("the sprites have 4", box.step(), 6);
    }
}
