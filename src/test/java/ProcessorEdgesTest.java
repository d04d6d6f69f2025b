/** Every sentence on the processor that names an edge, and the promises 1, 11 to 15 and 21 to 23. */
public final class ProcessorEdgesTest {
    private static final Class<IndexOutOfBoundsException> INDEX = IndexOutOfBoundsException.class;
    private static final Class<IllegalArgumentException> ARGUMENT = IllegalArgumentException.class;
    private static final Class<IllegalStateException> STATE = IllegalStateException.class;

    private ProcessorEdgesTest() {
    }

    public static void main(String[] args) {
        newObject();
        bitsOfTheStatus();
        pushed();
        pulled();
        beginsWhenNothingIsUnderWay();
        cyclesFoundAtTheBeginning();
        freezeFirst();
        freezeOnce();
        flagsAndMask();
        otherwiseTheInstruction();
        nothingAheadOfTheLastCycle();
        bytesOfTheLastCycle();
        interruptThatIsUnderWay();
        interruptPushes();
        flagsBehindInterrupts();
        interruptPushesRound();
        vectors();
        codesOverHits();
        pointersOverHits();
        registerNumbers();
        setRegisterNumbers();
        setRegisterValues();
        setRegisterUnderWay();
        statusOfAll();
        resetOfTheProcessor();
        resetOfRegisters();
        resetOfWhatIsPending();
        resetVector();
        resetKeeps();
        resetKeepsVoices();
        freezeBits();
        doneCounts();
        jammed();
        traceOfTheLatest();
        traceWithoutInterrupts();
        Due.end("ProcessorEdgesTest");
    }

    private static void newObject() {
        Due.by("Creates a machine as it is behind a reset, at the cycle 0, with P 0.");
        Rasterbox box = new Rasterbox();
        int[] registers = {0, 0, 0, 255, 0};
        for (int n = 0; n < 5; n++) {
            Due.is("register " + n, box.register(n), registers[n]);
        }
        Due.is("i is set, no other flag", box.status(), 48 + Boxes.I);
        Due.is("cycle", box.cycle(), 0);
        Due.is("under way", box.underWay(), 0);
        Due.is("done", box.done(), 0);
        Due.is("jammed", box.isJammed(), false);
        Due.fails("no trace", INDEX, () -> box.traceAt(0));
        for (int n = 0; n < 48; n++) {
            Due.is("register " + n + " of 48", box.peek(3840 + n), 0);
        }
        box.step();
        Due.is("nothing was pending", box.register(Boxes.P), 2);
    }

    private static void bitsOfTheStatus() {
        Due.by("The status is 1 for c, 2 for z, 4 for i, 8 for d, 16 as told below, 32 always, 64 for v, 128 for n.");
        for (int bits = 0; bits < 256; bits++) {
            Due.is("pulled " + bits, Boxes.ready(600, 0, 0, 0, bits).status(), bits | 48);
        }
        String[] names = {"sec", "sei", "sed"};
        int[] flags = {Boxes.C, Boxes.I, Boxes.D};
        for (int i = 0; i < 3; i++) {
            Rasterbox box = Boxes.ready(600, 0, 0, 0, 0);
            box.poke(600, Boxes.code(names[i]));
            box.step();
            Due.is(names[i], box.status(), 48 + flags[i]);
        }
    }

    private static void pushed() {
        Due.by("To push a byte, it is written to RAM at 256 + S, and S is 1 less, modulo 256");
        int[][] cases = {{255, 511, 254}, {1, 257, 0}, {0, 256, 255}};
        for (int[] one : cases) {
            Rasterbox box = Boxes.ready(600, 77, 0, 0, 0);
            box.poke(600, Boxes.code("pha"));
            box.setRegister(Boxes.S, one[0]);
            box.save();
            box.step();
            Due.is("byte by " + one[0], box.ram(one[1]), 77);
            Due.is("S by " + one[0], box.register(Boxes.S), one[2]);
            Due.is("one byte by " + one[0], box.differences(0), 1);
        }
    }

    private static void pulled() {
        Due.by("to pull one, S is 1 more, and it is read from there");
        int[][] cases = {{254, 511, 255}, {0, 257, 1}, {255, 256, 0}};
        for (int[] one : cases) {
            Rasterbox box = Boxes.ready(600, 0, 0, 0, 0);
            box.poke(600, Boxes.code("pla"));
            box.poke(one[1], 77);
            box.setRegister(Boxes.S, one[0]);
            box.step();
            Due.is("A by " + one[0], box.register(Boxes.A), 77);
            Due.is("S by " + one[0], box.register(Boxes.S), one[2]);
            Due.is("the byte stays", box.ram(one[1]), 77);
        }
    }

    private static void beginsWhenNothingIsUnderWay() {
        Due.by("When the processor goes on and has nothing under way, it begins");
        Rasterbox box = Boxes.ready(600, 0, 0, 0, 0);
        box.assemble(600, Boxes.code("inc") + 3, 700);
        box.run(1);
        box.poke(Boxes.MASK, 1);
        box.freeze();
        box.run(4);
        Due.is("it is still the instruction", box.underWay(), 1);
        box.run(1);
        Due.is("which is done", box.ram(700), 1);
        Due.is("then nothing is under way", box.underWay(), 0);
        box.run(1);
        Due.is("then it begins anew", box.underWay(), 6);
    }

    private static void cyclesFoundAtTheBeginning() {
        Due.by("it is found how many of its cycles this takes");
        Rasterbox longer = Boxes.ready(600, 0, 0, 0, 0);
        longer.poke(600, Boxes.code("nop"));
        longer.run(1);
        longer.assemble(600, Boxes.code("inc") + 3, 700);
        Due.is("inc in the cycles of nop", longer.step(), 1);
        Due.is("inc is done", longer.ram(700), 1);
        Rasterbox page = Boxes.ready(600, 0, 255, 0, 0);
        page.assemble(600, Boxes.code("lda") + 4, 1024);
        page.run(1);
        page.assemble(600, Boxes.code("lda") + 4, 1025);
        Due.is("another page that comes later", page.step(), 3);
        Rasterbox branch = Boxes.ready(600, 0, 0, 0, 0);
        branch.assemble(600, Boxes.code("beq"), 20);
        branch.run(1);
        branch.assemble(600, Boxes.code("bne"), 20);
        Due.is("a branch that comes later", branch.step(), 1);
        Due.is("is done", branch.register(Boxes.P), 622);
    }

    private static void freezeFirst() {
        Due.by("if a freeze is pending, an interrupt with the vector 3834, 7 cycles, and it is pending no more");
        for (int flags : new int[] {0, Boxes.I}) {
            Rasterbox box = Boxes.ready(600, 0, 0, 0, flags);
            box.poke(3834, 100);
            box.poke(3835, 1);
            box.poke(3838, 200);
            box.poke(3839, 1);
            box.poke(Boxes.MASK, 1);
            box.poke(356, Boxes.code("nop"));
            box.freeze();
            Due.is("cycles, flags " + flags, box.step(), 7);
            Due.is("P, flags " + flags, box.register(Boxes.P), 356);
            Due.is("pending no more, flags " + flags, box.step(), 2);
        }
    }

    private static void freezeOnce() {
        Due.by("and it is pending no more");
        Rasterbox box = Boxes.ready(600, 0, 0, 0, 0);
        box.poke(3834, 100);
        box.poke(100, Boxes.code("nop"));
        box.freeze();
        box.freeze();
        box.step();
        Due.is("two are one", box.step(), 2);
        Due.is("S", box.register(Boxes.S), 252);
        box.freeze();
        box.run(3);
        box.freeze();
        Due.is("the first one", box.step(), 4);
        Due.is("one that is pressed in it is another one", box.step(), 7);
        Due.is("S then", box.register(Boxes.S), 246);
    }

    /** A machine in which the flags of the register 10 are those that are told. */
    private static Rasterbox flagged(int wanted, int mask, int flags) {
        Rasterbox box = Boxes.ready(600, 0, 0, 0, flags);
        box.poke(600, Boxes.code("nop"));
        box.poke(601, Boxes.code("nop"));
        box.poke(3839, 2);
        box.poke(Boxes.TIMERS, 3);
        box.addPulse(1);
        box.poke(Boxes.MOTOR, 1);
        box.step();
        box.poke(Boxes.TIMERS, 0);
        box.poke(Boxes.FLAGS, 15 - wanted);
        box.poke(Boxes.MASK, mask);
        return box;
    }

    private static void flagsAndMask() {
        Due.by("otherwise, if a flag is set whose bit in the mask is 1, and i is not set, one with the vector 3838, 7 cycles");
        for (int flags = 0; flags < 16; flags++) {
            for (int mask = 0; mask < 16; mask++) {
                boolean isAsked = (flags & mask) != 0;
                String what = "flags " + flags + " mask " + mask;
                Rasterbox box = flagged(flags, mask, 0);
                Due.is(what, box.step(), isAsked ? 7 : 2);
                Due.is("P, " + what, box.register(Boxes.P), isAsked ? 512 : 602);
            }
        }
        Rasterbox masked = flagged(15, 15, Boxes.I);
        Due.is("i is set", masked.step(), 2);
        Due.is("P, i is set", masked.register(Boxes.P), 602);
    }

    private static void otherwiseTheInstruction() {
        Due.by("otherwise the instruction at P");
        for (int address : new int[] {0, 255, 256, 4095}) {
            Rasterbox box = Boxes.ready(address, 0, 5, 0, 0);
            box.poke(address, Boxes.code("inx"));
            Due.is("at " + address, box.step(), 2);
            Due.is("X", box.register(Boxes.X), 6);
            Due.is("P", box.register(Boxes.P), (address + 1) % 4096);
        }
    }

    private static void nothingAheadOfTheLastCycle() {
        Due.by("In the last one of its cycles, all of it is done");
        Rasterbox box = Boxes.ready(600, 255, 0, 0, Boxes.C);
        box.assemble(600, Boxes.code("isc") + 7, 40);
        box.save();
        box.run(7);
        Due.is("RAM", box.differences(0), 0);
        Due.is("A", box.register(Boxes.A), 255);
        Due.is("P", box.register(Boxes.P), 600);
        Due.is("status", box.status(), 48 + Boxes.C);
        Due.is("done", box.done(), 1);
        box.run(1);
        Due.is("RAM then", box.ram(0), 1);
        Due.is("A then", box.register(Boxes.A), 254);
        Due.is("P then", box.register(Boxes.P), 602);
        Due.is("done then", box.done(), 2);
        Rasterbox jsr = Boxes.ready(600, 0, 0, 0, 0);
        jsr.assemble(600, Boxes.code("jsr"), 700);
        jsr.run(5);
        Due.is("no push yet", jsr.ram(511) + jsr.register(Boxes.S), 255);
        jsr.run(1);
        Due.is("both pushes", jsr.ram(511) * 1000 + jsr.register(Boxes.S), 2253);
    }

    private static void bytesOfTheLastCycle() {
        Due.by("with the bytes that are there then");
        Rasterbox value = Boxes.ready(600, 0, 0, 0, 0);
        value.assemble(600, Boxes.code("lda") + 3, 700);
        value.poke(700, 5);
        value.run(3);
        value.poke(700, 6);
        value.run(1);
        Due.is("the value", value.register(Boxes.A), 6);
        Rasterbox operand = Boxes.ready(600, 0, 0, 0, 0);
        operand.assemble(600, Boxes.code("lda") + 3, 700);
        operand.poke(701, 7);
        operand.run(3);
        operand.poke(601, 701 % 256);
        operand.run(1);
        Due.is("the operand", operand.register(Boxes.A), 7);
        Rasterbox code = Boxes.ready(600, 1, 1, 0, 0);
        code.assemble(600, Boxes.code("lda") + 3, 700);
        code.run(3);
        code.poke(600, Boxes.code("dex"));
        code.run(1);
        Due.is("the code", code.register(Boxes.X), 0);
        Due.is("its length", code.register(Boxes.P), 601);
        Due.is("not the earlier one", code.register(Boxes.A), 1);
        Rasterbox pointer = Boxes.ready(600, 0, 0, 0, 0);
        pointer.assemble(600, Boxes.code("jmi"), 700);
        pointer.run(4);
        pointer.poke(700, 9);
        pointer.run(1);
        Due.is("the pointer", pointer.register(Boxes.P), 9);
        Rasterbox bank = Boxes.ready(3072, 0, 0, 0, 0);
        bank.pokeRom(1, 8);
        bank.run(1);
        bank.poke(Boxes.BANKS, 1);
        bank.run(1);
        Due.is("the bank", bank.register(Boxes.A), 8);
    }

    private static void interruptThatIsUnderWay() {
        Due.by("In the last one of its cycles, all of it is done, with the bytes that are there then.");
        Rasterbox box = Boxes.ready(600, 0, 0, 0, 0);
        box.poke(Boxes.MASK, 1);
        box.poke(3838, 10);
        box.run(6);
        Due.is("nothing is pushed yet", box.register(Boxes.S), 255);
        box.poke(Boxes.FLAGS, 15);
        box.poke(Boxes.MASK, 0);
        box.poke(3838, 11);
        box.poke(3839, 4);
        box.poke(600, Boxes.code("jam"));
        box.freeze();
        Due.is("it goes on, though nothing asks for it", box.step(), 1);
        Due.is("with the vector of then", box.register(Boxes.P), 1035);
        Due.is("not the freeze, which is pending", box.step(), 7);
        Due.is("its P", box.register(Boxes.P), 0);
    }

    private static void interruptPushes() {
        Due.by("An interrupt pushes the high byte, the low byte of P, and the status without 16; sets i");
        for (int p : new int[] {0, 255, 256, 4095}) {
            for (int isFreeze = 0; isFreeze < 2; isFreeze++) {
                Rasterbox box = Boxes.ready(p, 0, 0, 0, 255 - Boxes.I);
                box.poke(Boxes.MASK, 1 - isFreeze);
                if (isFreeze == 1) {
                    box.freeze();
                }
                String what = "P " + p + (isFreeze == 1 ? ", freeze" : "");
                Due.is("cycles, " + what, box.step(), 7);
                Due.is("high byte, " + what, box.ram(511), p / 256);
                Due.is("low byte, " + what, box.ram(510), p % 256);
                Due.is("status, " + what, box.ram(509), 255 - 16 - Boxes.I);
                Due.is("S, " + what, box.register(Boxes.S), 252);
                Due.is("i, " + what, box.status(), 255);
            }
        }
        Rasterbox masked = Boxes.ready(600, 0, 0, 0, Boxes.I);
        masked.freeze();
        masked.step();
        Due.is("i was set", masked.ram(509), 32 + Boxes.I);
    }

    private static void flagsBehindInterrupts() {
        Due.by("otherwise, if a flag is set whose bit in the mask is 1, and i is not set");
        Rasterbox box = flagged(15, 1, 0);
        box.poke(512, Boxes.code("rti"));
        box.step();
        Due.is("an interrupt clears no flag", box.peek(Boxes.FLAGS), 15);
        Due.is("rti", box.step(), 6);
        Due.is("the flag asks again", box.step(), 7);
        box.poke(512, Boxes.code("cli"));
        box.step();
        Due.is("and again, when i is cleared", box.step(), 7);
    }

    private static void interruptPushesRound() {
        Due.by("S is 1 less, modulo 256");
        int[][] cases = {{0, 256, 511, 510, 253}, {1, 257, 256, 511, 254}, {2, 258, 257, 256, 255}};
        for (int[] one : cases) {
            Rasterbox box = Boxes.ready(600, 0, 0, 0, 0);
            box.setRegister(Boxes.S, one[0]);
            box.poke(Boxes.MASK, 1);
            box.step();
            Due.is("high byte, S " + one[0], box.ram(one[1]), 2);
            Due.is("low byte, S " + one[0], box.ram(one[2]), 88);
            Due.is("status, S " + one[0], box.ram(one[3]), 32);
            Due.is("S behind " + one[0], box.register(Boxes.S), one[4]);
        }
    }

    private static void vectors() {
        Due.by("P becomes the byte at the vector plus 256 times the next one, read as the processor reads");
        int[][] cases = {{255, 0, 255}, {0, 15, 3840}, {255, 15, 4095}, {7, 16, 7}, {255, 255, 4095}};
        for (int[] one : cases) {
            for (int vector = 3834; vector <= 3838; vector += 4) {
                Rasterbox box = Boxes.ready(600, 0, 0, 0, 0);
                box.poke(vector, one[0]);
                box.poke(vector + 1, one[1]);
                box.poke(Boxes.MASK, vector == 3838 ? 1 : 0);
                if (vector == 3834) {
                    box.freeze();
                }
                box.step();
                Due.is("vector " + vector + " of " + one[0] + " " + one[1], box.register(Boxes.P), one[2]);
            }
        }
    }

    /** The hits 3 and 3, and 0 for the keys, are "lda 3" in the mode 3 here. */
    private static void codesOverHits() {
        Due.by("All bytes of instructions and addresses in memory are read without an effect on hits.");
        Rasterbox box = Boxes.readyAndHit(Boxes.HITS_OF_SPRITES, 0, 0, 0, 0);
        box.poke(3, 66);
        box.poke(Boxes.KEYS, 0);
        Due.is("cycles", box.step(), 4);
        Due.is("it was lda 3", box.register(Boxes.A), 66);
        Due.is("hits of sprites", box.peek(Boxes.HITS_OF_SPRITES), 3);
        Due.is("hits of the solid", box.peek(Boxes.HITS_OF_SOLID), 3);
        Rasterbox operand = Boxes.readyAndHit(Boxes.SPRITE_COLOUR, 0, 0, 0, 0);
        operand.poke(Boxes.SPRITE_COLOUR, Boxes.code("ldx"));
        Due.is("a value", operand.step(), 2);
        Due.is("is read", operand.register(Boxes.X), 3);
        Due.is("and stays", operand.peek(Boxes.HITS_OF_SPRITES), 3);
    }

    private static void pointersOverHits() {
        Due.by("All bytes of instructions and addresses in memory are read without an effect on hits.");
        Rasterbox box = Boxes.readyAndHit(600, 0, 0, 0, 0);
        box.assemble(600, Boxes.code("jmi"), Boxes.HITS_OF_SPRITES);
        box.step();
        Due.is("P is from hits", box.register(Boxes.P), 3 + 256 * 3);
        Due.is("which stay", box.peek(Boxes.HITS_OF_SPRITES) * 10 + box.peek(Boxes.HITS_OF_SOLID), 33);
    }

    private static void registerNumbers() {
        Due.by("`number`: 0 for A, 1 for X, 2 for Y, 3 for S, 4 for P");
        Rasterbox box = Boxes.ready(4095, 11, 12, 13, 0);
        int[] due = {11, 12, 13, 255, 4095};
        for (int n = 0; n < 5; n++) {
            Due.is("register " + n, box.register(n), due[n]);
        }
        for (int none : new int[] {-1, 5, Integer.MIN_VALUE, Integer.MAX_VALUE}) {
            Due.fails("register " + none, INDEX, () -> box.register(none));
        }
    }

    private static void setRegisterNumbers() {
        Due.by("Throws `IndexOutOfBoundsException` if there is no such register");
        Rasterbox box = Boxes.ready(600, 11, 12, 13, 0);
        for (int none : new int[] {-1, 5, Integer.MIN_VALUE, Integer.MAX_VALUE}) {
            Due.fails("setRegister " + none, INDEX, () -> box.setRegister(none, 1));
        }
        for (int n = 0; n < 5; n++) {
            int before = box.register(n);
            Due.is("before " + n, box.setRegister(n, 99), before);
            for (int other = n + 1; other < 5; other++) {
                Due.is("no other register", box.register(other) != 99, true);
            }
            Due.is("then " + n, box.register(n), 99);
        }
    }

    private static void setRegisterValues() {
        Due.by("`value`: a byte, or an address for P");
        Rasterbox box = Boxes.ready(600, 11, 12, 13, 0);
        for (int n = 0; n < 4; n++) {
            int number = n;
            box.setRegister(n, 255);
            Due.is("255 in " + n, box.setRegister(n, 0), 255);
            Due.is("0 in " + n, box.register(n), 0);
            Due.fails("256 in " + n, ARGUMENT, () -> box.setRegister(number, 256));
            Due.fails("-1 in " + n, ARGUMENT, () -> box.setRegister(number, -1));
            Due.is("it stays " + n, box.register(n), 0);
        }
        box.setRegister(4, 256);
        Due.is("256 in P", box.setRegister(4, 4095), 256);
        Due.fails("4096 in P", ARGUMENT, () -> box.setRegister(4, 4096));
        Due.fails("-1 in P", ARGUMENT, () -> box.setRegister(4, -1));
        Due.is("4095 in P", box.setRegister(4, 0), 4095);
        Due.is("no flag is touched", box.status(), 48);
    }

    private static void setRegisterUnderWay() {
        Due.by("Throws `IllegalStateException` if an instruction or an interrupt is under way");
        Rasterbox box = Boxes.ready(600, 11, 0, 0, 0);
        box.poke(600, Boxes.code("nop"));
        box.poke(601, Boxes.code("jam"));
        box.run(1);
        Due.fails("an instruction", STATE, () -> box.setRegister(0, 1));
        Due.fails("a wrong value is told first", ARGUMENT, () -> box.setRegister(0, 256));
        Due.fails("a wrong number is told first", INDEX, () -> box.setRegister(5, 256));
        box.run(1);
        Due.is("none", box.setRegister(0, 1), 11);
        box.poke(Boxes.MASK, 1);
        box.run(6);
        Due.fails("an interrupt", STATE, () -> box.setRegister(4, 1));
        box.run(1);
        Due.is("none again", box.setRegister(4, 601), 0);
        box.freeze();
        Due.is("a freeze that is pending is not under way", box.setRegister(0, 2), 1);
        box.step();
        box.setRegister(4, 601);
        box.run(1);
        Due.fails("a jam", STATE, () -> box.setRegister(4, 1));
        box.run(1);
        Due.is("a jammed one has nothing under way", box.setRegister(4, 1), 601);
    }

    private static void statusOfAll() {
        Due.by("Returns the status, with 16.");
        Due.is("no flag", Boxes.ready(600, 0, 0, 0, 0).status(), 48);
        Due.is("all flags", Boxes.ready(600, 0, 0, 0, 255).status(), 255);
        Due.is("at first", new Rasterbox().status(), 52);
    }

    private static void resetOfTheProcessor() {
        Due.by("A, X, Y, the flags n, v, d, z and c, and all registers 0 to 47 become 0");
        for (int flags : new int[] {255, 0}) {
            Rasterbox box = Boxes.ready(600, 11, 12, 13, flags);
            box.setRegister(Boxes.S, 7);
            box.reset();
            Due.is("A, X and Y", box.register(0) + box.register(1) + box.register(2), 0);
            Due.is("S becomes 255", box.register(3), 255);
            Due.is("i is set", box.status(), 52);
        }
    }

    private static void resetOfRegisters() {
        Due.by("all registers 0 to 47 become 0, also hits, the flags of the register 10, counts and latches");
        Rasterbox box = Boxes.hit();
        for (int n = 0; n < 48; n++) {
            box.poke(3840 + n, 255);
        }
        box.key(0, 0, true);
        Boxes.runTo(box, 1920);
        Due.is("hits", box.peek(Boxes.HITS_OF_SPRITES), 3);
        box.reset();
        for (int n = 0; n < 48; n++) {
            Due.is("register " + n, box.peek(3840 + n), 0);
        }
        box.poke(Boxes.TIMERS, 3);
        Due.is("latches", box.peek(3852) + box.peek(3853) + box.peek(3854) + box.peek(3855), 0);
        Rasterbox flags = Boxes.jammed();
        flags.poke(Boxes.TIMERS, 3);
        flags.addPulse(1);
        flags.poke(Boxes.MOTOR, 1);
        flags.run(1);
        Due.is("all flags", flags.peek(Boxes.FLAGS), 15);
        flags.reset();
        Due.is("no flag", flags.peek(Boxes.FLAGS), 0);
        Rasterbox line = Boxes.jammed();
        line.poke(Boxes.LINE, 5);
        line.poke(4000, 0);
        line.reset();
        Boxes.runTo(line, 961);
        Due.is("the line to be met is 0", line.peek(Boxes.FLAGS), 1);
    }

    private static void resetOfWhatIsPending() {
        Due.by("nothing is pending or under way, the processor is not jammed");
        Rasterbox box = Boxes.ready(600, 0, 0, 0, 0);
        box.poke(3837, 2);
        box.poke(512, Boxes.code("nop"));
        box.freeze();
        box.reset();
        Due.is("no freeze", box.step(), 2);
        Due.is("P", box.register(Boxes.P), 513);
        box.assemble(513, Boxes.code("isc") + 7, 40);
        box.run(3);
        Due.is("under way", box.underWay(), 5);
        box.reset();
        Due.is("nothing is under way", box.underWay(), 0);
        Due.is("a nop begins", box.step(), 2);
        box.poke(513, Boxes.code("jam"));
        box.step();
        Due.is("jammed", box.isJammed(), true);
        box.reset();
        Due.is("not jammed", box.isJammed(), false);
        Due.is("it goes on", box.step(), 2);
        box.poke(513, Boxes.code("cli"));
        box.step();
        box.poke(Boxes.TIMERS, 1);
        box.poke(Boxes.MASK, 2);
        box.run(2);
        Due.is("an interrupt is under way", box.underWay(), 5);
        box.reset();
        Due.is("no interrupt goes on", box.step(), 2);
    }

    private static void resetVector() {
        Due.by("P becomes the byte at 3836 plus 256 times the next one");
        int[][] cases = {{0, 0, 0}, {255, 0, 255}, {0, 1, 256}, {255, 15, 4095}, {9, 16, 9}, {255, 255, 4095}};
        for (int[] one : cases) {
            Rasterbox box = new Rasterbox();
            box.poke(3836, one[0]);
            box.poke(3837, one[1]);
            Due.is("returned for " + one[0] + " " + one[1], box.reset(), one[2]);
            Due.is("P for " + one[0] + " " + one[1], box.register(Boxes.P), one[2]);
        }
    }

    private static void resetKeeps() {
        Due.by("Memory, keys, the joystick, the tape, voices, the picture and the cycle stay.");
        Rasterbox box = Boxes.jammed();
        box.pokeRom(511, 1);
        box.pokeCartridge(3, 511, 2);
        box.poke(1, 3);
        box.key(3, 3, true);
        box.joystick(5);
        box.addPulse(10);
        box.addPulse(10);
        box.poke(Boxes.MOTOR, 1);
        box.poke(Boxes.MODE, 3);
        box.poke(Boxes.BACKGROUND, 7);
        box.poke(Boxes.VOICES + 1, 144);
        box.poke(Boxes.VOICES + 2, 1);
        box.run(15);
        Boxes.runTo(box, 120);
        box.save();
        int sum = box.sumOfPicture();
        box.reset();
        Due.is("RAM", box.differences(0), 0);
        Due.is("the ROM", box.pokeRom(511, 1), 1);
        Due.is("the cartridge", box.pokeCartridge(3, 511, 2), 2);
        Due.is("keys", box.columns(8), 8);
        Due.is("the joystick", box.peek(Boxes.KEYS), 80);
        Due.is("the tape", box.rewind(), 2);
        Due.is("the level of a voice", box.level(0), 5);
        Due.is("the picture", box.sumOfPicture(), sum);
        Due.is("a pixel", box.pixel(31, 0), 7);
        Due.is("a pixel again", box.pixelAgain(31, 0), 7);
        Due.is("the cycle", box.cycle(), 120);
        // Five lines of 36864 make the phase 53248; with the gate on again, the level becomes 6.
        box.poke(Boxes.VOICES + 2, 1);
        box.run(24);
        Due.is("the phase of a voice", box.sample(5), 13 * 6 / 15);
        Rasterbox tape = Boxes.jammed();
        tape.addPulse(10);
        tape.poke(Boxes.MOTOR, 1);
        tape.run(7);
        tape.reset();
        tape.poke(Boxes.MOTOR, 1);
        tape.run(2);
        Due.is("9 of 10", tape.pulsesLeft(), 1);
        tape.run(1);
        Due.is("10 of 10", tape.pulsesLeft(), 0);
        tape.reset();
        Due.is("the level of the tape", tape.peek(Boxes.MOTOR), 2);
    }

    private static void resetKeepsVoices() {
        Due.by("Memory, keys, the joystick, the tape, voices, the picture and the cycle stay.");
        Rasterbox wait = Boxes.jammed();
        wait.poke(Boxes.VOICES + 2, 1);
        wait.poke(Boxes.VOICES + 3, 9);
        Boxes.runTo(wait, 24 * 4);
        wait.reset();
        wait.poke(Boxes.VOICES + 2, 1);
        wait.poke(Boxes.VOICES + 3, 4);
        wait.run(24);
        Due.is("a wait of 4 becomes 5, which is greater than 4", wait.level(0), 1);
        Rasterbox noise = Boxes.jammed();
        noise.poke(Boxes.VOICES + 1, 240);
        noise.poke(Boxes.VOICES + 2, 5);
        Boxes.runTo(noise, 24 * 13);
        noise.reset();
        noise.poke(Boxes.VOICES + 2, 5);
        noise.run(24);
        // Thirteen times 61440 have gone beyond 65535 twelve times, which made the noise 8; the level is 14 now.
        Due.is("the noise", noise.sample(13), 8 * 14 / 15);
        Rasterbox samples = Boxes.jammed();
        samples.poke(Boxes.VOICES + 1, 240);
        samples.poke(Boxes.VOICES + 2, 1);
        Boxes.runTo(samples, 24 * 3);
        samples.reset();
        Due.is("samples", samples.sample(2), 13 * 3 / 15);
    }

    private static void freezeBits() {
        Due.by("a freeze is pending, and bits 1 to 3 of the register 0 are set");
        for (int banks = 0; banks < 16; banks++) {
            Rasterbox box = new Rasterbox();
            box.poke(Boxes.BANKS, banks);
            Due.is("the register 0 before", box.freeze(), banks);
            Due.is("the register 0 behind " + banks, box.peek(Boxes.BANKS), banks | 14);
            box.step();
            Due.is("an interrupt, though i is set", box.register(Boxes.S), 252);
            Due.is("the register 0 stays", box.peek(Boxes.BANKS), banks | 14);
        }
    }

    private static void doneCounts() {
        Due.by("Returns how many instructions and interrupts were done.");
        Rasterbox box = new Rasterbox();
        box.poke(Boxes.MODE, 3);
        box.poke(0, Boxes.code("cli"));
        Due.is("at first", box.done(), 0);
        box.run(1);
        Due.is("under way", box.done(), 0);
        box.run(1);
        Due.is("an instruction", box.done(), 1);
        box.poke(Boxes.MASK, 1);
        box.poke(3838, 50);
        box.run(6);
        Due.is("an interrupt under way", box.done(), 1);
        box.run(1);
        Due.is("an interrupt", box.done(), 2);
        box.freeze();
        box.run(7);
        Due.is("a freeze", box.done(), 3);
        box.poke(0, Boxes.code("jam"));
        box.run(2);
        Due.is("a jam", box.done(), 4);
        box.run(100);
        Due.is("jammed", box.done(), 4);
        box.reset();
        Due.is("behind a reset", box.done(), 4);
    }

    private static void jammed() {
        Due.by("it does nothing any more until a reset, and its cycles pass");
        Rasterbox box = Boxes.ready(600, 1, 2, 3, 0);
        box.poke(600, Boxes.code("jam"));
        Due.is("not yet", box.isJammed(), false);
        box.run(1);
        Due.is("under way", box.isJammed(), false);
        box.run(1);
        Due.is("jammed", box.isJammed(), true);
        box.poke(600, Boxes.code("inx"));
        box.poke(Boxes.MASK, 1);
        box.freeze();
        box.save();
        Due.is("its cycles pass", box.run(500), 0);
        Due.is("cycle", box.cycle(), 506);
        Due.is("X", box.register(Boxes.X), 2);
        Due.is("S", box.register(Boxes.S), 255);
        Due.is("P stays at it", box.register(Boxes.P), 600);
        Due.is("RAM", box.differences(0), 0);
        Due.is("under way", box.underWay(), 0);
        box.reset();
        Due.is("a reset ends it", box.isJammed(), false);
        Due.is("at first", new Rasterbox().isJammed(), false);
    }

    private static void traceOfTheLatest() {
        Due.by("Returns the address of an instruction that was done, of the latest 16");
        Rasterbox box = new Rasterbox();
        box.poke(Boxes.MODE, 3);
        box.setRegister(Boxes.P, 4090);
        for (int done = 1; done <= 18; done++) {
            box.poke((4089 + done) % 4096, Boxes.code("nop"));
            box.step();
            int last = done < 16 ? done : 16;
            for (int i = 0; i < last; i++) {
                Due.is("behind " + done + " at " + i, box.traceAt(i), (4089 + done - i) % 4096);
            }
            Due.fails("behind " + done + " at " + last, INDEX, () -> box.traceAt(last));
        }
        for (int none : new int[] {-1, 16, 17, Integer.MIN_VALUE, Integer.MAX_VALUE}) {
            Due.fails("trace " + none, INDEX, () -> box.traceAt(none));
        }
        box.reset();
        Due.is("behind a reset, the latest", box.traceAt(0), 11);
        Due.is("behind a reset, the earliest", box.traceAt(15), 4092);
    }

    private static void traceWithoutInterrupts() {
        Due.by("interrupts are none");
        Rasterbox box = Boxes.ready(600, 0, 0, 0, 0);
        box.poke(600, Boxes.code("nop"));
        box.poke(3839, 4);
        box.poke(1024, Boxes.code("brk"));
        box.step();
        box.poke(Boxes.MASK, 1);
        box.step();
        Due.is("the nop is the latest", box.traceAt(0), 600);
        Due.is("plp ahead of it", box.traceAt(1), 4090);
        Due.fails("no third one", INDEX, () -> box.traceAt(2));
        box.freeze();
        box.step();
        Due.is("nor is a freeze one", box.traceAt(0), 600);
        box.setRegister(Boxes.P, 1024);
        box.step();
        Due.is("brk is an instruction", box.traceAt(0), 1024);
        box.poke(1024, Boxes.code("jam"));
        box.step();
        Due.is("a jam is one", box.traceAt(0) * 10 + box.done(), 10240 + 6);
        Due.is("brk ahead of it", box.traceAt(1), 1024);
        Due.is("nop ahead of this", box.traceAt(2), 600);
    }
}
