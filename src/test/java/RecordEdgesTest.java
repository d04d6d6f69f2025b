/** Every sentence on snapshots and records that names an edge, and the promises 34 to 39. */
public final class RecordEdgesTest {
    private static final Class<IllegalStateException> STATE = IllegalStateException.class;
    private static final Class<java.util.NoSuchElementException> NONE = java.util.NoSuchElementException.class;

    private RecordEdgesTest() {
    }

    public static void main(String[] args) {
        numbersOfSnapshots();
        mostSnapshots();
        withoutSnapshots();
        withoutRecords();
        restoredAll();
        restoredFrames();
        restoredInterrupt();
        restoredVoice();
        restoredTape();
        restoredKeys();
        restoredFromNew();
        restoredTwice();
        restoreReturns();
        noSuchToRestore();
        differencesReturns();
        noSuchDifferences();
        earlierCalls();
        inPlaceOfAnEarlierOne();
        keptCalls();
        callsThatThrow();
        callsThatAreNotKept();
        restoreEnds();
        noRecord();
        sameWithoutCalls();
        sameFromTheMiddle();
        sameBehindEachCall();
        sameBehindRefusedCalls();
        sameWithManyCalls();
        Due.end("RecordEdgesTest");
    }

    private static void numbersOfSnapshots() {
        Due.by("Returns the number of the snapshot, from 0.");
        Rasterbox box = new Rasterbox();
        for (int i = 0; i < 3; i++) {
            box.poke(700, i);
            Due.is("snapshot " + i, box.save(), i);
        }
        for (int i = 2; i >= 0; i--) {
            box.restore(i);
            Due.is("it is in the snapshot " + i, box.ram(700), i);
        }
    }

    private static void mostSnapshots() {
        Due.by("Throws `IllegalStateException` if there are 3 snapshots");
        Rasterbox box = new Rasterbox();
        for (int i = 0; i < 3; i++) {
            box.save();
        }
        box.poke(700, 9);
        Due.fails("a fourth one", STATE, box::save);
        for (int i = 0; i < 3; i++) {
            Due.is("the others stay " + i, box.differences(i), 1);
        }
        Due.fails("no number 3", NONE, () -> box.restore(3));
        box.restore(0);
        Due.fails("restore frees none", STATE, box::save);
        box.reset();
        Due.fails("reset frees none", STATE, box::save);
    }

    private static void withoutSnapshots() {
        Due.by("A snapshot keeps the machine, without records and snapshots.");
        Rasterbox box = new Rasterbox();
        box.save();
        box.poke(700, 1);
        box.save();
        box.restore(0);
        Due.is("the later one is still there", box.differences(1), 1);
        Due.is("and can be restored", box.restore(1), 1);
        Due.is("the third one", box.save(), 2);
    }

    private static void withoutRecords() {
        Due.by("A snapshot keeps the machine, without records and snapshots.");
        Rasterbox box = new Rasterbox();
        box.startRecord();
        box.poke(700, 1);
        box.save();
        Due.is("save goes on with the record", box.recorded(), 1);
        box.restore(0);
        Due.fails("restore brings no record back", STATE, box::recorded);
    }

    /** A machine in which everything is under way. */
    private static Rasterbox busy() {
        Rasterbox box = new Rasterbox();
        box.poke(Boxes.MODE, 2);
        box.poke(Boxes.BACKGROUND, 3);
        box.poke(Boxes.BACKGROUND + 2, 8);
        box.poke(60, 27);
        box.poke(Boxes.SPRITES_ON, 3);
        box.poke(128, 255);
        box.poke(136, 129);
        box.poke(Boxes.LATCH_A, 50);
        box.poke(Boxes.LATCH_B, 3);
        box.poke(Boxes.TIMERS, 7);
        box.poke(Boxes.VOICES + 1, 37);
        box.poke(Boxes.VOICES + 2, 1);
        box.poke(Boxes.VOICES + 3, 33);
        box.poke(Boxes.VOICES + 5, 201);
        box.poke(Boxes.VOICES + 6, 13);
        box.poke(Boxes.VOICES + 7, 2);
        box.poke(Boxes.KEYS, 5);
        box.key(0, 1, true);
        box.key(2, 2, true);
        box.joystick(6);
        box.addPulse(300);
        box.addPulse(999);
        box.poke(Boxes.MOTOR, 1);
        box.pokeRom(7, 9);
        box.pokeCartridge(2, 7, 10);
        box.poke(3838, 30);
        box.assemble(3000, Boxes.code("inc") + 3, 700);
        box.assemble(3003, Boxes.code("adc") + 1, 60);
        box.assemble(3005, Boxes.code("jmp"), 3000);
        box.assemble(30, Boxes.code("sta") + 3, Boxes.FLAGS);
        box.assemble(33, Boxes.code("rti"), 0);
        box.assemble(0, Boxes.code("cli"), 0);
        box.assemble(1, Boxes.code("jmp"), 3000);
        box.poke(Boxes.MASK, 4);
        box.setRegister(Boxes.X, 21);
        box.setRegister(Boxes.Y, 22);
        box.run(611);
        box.run(700);
        for (int i = 0; i < 9 && box.underWay() != 2; i++) {
            box.run(1);
        }
        return box;
    }

    private static String seen(Rasterbox box) {
        StringBuilder text = new StringBuilder();
        for (int n = 0; n < 48; n++) {
            text.append(box.peek(3840 + n)).append(' ');
        }
        for (int n = 0; n < 5; n++) {
            text.append(box.register(n)).append(' ');
        }
        for (int n = 0; n < 16; n += 3) {
            text.append(box.traceAt(n)).append(' ').append(box.columns(n)).append(' ');
        }
        for (int n = 0; n < 40; n += 7) {
            text.append(box.sample(n)).append(' ').append(box.pixelAgain(n % 32, n * 7 % 32)).append(' ');
        }
        text.append(box.level(0)).append(' ').append(box.level(1)).append(' ').append(box.status()).append(' ');
        text.append(box.cycle()).append(' ').append(box.isPictures()).append(' ').append(box.underWay()).append(' ');
        text.append(box.done()).append(' ').append(box.isJammed()).append(' ').append(box.pulsesLeft()).append(' ');
        text.append(box.sumOfPicture()).append(' ').append(box.pictures()).append(' ').append(box.solidShare()).append(' ');
        text.append(box.meanSample()).append(' ').append(box.compare(0, 5, 4096)).append(' ').append(box.ram(700));
        return text.toString();
    }

    private static void restoredAll() {
        Due.by("Makes the machine as it is in a snapshot.");
        Rasterbox box = busy();
        box.freeze();
        box.save();
        String before = seen(box);
        box.run(777);
        String behind = seen(box);
        box.reset();
        box.pokeRom(7, 0);
        box.pokeCartridge(2, 7, 0);
        box.key(0, 1, false);
        box.joystick(0);
        box.rewind();
        box.run(1000);
        box.restore(0);
        Due.is("then", seen(box), before);
        box.run(777);
        Due.is("and later", seen(box), behind);
        Due.is("the ROM", box.pokeRom(7, 0), 9);
        Due.is("the cartridge", box.pokeCartridge(2, 7, 0), 10);
    }

    private static void restoredFrames() {
        Due.by("Makes the machine as it is in a snapshot.");
        for (int cycle : new int[] {500, 960, 961, 1500, 1919}) {
            Rasterbox box = Boxes.jammed();
            box.poke(Boxes.MODE, 3);
            for (int i = 1; i < 20; i++) {
                Boxes.runTo(box, cycle * i / 20);
                box.poke(Boxes.BACKGROUND, i % 15 + 1);
            }
            Boxes.runTo(box, cycle);
            box.save();
            for (int i = 1; i < 30; i++) {
                box.run(77);
                box.poke(Boxes.BACKGROUND, i * 7 % 16);
            }
            box.restore(0);
            for (int part = 0; part < 2; part++) {
                for (int y = 0; y < 32; y++) {
                    int x = y * 5 % 32;
                    Due.is("restored at " + cycle + ", row " + y, box.pixelAgain(x, y), box.pixel(x, y));
                }
                box.poke(Boxes.BACKGROUND, 9);
                box.run(400);
            }
        }
    }

    private static void restoredInterrupt() {
        Due.by("Makes the machine as it is in a snapshot.");
        Rasterbox box = Boxes.ready(600, 0, 0, 0, 0);
        box.poke(600, Boxes.code("nop"));
        box.poke(3839, 4);
        box.poke(Boxes.MASK, 1);
        box.run(3);
        box.save();
        box.poke(Boxes.MASK, 0);
        box.reset();
        box.setRegister(Boxes.P, 600);
        box.run(1);
        box.restore(0);
        Due.is("cycles that are left", box.step(), 4);
        Due.is("it is the interrupt", box.register(Boxes.P), 1024);
        Due.is("which has pushed P", box.ram(511) * 256 + box.ram(510), 600);
    }

    private static void restoredVoice() {
        Due.by("Makes the machine as it is in a snapshot.");
        Rasterbox box = Boxes.jammed();
        box.poke(Boxes.VOICES + 1, 240);
        box.poke(Boxes.VOICES + 2, 1);
        box.poke(Boxes.VOICES + 3, 4);
        Boxes.runTo(box, 24 * 7);
        box.save();
        Boxes.runTo(box, 24 * 9);
        Due.is("later", box.level(0), 1);
        box.restore(0);
        Boxes.runTo(box, 24 * 9);
        Due.is("the wait, ahead of the end", box.level(0), 1);
        Boxes.runTo(box, 24 * 10);
        Due.is("the wait", box.level(0), 2);
        box.poke(Boxes.VOICES + 2, 5);
        Boxes.runTo(box, 24 * 15);
        box.restore(0);
        box.poke(Boxes.VOICES + 3, 0);
        box.poke(Boxes.VOICES + 2, 5);
        box.poke(Boxes.VOICES + 1, 0);
        Boxes.runTo(box, 24 * 22);
        // Seven times 61440 have gone beyond 65535 six times, which made the noise 512; six times more make it 8.
        box.poke(Boxes.VOICES + 1, 240);
        Boxes.runTo(box, 24 * 28);
        Due.is("the noise", box.sample(27), 8);
    }

    private static void restoredTape() {
        Due.by("Makes the machine as it is in a snapshot.");
        Rasterbox box = Boxes.jammed();
        box.save();
        box.addPulse(1);
        box.addPulse(10);
        box.poke(Boxes.MOTOR, 1);
        box.run(5);
        box.save();
        box.restore(0);
        box.addPulse(3);
        box.addPulse(4);
        box.restore(1);
        Due.is("the level, the motor and what is left", box.peek(Boxes.MOTOR), 7);
        box.run(6);
        Due.is("all are over", box.peek(Boxes.MOTOR), 1);
        box.restore(1);
        Due.is("the level is as it was", box.peek(Boxes.MOTOR), 7);
        box.run(5);
        Due.is("4 and 5 of 10", box.pulsesLeft(), 1);
        box.run(1);
        Due.is("10 of 10", box.pulsesLeft(), 0);
        Due.is("the level is back", box.peek(Boxes.MOTOR), 1);
        box.restore(0);
        Due.is("no tape", box.peek(Boxes.MOTOR) + box.rewind(), 0);
    }

    private static void restoredKeys() {
        Due.by("Makes the machine as it is in a snapshot.");
        Rasterbox box = new Rasterbox();
        box.key(0, 0, true);
        box.joystick(9);
        box.save();
        box.key(0, 0, false);
        box.key(1, 1, true);
        box.joystick(6);
        box.restore(0);
        Due.is("pressed", box.columns(1), 1);
        Due.is("not pressed", box.key(1, 1, false), false);
        Due.is("pressed, as before", box.key(0, 0, true), true);
        Due.is("pressed still", box.columns(1), 1);
        Due.is("the joystick", box.joystick(0), 9);
    }

    private static void restoredFromNew() {
        Due.by("Makes the machine as it is in a snapshot.");
        Rasterbox box = new Rasterbox();
        box.save();
        box.poke(0, Boxes.code("jam"));
        box.run(1000);
        box.restore(0);
        Due.is("cycle", box.cycle(), 0);
        Due.is("done", box.done(), 0);
        Due.is("pictures", box.pictures(), 0);
        Due.is("jammed", box.isJammed(), false);
        Due.fails("trace", IndexOutOfBoundsException.class, () -> box.traceAt(0));
        Due.is("P", box.register(Boxes.P), 0);
    }

    private static void restoredTwice() {
        Due.by("Makes the machine as it is in a snapshot.");
        Rasterbox box = new Rasterbox();
        box.poke(700, 1);
        box.save();
        for (int i = 0; i < 3; i++) {
            box.poke(700, 2);
            box.poke(4095, 2);
            box.key(1, 1, true);
            box.addPulse(5);
            box.run(100);
            Due.is("bytes, time " + i, box.restore(0), 2);
            Due.is("it is as it was, time " + i, box.ram(700) * 10 + box.ram(4095), 10);
            Due.is("so are keys and the tape, time " + i, box.columns(15) + box.pulsesLeft(), 0);
        }
    }

    private static void restoreReturns() {
        Due.by("Returns how many bytes of RAM change by this.");
        Rasterbox box = new Rasterbox();
        box.save();
        Due.is("none", box.restore(0), 0);
        box.poke(0, 1);
        Due.is("the first one", box.restore(0), 1);
        box.poke(4095, 255);
        Due.is("the last one", box.restore(0), 1);
        box.poke(0, 1);
        box.poke(4095, 1);
        box.poke(2048, 1);
        box.poke(3072, 1);
        box.pokeRom(0, 1);
        box.pokeCartridge(0, 0, 1);
        box.poke(Boxes.BACKGROUND, 1);
        Due.is("of RAM alone", box.restore(0), 4);
        box.poke(0, 1);
        box.poke(0, 0);
        Due.is("written, but the same", box.restore(0), 0);
    }

    private static void noSuchToRestore() {
        Due.by("Throws `NoSuchElementException` if there is no such snapshot");
        Rasterbox box = new Rasterbox();
        for (int saved = 0; saved < 4; saved++) {
            box.poke(700, saved + 1);
            for (int none : new int[] {-1, saved, saved + 1, 3, Integer.MIN_VALUE, Integer.MAX_VALUE}) {
                Due.fails("restore " + none + " of " + saved, NONE, () -> box.restore(none));
            }
            Due.is("nothing is restored", box.ram(700), saved + 1);
            if (saved < 3) {
                box.save();
            }
        }
    }

    private static void differencesReturns() {
        Due.by("Returns how many bytes of RAM are different in a snapshot.");
        Rasterbox box = new Rasterbox();
        box.save();
        Due.is("none", box.differences(0), 0);
        box.poke(0, 1);
        Due.is("the first one", box.differences(0), 1);
        box.poke(4095, 1);
        Due.is("and the last one", box.differences(0), 2);
        box.poke(Boxes.BANKS, 15);
        box.pokeRom(0, 1);
        box.pokeCartridge(3, 0, 1);
        Due.is("of RAM alone", box.differences(0), 2);
        box.save();
        Due.is("of the other snapshot", box.differences(1), 0);
        box.poke(0, 0);
        Due.is("the same again", box.differences(0) * 10 + box.differences(1), 11);
        Due.is("nothing is restored", box.ram(4095), 1);
    }

    private static void noSuchDifferences() {
        Due.by("Throws `NoSuchElementException` if there is no such snapshot");
        Rasterbox box = new Rasterbox();
        for (int saved = 0; saved < 4; saved++) {
            for (int none : new int[] {-1, saved, 3, Integer.MIN_VALUE, Integer.MAX_VALUE}) {
                Due.fails("differences " + none + " of " + saved, NONE, () -> box.differences(none));
            }
            if (saved < 3) {
                box.save();
            }
        }
    }

    private static void earlierCalls() {
        Due.by("Returns how many calls the earlier one had kept, 0 if there was none.");
        Rasterbox box = new Rasterbox();
        box.save();
        box.poke(700, 1);
        Due.is("there was none", box.startRecord(), 0);
        Due.is("it had kept none", box.startRecord(), 0);
        box.poke(700, 2);
        Due.is("it had kept one", box.startRecord(), 1);
        box.poke(700, 2);
        box.run(1);
        box.step();
        Due.is("it had kept three", box.startRecord(), 3);
        box.poke(700, 2);
        box.restore(0);
        Due.is("it was ended", box.startRecord(), 0);
    }

    private static void inPlaceOfAnEarlierOne() {
        Due.by("Starts a record, in place of an earlier one.");
        Rasterbox box = new Rasterbox();
        box.startRecord();
        box.poke(700, 1);
        box.poke(701, 1);
        Due.is("the earlier one is played", box.isSame(), true);
        box.startRecord();
        Due.is("kept", box.recorded(), 0);
        box.poke(700, 2);
        Due.is("kept then", box.recorded(), 1);
        Due.is("and the same", box.isSame(), true);
        box.startRecord();
        Due.is("from what is now", box.isSame(), true);
        Due.is("nothing is kept", box.recorded(), 0);
    }

    /** Makes the call of a number, which a record keeps. */
    private static void kept(Rasterbox box, int number) {
        switch (number) {
            case 0: box.poke(700, 1); break;
            case 1: box.pokeRom(511, 255); break;
            case 2: box.pokeCartridge(3, 511, 255); break;
            case 3: box.assemble(4095, 3, 4095); break;
            case 4: box.setRegister(4, 4095); break;
            case 5: box.reset(); break;
            case 6: box.freeze(); break;
            case 7: box.run(1000); break;
            case 8: box.step(); break;
            case 9: box.key(3, 3, true); break;
            case 10: box.joystick(15); break;
            case 11: box.addPulse(999); break;
            default: box.rewind(); break;
        }
    }

    private static void keptCalls() {
        Due.by("and then all calls that do not throw of poke(), pokeRom(), pokeCartridge(), assemble(), setRegister(), reset(), freeze(), run(), step(), key(), joystick(), addPulse() and rewind()");
        for (int number = 0; number < 13; number++) {
            Rasterbox box = new Rasterbox();
            box.startRecord();
            kept(box, number);
            Due.is("call " + number, box.recorded(), 1);
            kept(box, number == 4 ? 0 : number);
            Due.is("call " + number + " again", box.recorded(), 2);
            Due.is("same behind " + number, box.isSame(), true);
        }
    }

    private static void callsThatThrow() {
        Due.by("all calls that do not throw");
        Rasterbox box = new Rasterbox();
        box.startRecord();
        for (int i = 0; i < 40; i++) {
            box.addPulse(1);
        }
        box.poke(0, Boxes.code("jam"));
        box.run(1);
        Due.is("kept", box.recorded(), 42);
        Class<IndexOutOfBoundsException> index = IndexOutOfBoundsException.class;
        Class<IllegalArgumentException> argument = IllegalArgumentException.class;
        Due.fails("poke", index, () -> box.poke(4096, 0));
        Due.fails("poke", argument, () -> box.poke(0, 256));
        Due.fails("pokeRom", index, () -> box.pokeRom(512, 0));
        Due.fails("pokeRom", argument, () -> box.pokeRom(0, 256));
        Due.fails("pokeCartridge", index, () -> box.pokeCartridge(4, 0, 0));
        Due.fails("pokeCartridge", argument, () -> box.pokeCartridge(0, 0, 256));
        Due.fails("assemble", index, () -> box.assemble(4096, 0, 0));
        Due.fails("assemble", argument, () -> box.assemble(0, 0, 256));
        Due.fails("setRegister", index, () -> box.setRegister(5, 0));
        Due.fails("setRegister", argument, () -> box.setRegister(0, 256));
        Due.fails("setRegister", STATE, () -> box.setRegister(0, 0));
        Due.fails("run", argument, () -> box.run(0));
        Due.fails("key", index, () -> box.key(4, 0, true));
        Due.fails("joystick", argument, () -> box.joystick(16));
        Due.fails("addPulse", argument, () -> box.addPulse(0));
        Due.fails("addPulse", STATE, () -> box.addPulse(1));
        Due.is("none of these is kept", box.recorded(), 42);
        box.run(1);
        Due.fails("step", STATE, box::step);
        Due.is("nor is a step of a jammed one", box.recorded(), 43);
        Due.is("same", box.isSame(), true);
    }

    private static void callsThatAreNotKept() {
        Due.by("and then all calls that do not throw of poke(), pokeRom(), pokeCartridge(), assemble(), setRegister(), reset(), freeze(), run(), step(), key(), joystick(), addPulse() and rewind()");
        Rasterbox box = new Rasterbox();
        box.poke(Boxes.MODE, 3);
        box.step();
        box.startRecord();
        box.save();
        box.writeLine(0);
        box.lineAt(0);
        box.traceAt(0);
        seenOnce(box);
        Due.is("none", box.recorded(), 0);
        box.poke(700, 1);
        seenOnce(box);
        Due.is("one", box.recorded(), 1);
        Due.is("same", box.isSame(), true);
    }

    private static void seenOnce(Rasterbox box) {
        box.peek(0);
        box.ram(0);
        box.compare(0, 0, 1);
        box.register(0);
        box.status();
        box.cycle();
        box.isPictures();
        box.underWay();
        box.done();
        box.isJammed();
        box.pixel(0, 0);
        box.pixelAgain(0, 0);
        box.sample(0);
        box.level(0);
        box.columns(0);
        box.pulsesLeft();
        box.differences(0);
        box.recorded();
        box.isSame();
        box.sumOfPicture();
        box.pictures();
        box.solidShare();
        box.meanSample();
    }

    private static void restoreEnds() {
        Due.by("restore() ends it");
        Rasterbox box = new Rasterbox();
        box.save();
        box.startRecord();
        box.poke(700, 1);
        Due.fails("no such snapshot", NONE, () -> box.restore(1));
        Due.is("a refused restore does not end it", box.recorded(), 1);
        box.restore(0);
        Due.fails("recorded", STATE, box::recorded);
        Due.fails("isSame", STATE, box::isSame);
        box.poke(700, 1);
        Due.fails("recorded later", STATE, box::recorded);
        box.startRecord();
        Due.is("a new one", box.recorded(), 0);
        Due.is("is the same", box.isSame(), true);
        box.restore(0);
        Due.fails("a restore that changes little ends it too", STATE, box::isSame);
    }

    private static void noRecord() {
        Due.by("Throws `IllegalStateException` if there is no record");
        Rasterbox box = new Rasterbox();
        Due.fails("recorded", STATE, box::recorded);
        Due.fails("isSame", STATE, box::isSame);
        box.run(5);
        box.save();
        Due.fails("recorded later", STATE, box::recorded);
        Due.fails("isSame later", STATE, box::isSame);
        box.startRecord();
        Due.is("recorded", box.recorded(), 0);
    }

    private static void sameWithoutCalls() {
        Due.by("Returns true if all are the same.");
        Rasterbox fresh = new Rasterbox();
        fresh.startRecord();
        Due.is("a new one", fresh.isSame(), true);
        Rasterbox box = busy();
        box.startRecord();
        Due.is("a busy one", box.isSame(), true);
        Due.is("and again", box.isSame(), true);
    }

    private static void sameFromTheMiddle() {
        Due.by("A record keeps the machine as it is when it is started");
        Rasterbox box = busy();
        box.freeze();
        box.startRecord();
        box.run(1);
        Due.is("a cycle of what is under way", box.isSame(), true);
        box.step();
        box.step();
        Due.is("the freeze", box.isSame(), true);
        box.run(1000);
        Due.is("a frame", box.isSame(), true);
        box.rewind();
        box.run(1000);
        box.run(1000);
        Due.is("some frames", box.isSame(), true);
        Due.is("calls", box.recorded(), 7);
    }

    private static void sameBehindEachCall() {
        Due.by("Plays the record again, and compares RAM, the registers of the processor, all others as peek() gives them, pixels and samples with those of now.");
        Rasterbox box = busy();
        box.startRecord();
        for (int i = 0; i < 130; i++) {
            int number = i * 5 % 13;
            if (number != 8 || !box.isJammed()) {
                if (number != 4 || box.underWay() == 0) {
                    if (number != 11 || i < 100) {
                        kept(box, number);
                    }
                }
            }
            Due.is("same behind " + i, box.isSame(), true);
        }
    }

    private static void sameBehindRefusedCalls() {
        Due.by("all calls that do not throw");
        Rasterbox box = busy();
        box.startRecord();
        Due.fails("poke", IllegalArgumentException.class, () -> box.poke(700, 256));
        Due.fails("run", IllegalArgumentException.class, () -> box.run(1001));
        Due.fails("setRegister", STATE, () -> box.setRegister(0, 0));
        box.run(10);
        Due.is("same", box.isSame(), true);
        Due.is("one call", box.recorded(), 1);
    }

    private static void sameWithManyCalls() {
        Due.by("An object is used for at most 512 calls after it has been made");
        Rasterbox box = new Rasterbox();
        box.startRecord();
        for (int i = 0; i < 509; i++) {
            kept(box, i % 2 == 0 ? 3 : 9);
        }
        Due.is("509 calls", box.recorded(), 509);
        Due.is("same", box.isSame(), true);
        Rasterbox long512 = new Rasterbox();
        long512.startRecord();
        for (int i = 0; i < 510; i++) {
            long512.run(1000);
        }
        Due.is("510000 cycles", long512.isSame(), true);
    }
}
