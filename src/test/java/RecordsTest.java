/** Promises 34 to 39: snapshots and records. */
public final class RecordsTest {
    private static final Class<IllegalStateException> STATE = IllegalStateException.class;
    private static final Class<java.util.NoSuchElementException> NONE = java.util.NoSuchElementException.class;

    private RecordsTest() {
    }

    public static void main(String[] args) {
        saved();
        noSuchSnapshot();
        restoredMemory();
        restoredProcessor();
        restoredUnderWay();
        restoredPicture();
        restoredSoundTapeAndKeys();
        restoredTimers();
        snapshotsStay();
        differences();
        noRecord();
        callsKept();
        callsNotKept();
        startedAgain();
        restoreEnds();
        sameAfterEverything();
        sameAcrossManyFrames();
        sameWhenFull();
        Due.end("RecordsTest");
    }

    private static void saved() {
        Rasterbox box = new Rasterbox();
        Due.is("first", box.save(), 0);
        Due.is("second", box.save(), 1);
        Due.is("third", box.save(), 2);
        Due.fails("fourth", STATE, box::save);
        Due.fails("fourth again", STATE, box::save);
        Due.is("the third is there", box.restore(2), 0);
        Due.fails("restore frees none", STATE, box::save);
    }

    private static void noSuchSnapshot() {
        Rasterbox box = new Rasterbox();
        int[] bad = {0, -1, 3, Integer.MAX_VALUE, Integer.MIN_VALUE};
        for (int number : bad) {
            Due.fails("restore " + number, NONE, () -> box.restore(number));
            Due.fails("differences " + number, NONE, () -> box.differences(number));
        }
        box.save();
        box.startRecord();
        box.poke(0, 1);
        Due.fails("restore 1", NONE, () -> box.restore(1));
        Due.fails("differences 1", NONE, () -> box.differences(1));
        Due.is("nothing is restored", box.ram(0), 1);
        Due.is("the record goes on", box.recorded(), 1);
    }

    private static void restoredMemory() {
        Rasterbox box = new Rasterbox();
        box.poke(1, 11);
        box.pokeRom(2, 12);
        box.pokeCartridge(3, 4, 13);
        box.poke(3840, 15);
        box.save();
        box.poke(1, 21);
        box.poke(5, 22);
        box.poke(6, 0);
        box.pokeRom(2, 23);
        box.pokeCartridge(3, 4, 24);
        box.poke(3840, 0);
        Due.is("two bytes of RAM", box.restore(0), 2);
        Due.is("RAM", box.ram(1), 11);
        Due.is("more RAM", box.ram(5), 0);
        Due.is("ROM", box.peek(3074), 12);
        Due.is("cartridge", box.peek(2052), 13);
        Due.is("banks", box.peek(3840), 15);
        Due.is("no byte again", box.restore(0), 0);
    }

    private static void restoredProcessor() {
        Rasterbox box = new Rasterbox();
        box.poke(3841, 3);
        box.assemble(600, 0, 200);
        box.poke(602, 255);
        for (int n = 0; n < 4; n++) {
            box.setRegister(n, n + 1);
        }
        box.setRegister(4, 600);
        box.step();
        box.save();
        box.step();
        Due.is("jammed", box.isJammed(), true);
        box.reset();
        box.run(50);
        box.restore(0);
        Due.is("A", box.register(0), 200);
        Due.is("X", box.register(1), 2);
        Due.is("Y", box.register(2), 3);
        Due.is("S", box.register(3), 4);
        Due.is("P", box.register(4), 602);
        Due.is("status", box.status(), 180);
        Due.is("not jammed", box.isJammed(), false);
        Due.is("done", box.done(), 1);
        Due.is("trace", box.traceAt(0), 600);
        Due.fails("no more trace", IndexOutOfBoundsException.class, () -> box.traceAt(1));
        Due.is("cycle", box.cycle(), 2);
        box.step();
        box.save();
        box.reset();
        box.restore(1);
        Due.is("jammed in a snapshot", box.isJammed(), true);
    }

    private static void restoredUnderWay() {
        Rasterbox box = new Rasterbox();
        box.poke(3841, 3);
        box.poke(3834, 50);
        box.assemble(600, 114, 40);
        box.setRegister(4, 600);
        box.run(2);
        box.freeze();
        box.save();
        box.run(100);
        box.restore(0);
        Due.is("under way", box.underWay(), 4);
        Due.is("step", box.step(), 4);
        Due.is("done", box.ram(40), 1);
        Due.is("the freeze is pending", box.step(), 7);
        Due.is("P", box.register(4), 50);
        box.restore(0);
        box.run(5);
        Due.is("an interrupt is under way", box.underWay(), 6);
        box.save();
        box.reset();
        box.restore(1);
        box.step();
        Due.is("it is an interrupt", box.register(4), 50);
    }

    private static void restoredPicture() {
        Rasterbox box = new Rasterbox();
        box.poke(3841, 3);
        box.poke(3843, 5);
        box.poke(3857, 3);
        box.poke(128, 255);
        box.poke(136, 255);
        box.run(500);
        int sum = box.sumOfPicture();
        box.save();
        box.poke(3843, 6);
        box.poke(3869, 0);
        box.run(1000);
        box.reset();
        box.restore(0);
        Due.is("picture", box.sumOfPicture(), sum);
        Due.is("pictures", box.pictures(), 16);
        Due.is("pixel", box.pixel(20, 5), 5);
        Due.is("pixel again", box.pixelAgain(20, 5), 5);
        Due.is("not drawn", box.pixelAgain(20, 31), 0);
        Due.is("hits", box.peek(3869), 3);
        Due.is("cycle", box.cycle(), 500);
        box.poke(3843, 7);
        box.run(460);
        Due.is("above", box.pixelAgain(20, 5), 5);
        Due.is("below", box.pixelAgain(20, 31), 7);
        Due.is("above", box.pixel(20, 5), 5);
        Due.is("below", box.pixel(20, 31), 7);
    }

    private static void restoredSoundTapeAndKeys() {
        Rasterbox box = new Rasterbox();
        box.poke(3872, 0);
        box.poke(3873, 16);
        box.poke(3874, 1);
        box.addPulse(100);
        box.addPulse(100);
        box.poke(3884, 1);
        box.key(1, 1, true);
        box.joystick(9);
        box.run(150);
        double mean = box.meanSample();
        int sample = box.sample(5);
        box.save();
        box.key(1, 1, false);
        box.joystick(0);
        box.addPulse(7);
        box.poke(3874, 0);
        box.run(500);
        box.rewind();
        box.restore(0);
        Due.exactly("mean", box.meanSample(), mean);
        Due.is("sample", box.sample(5), sample);
        Due.is("level", box.level(0), 6);
        Due.is("keys", box.columns(2), 2);
        Due.is("joystick", box.joystick(9), 9);
        Due.is("pulses", box.pulsesLeft(), 1);
        Due.is("tape", box.peek(3884), 7);
        box.run(49);
        Due.is("time of the pulse", box.pulsesLeft(), 1);
        box.run(1);
        Due.is("time of the pulse", box.pulsesLeft(), 0);
        box.run(22);
        Due.is("phase and wait go on", box.sample(8), 9 * 9 / 15);
    }

    private static void restoredTimers() {
        Rasterbox box = new Rasterbox();
        box.poke(3852, 9);
        box.poke(3856, 1);
        box.run(4);
        box.save();
        box.poke(3852, 99);
        box.poke(3856, 0);
        box.poke(3856, 1);
        box.run(200);
        box.restore(0);
        Due.is("count", box.peek(3852), 5);
        Due.is("flags", box.peek(3850), 1);
        box.run(6);
        Due.is("latch", box.peek(3852), 9);
    }

    private static void snapshotsStay() {
        Rasterbox box = new Rasterbox();
        box.save();
        box.poke(0, 1);
        box.save();
        box.poke(1, 1);
        box.save();
        box.poke(2, 1);
        Due.is("to the first", box.restore(0), 3);
        box.poke(7, 1);
        Due.is("to the third", box.restore(2), 3);
        Due.is("to the second", box.restore(1), 1);
        Due.is("to the first again", box.restore(0), 1);
        Due.is("which is as it was", box.ram(7) + box.ram(0), 0);
    }

    private static void differences() {
        Rasterbox box = new Rasterbox();
        box.pokeRom(0, 7);
        box.save();
        Due.is("none", box.differences(0), 0);
        box.poke(0, 1);
        box.poke(4095, 1);
        box.poke(3843, 1);
        Due.is("of RAM alone", box.differences(0), 2);
        box.poke(3840, 1);
        box.poke(3072, 9);
        Due.is("below the ROM too", box.differences(0), 3);
        box.poke(0, 0);
        Due.is("the same byte again", box.differences(0), 2);
        Due.is("nothing is restored", box.ram(4095), 1);
    }

    private static void noRecord() {
        Rasterbox box = new Rasterbox();
        Due.fails("recorded", STATE, box::recorded);
        Due.fails("isSame", STATE, box::isSame);
        box.poke(0, 1);
        Due.fails("recorded later", STATE, box::recorded);
        Due.is("there was none", box.startRecord(), 0);
        Due.is("nothing is kept", box.recorded(), 0);
        Due.is("same", box.isSame(), true);
    }

    private static void callsKept() {
        Rasterbox box = new Rasterbox();
        box.startRecord();
        box.poke(600, 149);
        Due.is("poke", box.recorded(), 1);
        box.pokeRom(0, 1);
        Due.is("pokeRom", box.recorded(), 2);
        box.pokeCartridge(0, 0, 1);
        Due.is("pokeCartridge", box.recorded(), 3);
        box.assemble(601, 0, 9);
        Due.is("assemble", box.recorded(), 4);
        box.setRegister(4, 600);
        Due.is("setRegister", box.recorded(), 5);
        box.reset();
        Due.is("reset", box.recorded(), 6);
        box.freeze();
        Due.is("freeze", box.recorded(), 7);
        box.run(5);
        Due.is("run", box.recorded(), 8);
        box.step();
        Due.is("step", box.recorded(), 9);
        box.key(0, 0, true);
        Due.is("key", box.recorded(), 10);
        box.joystick(1);
        Due.is("joystick", box.recorded(), 11);
        box.addPulse(1);
        Due.is("addPulse", box.recorded(), 12);
        box.rewind();
        Due.is("rewind", box.recorded(), 13);
        Due.is("same", box.isSame(), true);
    }

    private static void callsNotKept() {
        Rasterbox box = new Rasterbox();
        box.startRecord();
        box.peek(0);
        box.ram(0);
        box.writeLine(0);
        box.lineAt(0);
        box.compare(0, 1, 2);
        box.register(0);
        box.status();
        box.cycle();
        box.isPictures();
        box.underWay();
        box.done();
        box.isJammed();
        box.pixel(0, 0);
        box.pixelAgain(0, 0);
        box.sample(0);
        box.level(0);
        box.columns(0);
        box.pulsesLeft();
        box.save();
        box.differences(0);
        box.isSame();
        box.sumOfPicture();
        box.pictures();
        box.solidShare();
        box.meanSample();
        Due.is("none is kept", box.recorded(), 0);
        Due.fails("poke", IndexOutOfBoundsException.class, () -> box.poke(-1, 0));
        Due.fails("run", IllegalArgumentException.class, () -> box.run(0));
        Due.fails("key", IndexOutOfBoundsException.class, () -> box.key(4, 0, true));
        Due.is("none that throws", box.recorded(), 0);
    }

    private static void startedAgain() {
        Rasterbox box = new Rasterbox();
        box.startRecord();
        box.poke(0, 1);
        box.poke(0, 2);
        Due.is("the earlier one", box.startRecord(), 2);
        Due.is("in its place", box.recorded(), 0);
        box.poke(0, 3);
        Due.is("same", box.isSame(), true);
        Due.is("one call", box.startRecord(), 1);
        Due.is("no call", box.startRecord(), 0);
    }

    private static void restoreEnds() {
        Rasterbox box = new Rasterbox();
        box.save();
        box.startRecord();
        box.poke(0, 1);
        box.restore(0);
        Due.fails("recorded", STATE, box::recorded);
        Due.fails("isSame", STATE, box::isSame);
        box.poke(0, 2);
        Due.is("there was none", box.startRecord(), 0);
        box.poke(0, 3);
        Due.is("a new one", box.recorded(), 1);
        Due.is("same", box.isSame(), true);
    }

    private static void sameAfterEverything() {
        Rasterbox box = new Rasterbox();
        box.poke(3841, 1);
        box.assemble(600, 114, 40);
        box.assemble(602, 157, 600);
        box.setRegister(4, 600);
        box.run(333);
        box.save();
        box.startRecord();
        box.poke(3843, 4);
        box.pokeRom(3, 5);
        box.poke(3840, 1);
        box.key(1, 2, true);
        box.poke(3871, 15);
        box.joystick(3);
        box.addPulse(30);
        box.addPulse(40);
        box.poke(3884, 1);
        box.poke(3873, 77);
        box.poke(3874, 1);
        box.poke(3852, 20);
        box.poke(3856, 1);
        Due.is("poked", box.isSame(), true);
        box.run(500);
        Due.is("run", box.isSame(), true);
        box.step();
        box.step();
        box.freeze();
        box.step();
        Due.is("frozen", box.isSame(), true);
        box.run(1);
        Due.is("under way", box.isSame(), true);
        box.rewind();
        box.reset();
        Due.is("reset", box.isSame(), true);
        box.setRegister(4, 4090);
        box.assemble(4090, 255, 0);
        box.step();
        box.run(1000);
        Due.is("jammed", box.isSame(), true);
        Due.is("calls", box.recorded(), 25);
        Due.is("isSame changes nothing", box.recorded() + box.differences(0), 25 + box.differences(0));
    }

    private static void sameAcrossManyFrames() {
        Rasterbox box = new Rasterbox();
        box.startRecord();
        for (int i = 0; i < 100; i++) {
            box.poke(i * 41 % 3800, i * 7 % 256);
            box.poke(3840 + i % 48, i * 13 % 256);
            box.run(1 + i * 97 % 1000);
            Due.is("same " + i, box.isSame(), true);
        }
        Due.is("calls", box.recorded(), 300);
    }

    private static void sameWhenFull() {
        Rasterbox box = new Rasterbox();
        box.startRecord();
        for (int i = 0; i < 508; i++) {
            box.assemble(i * 5 % 4096, 3, i);
        }
        Due.is("calls", box.recorded(), 508);
        Due.is("same", box.isSame(), true);
        Rasterbox frame = new Rasterbox();
        frame.poke(3841, 3);
        for (int i = 0; i < 499; i++) {
            frame.assemble(3843, 3, 257 + i % 8);
        }
        frame.run(200);
        for (int x = 0; x < 5; x++) {
            Due.is("a frame with many writes", frame.pixelAgain(x, 0), frame.pixel(x, 0));
        }
        Due.is("its background", frame.pixel(0, 0), 3);
    }
}
