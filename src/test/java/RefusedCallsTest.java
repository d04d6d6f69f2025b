import java.util.NoSuchElementException;

/** Each exception of each method, in the order in which the document lists them, and that a call that throws changes nothing. */
public final class RefusedCallsTest {
    private static final Class<IndexOutOfBoundsException> INDEX = IndexOutOfBoundsException.class;
    private static final Class<IllegalArgumentException> ARGUMENT = IllegalArgumentException.class;
    private static final Class<IllegalStateException> STATE = IllegalStateException.class;
    private static final Class<NoSuchElementException> NONE = NoSuchElementException.class;

    private static final int[] FAR = {-1, Integer.MIN_VALUE, Integer.MAX_VALUE};

    private static final String UNTOUCHED = seen(busy());

    private interface Call {
        void make(Rasterbox box);
    }

    private RefusedCallsTest() {
    }

    public static void main(String[] args) {
        Due.by("A method that throws an exception changes nothing.");
        indexes();
        moreIndexes();
        arguments();
        moreArguments();
        states();
        snapshots();
        Due.by("If several exceptions apply, the one that is listed first is thrown.");
        indexBeforeArgument();
        indexAndArgumentBeforeState();
        Due.end("RefusedCallsTest");
    }

    /** A machine in the middle of an instruction, of a frame, of a pulse and of a record. */
    private static Rasterbox busy() {
        Rasterbox box = new Rasterbox();
        box.poke(Boxes.MODE, 1);
        box.poke(Boxes.BACKGROUND, 2);
        box.poke(Boxes.BACKGROUND + 1, 5);
        box.poke(60, 170);
        box.poke(Boxes.VOICES + 1, 40);
        box.poke(Boxes.VOICES + 2, 1);
        box.poke(Boxes.LATCH_A, 30);
        box.poke(Boxes.TIMERS, 1);
        box.poke(Boxes.MOTOR, 1);
        for (int i = 0; i < 40; i++) {
            box.addPulse(100);
        }
        box.key(1, 2, true);
        box.joystick(5);
        box.pokeRom(511, 1);
        box.pokeCartridge(3, 511, 1);
        box.assemble(600, Boxes.code("inc") + 1, 40);
        box.assemble(602, Boxes.code("jmp"), 600);
        box.setRegister(4, 600);
        box.run(700);
        for (int i = 0; i < 9 && box.underWay() != 3; i++) {
            box.run(1);
        }
        box.writeLine(600);
        box.save();
        box.save();
        box.poke(700, 3);
        box.startRecord();
        box.poke(701, 3);
        return box;
    }

    private static Rasterbox busyAndJammed() {
        Rasterbox box = busy();
        box.poke(600, Boxes.code("jam"));
        box.poke(602, Boxes.code("jam"));
        box.run(30);
        Due.is("jammed", box.isJammed(), true);
        return box;
    }

    /** All that can be seen of a machine, also some time later. */
    private static String seen(Rasterbox box) {
        StringBuilder text = new StringBuilder();
        look(box, text);
        box.run(1);
        look(box, text);
        box.run(999);
        look(box, text);
        text.append(box.rewind()).append(' ').append(box.compare(3072, 2048, 512)).append(' ');
        for (int banks = 1; banks < 16; banks += 2) {
            box.poke(Boxes.BANKS, banks);
            text.append(box.compare(3072, 2048, 512)).append(' ').append(box.compare(3072, 0, 512)).append(' ');
        }
        return text.toString();
    }

    private static void look(Rasterbox box, StringBuilder text) {
        for (int n = 0; n < 48; n++) {
            text.append(box.peek(3840 + n)).append(' ');
        }
        for (int n = 0; n < 5; n++) {
            text.append(box.register(n)).append(' ');
        }
        for (int n = 0; n < 3; n++) {
            text.append(box.level(n)).append(' ').append(box.traceAt(n)).append(' ');
        }
        for (int rows = 0; rows < 16; rows += 5) {
            text.append(box.columns(rows)).append(' ');
        }
        text.append(box.status()).append(' ').append(box.cycle()).append(' ').append(box.isPictures()).append(' ');
        text.append(box.underWay()).append(' ').append(box.done()).append(' ').append(box.isJammed()).append(' ');
        text.append(box.pulsesLeft()).append(' ').append(box.differences(0)).append(' ').append(box.differences(1)).append(' ');
        text.append(box.sumOfPicture()).append(' ').append(box.pictures()).append(' ').append(box.solidShare()).append(' ');
        text.append(box.meanSample()).append(' ').append(box.recorded()).append(' ').append(box.isSame()).append(' ');
        text.append(box.compare(0, 1, 4096)).append(' ').append(box.lineAt(4)).append(box.lineAt(9)).append(' ');
        text.append(box.pixelAgain(3, 9)).append(box.sample(7)).append(box.ram(700)).append(box.ram(701)).append(' ');
    }

    private static void refused(String what, Class<? extends RuntimeException> want, Call call) {
        Rasterbox box = busy();
        Due.fails(what, want, () -> call.make(box));
        Due.is("behind " + what, seen(box), UNTOUCHED);
    }

    private static void indexes() {
        for (int far : FAR) {
            refused("poke at " + far, INDEX, box -> box.poke(far, 7));
            refused("pokeRom at " + far, INDEX, box -> box.pokeRom(far, 7));
            refused("pokeCartridge in " + far, INDEX, box -> box.pokeCartridge(far, 7, 7));
            refused("pokeCartridge at " + far, INDEX, box -> box.pokeCartridge(1, far, 7));
            refused("peek at " + far, INDEX, box -> box.peek(far));
            refused("ram at " + far, INDEX, box -> box.ram(far));
            refused("assemble at " + far, INDEX, box -> box.assemble(far, 1, 7));
            refused("writeLine of " + far, INDEX, box -> box.writeLine(far));
            refused("lineAt " + far, INDEX, box -> box.lineAt(far));
            refused("compare from " + far, INDEX, box -> box.compare(far, 0, 1));
            refused("compare to " + far, INDEX, box -> box.compare(0, far, 1));
            refused("register " + far, INDEX, box -> box.register(far));
            refused("setRegister " + far, INDEX, box -> box.setRegister(far, 7));
            refused("traceAt " + far, INDEX, box -> box.traceAt(far));
            refused("pixel x " + far, INDEX, box -> box.pixel(far, 0));
            refused("pixel y " + far, INDEX, box -> box.pixel(0, far));
            refused("pixelAgain x " + far, INDEX, box -> box.pixelAgain(far, 0));
            refused("pixelAgain y " + far, INDEX, box -> box.pixelAgain(0, far));
            refused("sample " + far, INDEX, box -> box.sample(far));
            refused("level " + far, INDEX, box -> box.level(far));
            refused("key row " + far, INDEX, box -> box.key(far, 0, true));
            refused("key column " + far, INDEX, box -> box.key(1, far, false));
        }
    }

    private static void moreIndexes() {
        refused("poke at 4096", INDEX, box -> box.poke(4096, 7));
        refused("pokeRom at 512", INDEX, box -> box.pokeRom(512, 7));
        refused("pokeCartridge in 4", INDEX, box -> box.pokeCartridge(4, 0, 7));
        refused("pokeCartridge at 512", INDEX, box -> box.pokeCartridge(0, 512, 7));
        refused("peek at 4096", INDEX, box -> box.peek(4096));
        refused("ram at 4096", INDEX, box -> box.ram(4096));
        refused("assemble at 4096", INDEX, box -> box.assemble(4096, 1, 7));
        refused("writeLine of 4096", INDEX, box -> box.writeLine(4096));
        refused("lineAt its length", INDEX, box -> box.lineAt(10));
        refused("compare from 4096", INDEX, box -> box.compare(4096, 0, 1));
        refused("compare to 4096", INDEX, box -> box.compare(0, 4096, 1));
        refused("register 5", INDEX, box -> box.register(5));
        refused("setRegister 5", INDEX, box -> box.setRegister(5, 7));
        refused("traceAt 16", INDEX, box -> box.traceAt(16));
        refused("pixel x 32", INDEX, box -> box.pixel(32, 31));
        refused("pixel y 32", INDEX, box -> box.pixel(31, 32));
        refused("pixelAgain x 32", INDEX, box -> box.pixelAgain(32, 31));
        refused("pixelAgain y 32", INDEX, box -> box.pixelAgain(31, 32));
        refused("sample 40", INDEX, box -> box.sample(40));
        refused("level 3", INDEX, box -> box.level(3));
        refused("key row 4", INDEX, box -> box.key(4, 3, true));
        refused("key column 4", INDEX, box -> box.key(1, 4, false));
    }

    private static void arguments() {
        for (int far : FAR) {
            refused("poke of " + far, ARGUMENT, box -> box.poke(700, far));
            refused("pokeRom of " + far, ARGUMENT, box -> box.pokeRom(511, far));
            refused("pokeCartridge of " + far, ARGUMENT, box -> box.pokeCartridge(3, 511, far));
            refused("assemble of " + far, ARGUMENT, box -> box.assemble(700, far, 7));
            refused("assemble, one byte, with " + far, ARGUMENT, box -> box.assemble(700, 149, far));
            refused("assemble, two bytes, with " + far, ARGUMENT, box -> box.assemble(700, 1, far));
            refused("assemble, three bytes, with " + far, ARGUMENT, box -> box.assemble(700, 3, far));
            refused("compare of " + far, ARGUMENT, box -> box.compare(0, 1, far));
            refused("setRegister to " + far, ARGUMENT, box -> box.setRegister(0, far));
            refused("setRegister P to " + far, ARGUMENT, box -> box.setRegister(4, far));
            refused("run " + far, ARGUMENT, box -> box.run(far));
            refused("columns " + far, ARGUMENT, box -> box.columns(far));
            refused("joystick " + far, ARGUMENT, box -> box.joystick(far));
            refused("addPulse " + far, ARGUMENT, box -> box.addPulse(far));
        }
    }

    private static void moreArguments() {
        refused("poke of 256", ARGUMENT, box -> box.poke(700, 256));
        refused("pokeRom of 256", ARGUMENT, box -> box.pokeRom(511, 256));
        refused("pokeCartridge of 256", ARGUMENT, box -> box.pokeCartridge(3, 511, 256));
        refused("assemble of 256", ARGUMENT, box -> box.assemble(700, 256, 7));
        refused("assemble, one byte, with 4096", ARGUMENT, box -> box.assemble(700, 149, 4096));
        refused("assemble, two bytes, with 256", ARGUMENT, box -> box.assemble(700, 1, 256));
        refused("assemble, three bytes, with 4096", ARGUMENT, box -> box.assemble(700, 3, 4096));
        refused("compare of 0", ARGUMENT, box -> box.compare(0, 1, 0));
        refused("compare of 4097", ARGUMENT, box -> box.compare(0, 1, 4097));
        for (int n = 0; n < 4; n++) {
            int number = n;
            refused("setRegister " + n + " to 256", ARGUMENT, box -> box.setRegister(number, 256));
        }
        refused("setRegister P to 4096", ARGUMENT, box -> box.setRegister(4, 4096));
        refused("run 0", ARGUMENT, box -> box.run(0));
        refused("run 1001", ARGUMENT, box -> box.run(1001));
        refused("columns 16", ARGUMENT, box -> box.columns(16));
        refused("joystick 16", ARGUMENT, box -> box.joystick(16));
        refused("addPulse 0", ARGUMENT, box -> box.addPulse(0));
        refused("addPulse 1000", ARGUMENT, box -> box.addPulse(1000));
    }

    private static void states() {
        for (int n = 0; n < 5; n++) {
            int number = n;
            refused("setRegister " + n + " under way", STATE, box -> box.setRegister(number, 7));
        }
        refused("addPulse, 40 pulses", STATE, box -> box.addPulse(1));
        Rasterbox box = busyAndJammed();
        Due.fails("step, jammed", STATE, box::step);
        Due.is("behind step", seen(box), seen(busyAndJammed()));
        Rasterbox none = busy();
        none.restore(0);
        Due.fails("recorded, no record", STATE, none::recorded);
        Due.fails("isSame, no record", STATE, none::isSame);
        Due.is("no record was started", none.startRecord(), 0);
        Rasterbox untouched = busy();
        untouched.restore(0);
        untouched.startRecord();
        Due.is("behind recorded and isSame", seen(none), seen(untouched));
        Rasterbox full = busy();
        full.save();
        Due.fails("save, 3 snapshots", STATE, full::save);
        Due.is("behind save", seen(full), UNTOUCHED);
        Due.is("the third one is as it was", full.differences(2) > 0, true);
    }

    private static void snapshots() {
        for (int none : new int[] {-1, 2, 3, Integer.MIN_VALUE, Integer.MAX_VALUE}) {
            refused("restore " + none, NONE, box -> box.restore(none));
            refused("differences " + none, NONE, box -> box.differences(none));
        }
    }

    private static void indexBeforeArgument() {
        for (int wrong : new int[] {-1, 4096}) {
            refused("poke, both", INDEX, box -> box.poke(wrong, wrong));
            refused("pokeRom, both", INDEX, box -> box.pokeRom(wrong, wrong));
            refused("pokeCartridge, bank and value", INDEX, box -> box.pokeCartridge(wrong, 0, wrong));
            refused("pokeCartridge, index and value", INDEX, box -> box.pokeCartridge(0, wrong, wrong));
            refused("assemble, address and code", INDEX, box -> box.assemble(wrong, wrong, 0));
            refused("assemble, address and operand", INDEX, box -> box.assemble(wrong, 3, wrong));
            refused("compare, from and length", INDEX, box -> box.compare(wrong, 0, 0));
            refused("compare, to and length", INDEX, box -> box.compare(0, wrong, 4097));
        }
        refused("assemble, address and two bytes", INDEX, box -> box.assemble(4096, 1, 256));
    }

    private static void indexAndArgumentBeforeState() {
        refused("setRegister, all", INDEX, box -> box.setRegister(5, 4096));
        refused("setRegister, no such register, under way", INDEX, box -> box.setRegister(-1, 0));
        refused("setRegister, value, under way", ARGUMENT, box -> box.setRegister(0, 256));
        refused("setRegister, value of P, under way", ARGUMENT, box -> box.setRegister(4, 4096));
        refused("addPulse, length, 40 pulses", ARGUMENT, box -> box.addPulse(0));
        Rasterbox ready = Boxes.ready(600, 1, 2, 3, 0);
        Due.fails("setRegister, number and value", INDEX, () -> ready.setRegister(5, -1));
    }
}
