/** Every exception of every method, in the order in which the document lists them; none changes anything. */
public final class WrongInputTest {
    private static final Class<IndexOutOfBoundsException> INDEX = IndexOutOfBoundsException.class;
    private static final Class<IllegalArgumentException> ARGUMENT = IllegalArgumentException.class;
    private static final Class<IllegalStateException> STATE = IllegalStateException.class;
    private static final Class<java.util.NoSuchElementException> NONE = java.util.NoSuchElementException.class;

    private static final int[] FAR = {-1, Integer.MIN_VALUE, Integer.MAX_VALUE};

    private WrongInputTest() {
    }

    public static void main(String[] args) {
        writing();
        reading();
        processor();
        time();
        outside();
        records();
        Due.end("WrongInputTest");
    }

    /** A machine in the middle of everything, with one snapshot and a record. */
    private static Rasterbox busy() {
        Rasterbox box = new Rasterbox();
        box.poke(3841, 1);
        box.poke(3843, 2);
        box.poke(3844, 5);
        box.poke(60, 170);
        box.poke(3873, 40);
        box.poke(3874, 1);
        box.poke(3852, 30);
        box.poke(3856, 1);
        box.poke(3884, 1);
        box.addPulse(100);
        box.addPulse(900);
        box.key(1, 2, true);
        box.joystick(5);
        box.assemble(600, 114, 40);
        box.assemble(602, 157, 600);
        box.setRegister(4, 600);
        box.run(700);
        for (int i = 0; i < 9 && box.underWay() == 0; i++) {
            box.run(1);
        }
        box.writeLine(600);
        box.save();
        box.startRecord();
        box.poke(700, 3);
        return box;
    }

    /** All that can be seen of a machine in some 90 calls. */
    private static String seen(Rasterbox box) {
        StringBuilder text = new StringBuilder();
        for (int n = 0; n < 48; n++) {
            text.append(box.peek(3840 + n)).append(' ');
        }
        for (int n = 0; n < 5; n++) {
            text.append(box.register(n)).append(' ');
        }
        for (int n = 0; n < 3; n++) {
            text.append(box.level(n)).append(' ').append(box.traceAt(n)).append(' ');
        }
        for (int rows = 0; rows < 16; rows += 5) {
            text.append(box.columns(rows)).append(' ');
        }
        text.append(box.status()).append(' ').append(box.cycle()).append(' ').append(box.isPictures()).append(' ');
        text.append(box.underWay()).append(' ').append(box.done()).append(' ').append(box.isJammed()).append(' ');
        text.append(box.pulsesLeft()).append(' ').append(box.differences(0)).append(' ');
        text.append(box.sumOfPicture()).append(' ').append(box.pictures()).append(' ');
        text.append(box.solidShare()).append(' ').append(box.meanSample()).append(' ');
        text.append(box.recorded()).append(' ').append(box.compare(0, 1, 4096)).append(' ');
        text.append(box.lineAt(4)).append(box.lineAt(10)).append(box.pixelAgain(3, 9)).append(box.sample(7));
        return text.toString();
    }

    private static void writing() {
        Rasterbox box = busy();
        String before = seen(box);
        for (int far : FAR) {
            Due.fails("poke at " + far, INDEX, () -> box.poke(far, far));
            Due.fails("poke of " + far, ARGUMENT, () -> box.poke(700, far));
            Due.fails("pokeRom at " + far, INDEX, () -> box.pokeRom(far, far));
            Due.fails("pokeRom of " + far, ARGUMENT, () -> box.pokeRom(0, far));
            Due.fails("pokeCartridge in " + far, INDEX, () -> box.pokeCartridge(far, 0, far));
            Due.fails("pokeCartridge at " + far, INDEX, () -> box.pokeCartridge(0, far, far));
            Due.fails("pokeCartridge of " + far, ARGUMENT, () -> box.pokeCartridge(0, 0, far));
            Due.fails("assemble at " + far, INDEX, () -> box.assemble(far, far, far));
            Due.fails("assemble of " + far, ARGUMENT, () -> box.assemble(700, far, 0));
            Due.fails("assemble with " + far, ARGUMENT, () -> box.assemble(700, 3, far));
        }
        Due.fails("poke at 4096", INDEX, () -> box.poke(4096, 256));
        Due.fails("poke of 256", ARGUMENT, () -> box.poke(700, 256));
        Due.fails("pokeRom at 512", INDEX, () -> box.pokeRom(512, 256));
        Due.fails("pokeRom of 256", ARGUMENT, () -> box.pokeRom(511, 256));
        Due.fails("pokeCartridge in 4", INDEX, () -> box.pokeCartridge(4, 511, 256));
        Due.fails("pokeCartridge at 512", INDEX, () -> box.pokeCartridge(3, 512, 256));
        Due.fails("pokeCartridge of 256", ARGUMENT, () -> box.pokeCartridge(3, 511, 256));
        Due.fails("assemble at 4096", INDEX, () -> box.assemble(4096, 256, 4096));
        Due.fails("assemble of 256", ARGUMENT, () -> box.assemble(700, 256, 0));
        Due.fails("assemble with 4096", ARGUMENT, () -> box.assemble(700, 3, 4096));
        Due.fails("assemble with 256 for two bytes", ARGUMENT, () -> box.assemble(700, 0, 256));
        Due.fails("assemble with 4096 for one byte", ARGUMENT, () -> box.assemble(700, 128, 4096));
        Due.is("after wrong writing", seen(box), before);
        Due.is("the ROM", box.pokeRom(511, 1) + box.pokeRom(0, 1), 0);
        Due.is("the cartridge", box.pokeCartridge(3, 511, 1) + box.pokeCartridge(0, 0, 1), 0);
    }

    private static void reading() {
        Rasterbox box = busy();
        String before = seen(box);
        for (int far : FAR) {
            Due.fails("peek at " + far, INDEX, () -> box.peek(far));
            Due.fails("ram at " + far, INDEX, () -> box.ram(far));
            Due.fails("writeLine of " + far, INDEX, () -> box.writeLine(far));
            Due.fails("lineAt " + far, INDEX, () -> box.lineAt(far));
            Due.fails("compare from " + far, INDEX, () -> box.compare(far, 0, far));
            Due.fails("compare to " + far, INDEX, () -> box.compare(0, far, far));
            Due.fails("compare of " + far, ARGUMENT, () -> box.compare(0, 0, far));
            Due.fails("pixel x " + far, INDEX, () -> box.pixel(far, 0));
            Due.fails("pixel y " + far, INDEX, () -> box.pixel(0, far));
            Due.fails("pixelAgain x " + far, INDEX, () -> box.pixelAgain(far, 0));
            Due.fails("pixelAgain y " + far, INDEX, () -> box.pixelAgain(0, far));
            Due.fails("sample " + far, INDEX, () -> box.sample(far));
            Due.fails("level " + far, INDEX, () -> box.level(far));
            Due.fails("traceAt " + far, INDEX, () -> box.traceAt(far));
        }
        Due.fails("peek at 4096", INDEX, () -> box.peek(4096));
        Due.fails("ram at 4096", INDEX, () -> box.ram(4096));
        Due.fails("writeLine of 4096", INDEX, () -> box.writeLine(4096));
        Due.fails("lineAt 12", INDEX, () -> box.lineAt(12));
        Due.fails("compare from 4096", INDEX, () -> box.compare(4096, 0, 0));
        Due.fails("compare to 4096", INDEX, () -> box.compare(0, 4096, 4097));
        Due.fails("compare of 0", ARGUMENT, () -> box.compare(4095, 4095, 0));
        Due.fails("compare of 4097", ARGUMENT, () -> box.compare(0, 0, 4097));
        Due.fails("pixel x 32", INDEX, () -> box.pixel(32, 31));
        Due.fails("pixel y 32", INDEX, () -> box.pixel(31, 32));
        Due.fails("pixelAgain x 32", INDEX, () -> box.pixelAgain(32, 31));
        Due.fails("pixelAgain y 32", INDEX, () -> box.pixelAgain(31, 32));
        Due.fails("sample 40", INDEX, () -> box.sample(40));
        Due.fails("level 3", INDEX, () -> box.level(3));
        Due.fails("traceAt 16", INDEX, () -> box.traceAt(16));
        Due.is("after wrong reading", seen(box), before);
    }

    private static void processor() {
        Rasterbox box = busy();
        String before = seen(box);
        for (int far : FAR) {
            Due.fails("register " + far, INDEX, () -> box.register(far));
            Due.fails("setRegister " + far, INDEX, () -> box.setRegister(far, far));
            Due.fails("setRegister to " + far, ARGUMENT, () -> box.setRegister(0, far));
            Due.fails("setRegister P to " + far, ARGUMENT, () -> box.setRegister(4, far));
        }
        Due.fails("register 5", INDEX, () -> box.register(5));
        Due.fails("setRegister 5", INDEX, () -> box.setRegister(5, 4096));
        for (int n = 0; n < 4; n++) {
            int number = n;
            Due.fails("setRegister " + n + " to 256", ARGUMENT, () -> box.setRegister(number, 256));
        }
        Due.fails("setRegister P to 4096", ARGUMENT, () -> box.setRegister(4, 4096));
        for (int n = 0; n < 5; n++) {
            int number = n;
            Due.fails("setRegister " + n + " under way", STATE, () -> box.setRegister(number, 0));
        }
        Due.is("after wrong registers", seen(box), before);
        Rasterbox jammed = busy();
        jammed.poke(600, 255);
        jammed.poke(602, 255);
        jammed.step();
        String jam = seen(jammed);
        Due.fails("step when jammed", STATE, jammed::step);
        Due.is("after a wrong step", seen(jammed), jam);
        Due.is("it is jammed", jammed.isJammed(), true);
    }

    private static void time() {
        Rasterbox box = busy();
        String before = seen(box);
        for (int far : FAR) {
            Due.fails("run " + far, ARGUMENT, () -> box.run(far));
        }
        Due.fails("run 0", ARGUMENT, () -> box.run(0));
        Due.fails("run 1001", ARGUMENT, () -> box.run(1001));
        Due.is("after wrong runs", seen(box), before);
    }

    private static void outside() {
        Rasterbox box = busy();
        String before = seen(box);
        for (int far : FAR) {
            Due.fails("key in row " + far, INDEX, () -> box.key(far, 0, true));
            Due.fails("key in column " + far, INDEX, () -> box.key(0, far, true));
            Due.fails("columns " + far, ARGUMENT, () -> box.columns(far));
            Due.fails("joystick " + far, ARGUMENT, () -> box.joystick(far));
            Due.fails("addPulse " + far, ARGUMENT, () -> box.addPulse(far));
        }
        Due.fails("key in row 4", INDEX, () -> box.key(4, 3, true));
        Due.fails("key in column 4", INDEX, () -> box.key(3, 4, true));
        Due.fails("columns 16", ARGUMENT, () -> box.columns(16));
        Due.fails("joystick 16", ARGUMENT, () -> box.joystick(16));
        Due.fails("addPulse 0", ARGUMENT, () -> box.addPulse(0));
        Due.fails("addPulse 1000", ARGUMENT, () -> box.addPulse(1000));
        Due.is("after wrong keys", seen(box), before);
        Due.is("the last length", box.addPulse(999), 3);
        for (int i = 4; i <= 40; i++) {
            box.addPulse(1);
        }
        String full = seen(box);
        Due.fails("a bad length for a full tape", ARGUMENT, () -> box.addPulse(1000));
        Due.fails("a full tape", STATE, () -> box.addPulse(999));
        Due.is("after a full tape", seen(box), full);
    }

    private static void records() {
        Rasterbox box = busy();
        String before = seen(box);
        for (int far : FAR) {
            Due.fails("restore " + far, NONE, () -> box.restore(far));
            Due.fails("differences " + far, NONE, () -> box.differences(far));
        }
        Due.fails("restore 1", NONE, () -> box.restore(1));
        Due.fails("differences 1", NONE, () -> box.differences(1));
        Due.is("after wrong snapshots", seen(box), before);
        box.save();
        box.save();
        Due.fails("a fourth snapshot", STATE, box::save);
        Due.is("after a fourth snapshot", seen(box), before);
        Due.fails("restore 3", NONE, () -> box.restore(3));
        box.restore(2);
        Due.fails("no record", STATE, box::recorded);
        Due.fails("no record to play", STATE, box::isSame);
        Due.is("there was none", box.startRecord(), 0);
    }
}
