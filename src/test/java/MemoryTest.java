/** Promises 1 to 6 and 10: a new object, RAM, the ROM, the cartridge, and what lies over what. */
public final class MemoryTest {
    private static final Class<IndexOutOfBoundsException> INDEX = IndexOutOfBoundsException.class;
    private static final Class<IllegalArgumentException> ARGUMENT = IllegalArgumentException.class;

    private MemoryTest() {
    }

    public static void main(String[] args) {
        newObject();
        newRegisters();
        ramEverywhere();
        romOverRam();
        cartridgeOverRam();
        compared();
        wrongInputs();
        Due.end("MemoryTest");
    }

    private static void newObject() {
        Rasterbox box = new Rasterbox();
        Due.is("A", box.register(0), 0);
        Due.is("X", box.register(1), 0);
        Due.is("Y", box.register(2), 0);
        Due.is("S", box.register(3), 255);
        Due.is("P", box.register(4), 0);
        Due.is("status", box.status(), 52);
        Due.is("cycle", box.cycle(), 0);
        Due.is("under way", box.underWay(), 0);
        Due.is("done", box.done(), 0);
        Due.is("jammed", box.isJammed(), false);
        Due.is("pictures", box.pictures(), 0);
        Due.is("sum of picture", box.sumOfPicture(), 0);
        Due.exactly("solid share", box.solidShare(), 0);
        Due.exactly("mean sample", box.meanSample(), 0);
        Due.is("pulses left", box.pulsesLeft(), 0);
        Due.is("columns", box.columns(15), 0);
        Due.is("joystick", box.joystick(0), 0);
        Due.is("level", box.level(0) + box.level(1) + box.level(2), 0);
        Due.is("is of the picture", box.isPictures(), false);
        for (int address = 0; address < 4096; address += 13) {
            Due.is("ram " + address, box.ram(address), 0);
        }
    }

    private static void newRegisters() {
        Rasterbox box = new Rasterbox();
        for (int number = 0; number < 48; number++) {
            Due.is("register " + number, box.peek(3840 + number), 0);
        }
        Rasterbox run = new Rasterbox();
        run.run(24);
        Due.is("the first line is met in the first cycle", run.peek(3850), 1);
    }

    private static void ramEverywhere() {
        Rasterbox box = new Rasterbox();
        int[] addresses = {0, 1, 255, 256, 2047, 2048, 2559, 2560, 3071, 3072, 3583, 3584, 3839, 3888, 4095};
        for (int i = 0; i < addresses.length; i++) {
            Due.is("poke answers what was there", box.poke(addresses[i], 200 + i), 0);
        }
        for (int i = 0; i < addresses.length; i++) {
            Due.is("peek " + addresses[i], box.peek(addresses[i]), 200 + i);
            Due.is("ram " + addresses[i], box.ram(addresses[i]), 200 + i);
            Due.is("poke again " + addresses[i], box.poke(addresses[i], 255 - i), 200 + i);
            Due.is("ram again " + addresses[i], box.ram(addresses[i]), 255 - i);
        }
        Due.is("a register is no RAM", box.poke(3843, 7), 0);
        Due.is("a register is read", box.peek(3843), 7);
        Due.is("RAM under a register", box.ram(3843), 0);
        Due.is("the next byte of RAM", box.ram(3888), 242);
    }

    private static void romOverRam() {
        Rasterbox box = new Rasterbox();
        Due.is("pokeRom first", box.pokeRom(0, 11), 0);
        Due.is("pokeRom last", box.pokeRom(511, 12), 0);
        Due.is("pokeRom again", box.pokeRom(0, 13), 11);
        box.poke(3072, 21);
        box.poke(3583, 22);
        Due.is("the ROM is off", box.peek(3072), 21);
        Due.is("banks were", box.poke(3840, 1), 0);
        Due.is("the ROM is on", box.peek(3072), 13);
        Due.is("its last byte", box.peek(3583), 12);
        Due.is("ahead of it", box.peek(3071), 0);
        Due.is("behind it", box.peek(3584), 0);
        Due.is("RAM below", box.ram(3072), 21);
        Due.is("poke over the ROM answers the ROM", box.poke(3072, 23), 13);
        Due.is("and writes below", box.ram(3072), 23);
        Due.is("the ROM stays", box.peek(3072), 13);
        box.poke(3840, 14);
        Due.is("bits 1 to 3 leave it off", box.peek(3072), 23);
    }

    private static void cartridgeOverRam() {
        Rasterbox box = new Rasterbox();
        for (int bank = 0; bank < 4; bank++) {
            Due.is("pokeCartridge first", box.pokeCartridge(bank, 0, 10 + bank), 0);
            Due.is("pokeCartridge last", box.pokeCartridge(bank, 511, 20 + bank), 0);
        }
        Due.is("pokeCartridge again", box.pokeCartridge(3, 511, 99), 23);
        box.poke(2048, 77);
        box.poke(2559, 78);
        box.poke(2047, 79);
        box.poke(2560, 80);
        for (int bank = 0; bank < 4; bank++) {
            box.poke(3840, 4 * bank);
            Due.is("the cartridge is off " + bank, box.peek(2048), 77);
            box.poke(3840, 4 * bank + 2);
            Due.is("bank " + bank, box.peek(2048), 10 + bank);
            Due.is("its last byte " + bank, box.peek(2559), bank == 3 ? 99 : 20 + bank);
            Due.is("ahead of it", box.peek(2047), 79);
            Due.is("behind it", box.peek(2560), 80);
            Due.is("RAM below", box.ram(2048), 77);
        }
        Due.is("poke over the cartridge answers it", box.poke(2559, 81), 99);
        Due.is("and writes below", box.ram(2559), 81);
        Due.is("the cartridge stays", box.peek(2559), 99);
    }

    private static void compared() {
        Rasterbox box = new Rasterbox();
        box.poke(100, 1);
        box.poke(102, 2);
        box.poke(4095, 3);
        Due.is("the same", box.compare(100, 100, 4096), 0);
        Due.is("two differ", box.compare(100, 200, 3), 2);
        Due.is("one differs", box.compare(100, 200, 1), 1);
        Due.is("none differs", box.compare(101, 200, 1), 0);
        Due.is("behind the last address the first one", box.compare(4095, 200, 102), 2);
        box.poke(0, 4);
        box.poke(300, 3);
        box.poke(301, 4);
        Due.is("the others go round too", box.compare(300, 4095, 2), 0);
        box.pokeRom(0, 9);
        box.poke(400, 9);
        Due.is("the ROM is off", box.compare(400, 3072, 1), 1);
        box.poke(3840, 1);
        Due.is("as peek gives them", box.compare(400, 3072, 1), 0);
    }

    private static void wrongInputs() {
        Rasterbox box = new Rasterbox();
        box.save();
        int[] noAddresses = {-1, 4096, Integer.MIN_VALUE, Integer.MAX_VALUE};
        int[] noBytes = {-1, 256, Integer.MIN_VALUE, Integer.MAX_VALUE};
        for (int bad : noAddresses) {
            Due.fails("poke at " + bad, INDEX, () -> box.poke(bad, 256));
            Due.fails("peek at " + bad, INDEX, () -> box.peek(bad));
            Due.fails("ram at " + bad, INDEX, () -> box.ram(bad));
            Due.fails("compare from " + bad, INDEX, () -> box.compare(bad, 0, 0));
            Due.fails("compare to " + bad, INDEX, () -> box.compare(0, bad, 4097));
            Due.fails("pokeRom at " + bad, INDEX, () -> box.pokeRom(bad, -1));
            Due.fails("pokeCartridge in " + bad, INDEX, () -> box.pokeCartridge(bad, 0, 300));
            Due.fails("pokeCartridge at " + bad, INDEX, () -> box.pokeCartridge(0, bad, 300));
        }
        Due.fails("pokeRom at 512", INDEX, () -> box.pokeRom(512, 0));
        Due.fails("pokeCartridge in 4", INDEX, () -> box.pokeCartridge(4, 0, 0));
        Due.fails("pokeCartridge at 512", INDEX, () -> box.pokeCartridge(3, 512, 0));
        for (int bad : noBytes) {
            Due.fails("poke " + bad, ARGUMENT, () -> box.poke(4095, bad));
            Due.fails("pokeRom " + bad, ARGUMENT, () -> box.pokeRom(511, bad));
            Due.fails("pokeCartridge " + bad, ARGUMENT, () -> box.pokeCartridge(3, 511, bad));
        }
        Due.fails("compare none", ARGUMENT, () -> box.compare(0, 0, 0));
        Due.fails("compare too many", ARGUMENT, () -> box.compare(0, 0, 4097));
        Due.fails("compare less than none", ARGUMENT, () -> box.compare(0, 0, -1));
        Due.is("nothing has changed", box.differences(0), 0);
        Due.is("no byte of the ROM has changed", box.pokeRom(511, 0), 0);
        Due.is("no byte of the cartridge has changed", box.pokeCartridge(3, 511, 0), 0);
    }
}
