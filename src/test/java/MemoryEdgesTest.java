/** Every sentence on numbers, addresses and memory that names an edge, and the promises 2 to 6 and 10. */
public final class MemoryEdgesTest {
    private static final Class<IndexOutOfBoundsException> INDEX = IndexOutOfBoundsException.class;
    private static final Class<IllegalArgumentException> ARGUMENT = IllegalArgumentException.class;

    private MemoryEdgesTest() {
    }

    public static void main(String[] args) {
        bytes();
        addresses();
        sumsOfAddresses();
        sumsOfAddressesOfThePicture();
        pages();
        ramAtFirst();
        addressesOfRom();
        bitOfRom();
        addressesOfCartridge();
        bankOfCartridge();
        addressesOfRegisters();
        allElse();
        pictureReadsRam();
        pokeReturns();
        pokeRomReturns();
        pokeCartridgeReturns();
        peekWithoutEffect();
        ramOfEachAddress();
        compareLengths();
        compareCounts();
        Due.end("MemoryEdgesTest");
    }

    private static void bytes() {
        Due.by("All numbers in memory are bytes, from 0 to 255.");
        Rasterbox box = Boxes.ready(600, 0, 0, 0, 0);
        Due.is("poke 255", box.poke(700, 255), 0);
        Due.is("the byte", box.ram(700), 255);
        box.assemble(600, Boxes.code("inc") + 3, 700);
        box.assemble(603, Boxes.code("dec") + 3, 700);
        box.step();
        Due.is("one more than 255", box.ram(700), 0);
        box.step();
        Due.is("one less than 0", box.ram(700), 255);
        Due.is("poke 0", box.poke(700, 0), 255);
        Due.fails("poke 256", ARGUMENT, () -> box.poke(700, 256));
        Due.fails("poke -1", ARGUMENT, () -> box.poke(700, -1));
        Due.fails("pokeRom 256", ARGUMENT, () -> box.pokeRom(0, 256));
        Due.fails("pokeRom -1", ARGUMENT, () -> box.pokeRom(0, -1));
        Due.fails("pokeCartridge 256", ARGUMENT, () -> box.pokeCartridge(0, 0, 256));
        Due.fails("pokeCartridge -1", ARGUMENT, () -> box.pokeCartridge(0, 0, -1));
        Due.is("no byte was written", box.ram(700), 0);
    }

    private static void addresses() {
        Due.by("Addresses are from 0 to 4095");
        Rasterbox box = new Rasterbox();
        Due.is("poke the first", box.poke(0, 7), 0);
        Due.is("poke the last", box.poke(4095, 8), 0);
        Due.is("peek the first", box.peek(0), 7);
        Due.is("peek the last", box.peek(4095), 8);
        Due.is("ram of the first", box.ram(0), 7);
        Due.is("ram of the last", box.ram(4095), 8);
        for (int none : new int[] {-1, 4096}) {
            Due.fails("poke " + none, INDEX, () -> box.poke(none, 0));
            Due.fails("peek " + none, INDEX, () -> box.peek(none));
            Due.fails("ram " + none, INDEX, () -> box.ram(none));
            Due.fails("assemble " + none, INDEX, () -> box.assemble(none, 149, 0));
            Due.fails("writeLine " + none, INDEX, () -> box.writeLine(none));
            Due.fails("compare from " + none, INDEX, () -> box.compare(none, 0, 1));
            Due.fails("compare to " + none, INDEX, () -> box.compare(0, none, 1));
        }
    }

    private static void sumsOfAddresses() {
        Due.by("sums of addresses are taken modulo 4096");
        Rasterbox bytes = new Rasterbox();
        Due.is("behind three bytes at 4095", bytes.assemble(4095, Boxes.code("jmp"), 0x321), 2);
        Due.is("its low byte", bytes.ram(0), 0x21);
        Due.is("its high byte", bytes.ram(1), 3);
        Due.is("its line", Boxes.line(bytes, 4095), "4095 jmp 801");
        Rasterbox one = Boxes.ready(4095, 0, 0, 0, 0);
        one.poke(4095, Boxes.code("nop"));
        one.step();
        Due.is("P behind one byte at 4095", one.register(Boxes.P), 0);
        Rasterbox three = Boxes.ready(4095, 9, 0, 0, 0);
        three.assemble(4095, Boxes.code("sta") + 3, 700);
        three.step();
        Due.is("an operand at 0 and 1", three.ram(700), 9);
        Due.is("P behind three bytes at 4095", three.register(Boxes.P), 2);
        Rasterbox x = Boxes.ready(600, 9, 5, 250, 0);
        x.assemble(600, Boxes.code("sta") + 4, 4092);
        x.assemble(603, Boxes.code("sta") + 5, 4095);
        x.assemble(606, Boxes.code("sta") + 6, 40);
        x.poke(40, 10);
        x.poke(41, 15);
        x.step();
        x.step();
        Due.is("4092 plus X", x.ram(1), 9);
        Due.is("4095 plus Y", x.ram(249), 9);
        x.step();
        Due.is("3850 plus Y", x.ram(4), 9);
        Rasterbox jump = Boxes.ready(600, 0, 0, 0, 0);
        jump.poke(600, Boxes.code("jmp"));
        jump.poke(601, 7);
        jump.poke(602, 16);
        jump.step();
        Due.is("a high byte of 16", jump.register(Boxes.P), 7);
        Rasterbox same = new Rasterbox();
        same.poke(4095, 1);
        same.poke(0, 2);
        same.poke(500, 1);
        same.poke(501, 2);
        Due.is("compare behind 4095", same.compare(4095, 500, 2), 0);
        Due.is("compare with behind 4095", same.compare(500, 4095, 2), 0);
    }

    private static void sumsOfAddressesOfThePicture() {
        Due.by("sums of addresses are taken modulo 4096");
        Rasterbox box = Boxes.jammed();
        box.poke(Boxes.BACKGROUND + 1, 5);
        box.poke(Boxes.SCREEN, 1);
        box.poke(Boxes.LETTERS, 15);
        box.poke(256, 32);
        box.poke(0, 8);
        box.run(110);
        Due.is("the letter 32 behind 3840 is at 0", box.pixel(0, 0), 5);
        Due.is("and again", box.pixelAgain(0, 0), 5);
    }

    private static void pages() {
        Due.by("the page of an address is the address divided by 256");
        int[][] cases = {{1024, 255, 4}, {1025, 255, 5}, {1279, 0, 4}, {1279, 1, 5}, {255, 1, 5}, {4095, 1, 5}, {0, 255, 4}};
        for (int[] one : cases) {
            Rasterbox box = Boxes.ready(600, 0, one[1], 0, 0);
            box.assemble(600, Boxes.code("lda") + 4, one[0]);
            Due.is("lda " + one[0] + ",x with " + one[1], box.step(), one[2]);
        }
    }

    private static void ramAtFirst() {
        Due.by("There is RAM at all addresses, 0 at first.");
        Rasterbox box = new Rasterbox();
        int[] edges = {0, 255, 256, 2047, 2048, 2559, 2560, 3071, 3072, 3583, 3584, 3839, 3840, 3887, 3888, 4095};
        for (int address : edges) {
            Due.is("ram " + address, box.ram(address), 0);
        }
        box.save();
        for (int address : edges) {
            box.poke(address, 1);
        }
        Due.is("all but two registers are RAM", box.differences(0), edges.length - 2);
        Due.is("all are 0", new Rasterbox().compare(0, 2000, 1800), 0);
    }

    private static void addressesOfRom() {
        Due.by("The ROM has 512 bytes; it is read at 3072 to 3583 if bit 0 of the register 0 is 1.");
        Rasterbox box = new Rasterbox();
        Due.is("its first byte", box.pokeRom(0, 11), 0);
        Due.is("its last byte", box.pokeRom(511, 12), 0);
        Due.fails("behind it", INDEX, () -> box.pokeRom(512, 13));
        Due.fails("ahead of it", INDEX, () -> box.pokeRom(-1, 13));
        int[] addresses = {3071, 3072, 3583, 3584};
        int[] off = {1, 2, 3, 4};
        int[] on = {1, 11, 12, 4};
        for (int i = 0; i < 4; i++) {
            box.poke(addresses[i], off[i]);
        }
        for (int i = 0; i < 4; i++) {
            Due.is("off " + addresses[i], box.peek(addresses[i]), off[i]);
        }
        box.poke(Boxes.BANKS, 1);
        for (int i = 0; i < 4; i++) {
            Due.is("on " + addresses[i], box.peek(addresses[i]), on[i]);
        }
    }

    private static void bitOfRom() {
        Due.by("The ROM has 512 bytes; it is read at 3072 to 3583 if bit 0 of the register 0 is 1.");
        Rasterbox box = new Rasterbox();
        box.pokeRom(100, 77);
        for (int banks = 0; banks < 16; banks++) {
            box.poke(Boxes.BANKS, banks);
            Due.is("banks " + banks, box.peek(3172), banks % 2 == 1 ? 77 : 0);
        }
    }

    private static void addressesOfCartridge() {
        Due.by("The cartridge has 4 banks of 512 bytes; it is read at 2048 to 2559 if bit 1 of the register 0 is 1");
        Rasterbox box = new Rasterbox();
        for (int bank = 0; bank < 4; bank++) {
            Due.is("the first byte of " + bank, box.pokeCartridge(bank, 0, 11 + bank), 0);
            Due.is("the last byte of " + bank, box.pokeCartridge(bank, 511, 21 + bank), 0);
        }
        Due.fails("a bank 4", INDEX, () -> box.pokeCartridge(4, 0, 0));
        Due.fails("a bank -1", INDEX, () -> box.pokeCartridge(-1, 511, 0));
        Due.fails("a byte 512", INDEX, () -> box.pokeCartridge(0, 512, 0));
        Due.fails("a byte -1", INDEX, () -> box.pokeCartridge(3, -1, 0));
        int[] addresses = {2047, 2048, 2559, 2560};
        for (int i = 0; i < 4; i++) {
            box.poke(addresses[i], 1 + i);
        }
        int[][] seen = {{1, 2, 3, 4}, {1, 2, 3, 4}, {1, 11, 21, 4}, {1, 11, 21, 4}, {1, 2, 3, 4}, {1, 2, 3, 4},
            {1, 12, 22, 4}, {1, 12, 22, 4}};
        for (int banks = 0; banks < 8; banks++) {
            box.poke(Boxes.BANKS, banks);
            for (int i = 0; i < 4; i++) {
                Due.is("banks " + banks + " at " + addresses[i], box.peek(addresses[i]), seen[banks][i]);
            }
        }
    }

    private static void bankOfCartridge() {
        Due.by("with the bank that bits 2 and 3 of it tell");
        Rasterbox box = new Rasterbox();
        for (int bank = 0; bank < 4; bank++) {
            box.pokeCartridge(bank, 300, 50 + bank);
        }
        for (int bank = 0; bank < 4; bank++) {
            box.poke(Boxes.BANKS, 2 + 4 * bank);
            Due.is("bank " + bank, box.peek(2348), 50 + bank);
        }
        box.poke(Boxes.BANKS, 16 + 2);
        Due.is("bit 4 tells nothing", box.peek(2348), 50);
    }

    private static void addressesOfRegisters() {
        Due.by("The registers 0 to 47 are at 3840 to 3887, and are read and written there.");
        Rasterbox box = new Rasterbox();
        box.poke(3839, 200);
        box.poke(3888, 201);
        Due.is("ahead of them is RAM", box.ram(3839), 200);
        Due.is("behind them is RAM", box.ram(3888), 201);
        Due.is("and is read", box.peek(3839) + box.peek(3888), 401);
        box.poke(3840, 255);
        box.poke(3887, 255);
        box.poke(3883, 255);
        Due.is("the register 0", box.peek(3840), 15);
        Due.is("the register 43", box.peek(3883), 255);
        Due.is("the register 47", box.peek(3887), 0);
        Due.is("no RAM at 3840", box.ram(3840), 0);
        Due.is("no RAM at 3883", box.ram(3883), 0);
        Due.is("no RAM at 3887", box.ram(3887), 0);
    }

    private static void allElse() {
        Due.by("All else is read from RAM, and written to RAM, also below the ROM and the cartridge.");
        Rasterbox box = Boxes.ready(600, 99, 0, 0, 0);
        box.pokeRom(0, 1);
        box.pokeRom(511, 1);
        box.pokeCartridge(0, 0, 2);
        box.pokeCartridge(0, 511, 2);
        box.poke(Boxes.BANKS, 3);
        int[] addresses = {2048, 2559, 3072, 3583};
        int behind = 600;
        for (int address : addresses) {
            behind = box.assemble(behind, Boxes.code("sta") + 3, address);
        }
        for (int address : addresses) {
            box.step();
            Due.is("written below " + address, box.ram(address), 99);
            Due.is("but not read at " + address, box.peek(address), address < 3000 ? 2 : 1);
            box.poke(address, 98);
            Due.is("poke below " + address, box.ram(address), 98);
        }
        box.poke(Boxes.BANKS, 0);
        for (int address : addresses) {
            Due.is("read at " + address, box.peek(address), 98);
        }
        Due.is("the ROM stays", box.pokeRom(0, 0) + box.pokeRom(511, 0), 2);
        Due.is("the cartridge stays", box.pokeCartridge(0, 0, 0) + box.pokeCartridge(0, 511, 0), 4);
    }

    private static void pictureReadsRam() {
        Due.by("The picture reads RAM alone.");
        int[] pages = {8, 12, 15};
        for (int page : pages) {
            Rasterbox box = Boxes.jammed();
            box.poke(Boxes.MODE, 1);
            box.poke(Boxes.BACKGROUND, 3);
            box.poke(Boxes.BACKGROUND + 1, 4);
            box.poke(Boxes.SCREEN, page);
            box.pokeRom(0, 255);
            box.pokeCartridge(0, 0, 255);
            box.poke(Boxes.BANKS, 3);
            box.run(108);
            Due.is("neither ROM nor cartridge nor registers, page " + page, box.pixel(0, 0), 3);
            Due.is("nor again, page " + page, box.pixelAgain(0, 0), 3);
        }
        Rasterbox low = Boxes.jammed();
        low.poke(Boxes.MODE, 1);
        low.poke(Boxes.BACKGROUND + 1, 4);
        low.poke(Boxes.SCREEN, 12);
        low.pokeRom(0, 0);
        low.poke(Boxes.BANKS, 1);
        low.poke(3072, 128);
        low.run(108);
        Due.is("the RAM below the ROM", low.pixel(0, 0), 4);
    }

    private static void pokeReturns() {
        Due.by("Returns what would be read there before, without an effect.");
        Rasterbox box = new Rasterbox();
        box.pokeRom(0, 9);
        box.poke(3072, 5);
        Due.is("of RAM", box.poke(3072, 6), 5);
        box.poke(Boxes.BANKS, 1);
        Due.is("of the ROM", box.poke(3072, 7), 9);
        box.run(24);
        box.poke(Boxes.LINE, 30);
        Due.is("the line that is read, not that to be met", box.poke(Boxes.LINE, 31), 1);
        box.poke(Boxes.LATCH_A, 44);
        Due.is("the count, not the latch", box.poke(Boxes.LATCH_A, 45), 0);
        Due.is("the flags as they were", box.poke(Boxes.FLAGS, 1), 1);
        Due.is("they are cleared then", box.peek(Boxes.FLAGS), 0);
    }

    private static void pokeRomReturns() {
        Due.by("Sets a byte of the ROM.");
        Rasterbox box = new Rasterbox();
        for (int index : new int[] {0, 255, 256, 511}) {
            Due.is("at first " + index, box.pokeRom(index, 255), 0);
            Due.is("before " + index, box.pokeRom(index, 3), 255);
        }
        box.poke(Boxes.BANKS, 1);
        Due.is("four bytes alone", box.compare(3072, 0, 512), 4);
        Due.is("RAM stays", box.ram(3072) + box.ram(3583), 0);
    }

    private static void pokeCartridgeReturns() {
        Due.by("Sets a byte of the cartridge.");
        Rasterbox box = new Rasterbox();
        for (int bank = 0; bank < 4; bank++) {
            Due.is("at first " + bank, box.pokeCartridge(bank, 0, 255), 0);
            Due.is("before " + bank, box.pokeCartridge(bank, 0, 3), 255);
            Due.is("the last at first " + bank, box.pokeCartridge(bank, 511, 4), 0);
        }
        for (int bank = 0; bank < 4; bank++) {
            box.poke(Boxes.BANKS, 2 + 4 * bank);
            Due.is("two bytes in " + bank, box.compare(2048, 0, 512), 2);
        }
    }

    private static void peekWithoutEffect() {
        Due.by("Returns what the processor would read, without an effect.");
        Rasterbox box = Boxes.hit();
        for (int i = 0; i < 2; i++) {
            Due.is("hits of sprites, time " + i, box.peek(Boxes.HITS_OF_SPRITES), 3);
            Due.is("hits of the solid, time " + i, box.peek(Boxes.HITS_OF_SOLID), 3);
        }
        Due.is("compared", box.compare(Boxes.HITS_OF_SPRITES, 5, 2), 2);
        Due.is("written", box.poke(Boxes.HITS_OF_SPRITES, 0), 3);
        box.writeLine(Boxes.HITS_OF_SPRITES);
        Due.is("they stay", box.peek(Boxes.HITS_OF_SPRITES), 3);
    }

    private static void ramOfEachAddress() {
        Due.by("Returns a byte of RAM.");
        Rasterbox box = new Rasterbox();
        box.pokeRom(0, 1);
        box.pokeCartridge(3, 0, 2);
        box.poke(Boxes.BANKS, 15);
        box.poke(Boxes.BACKGROUND, 4);
        Due.is("below the ROM", box.ram(3072), 0);
        Due.is("below the cartridge", box.ram(2048), 0);
        Due.is("below a register", box.ram(Boxes.BACKGROUND), 0);
    }

    private static void compareLengths() {
        Due.by("`length`: how many, 1 to 4096");
        Rasterbox box = new Rasterbox();
        box.poke(0, 1);
        Due.is("1", box.compare(0, 1, 1), 1);
        Due.is("4096", box.compare(0, 1, 4096), 2);
        Due.fails("0", ARGUMENT, () -> box.compare(0, 1, 0));
        Due.fails("-1", ARGUMENT, () -> box.compare(0, 1, -1));
        Due.fails("4097", ARGUMENT, () -> box.compare(0, 1, 4097));
    }

    private static void compareCounts() {
        Due.by("Compares bytes as peek() gives them.");
        Rasterbox box = new Rasterbox();
        box.poke(100, 7);
        box.poke(102, 8);
        Due.is("the last one counts", box.compare(100, 200, 3), 2);
        Due.is("the next one does not", box.compare(99, 199, 3), 1);
        Due.is("with itself", box.compare(4000, 4000, 4096), 0);
        box.poke(Boxes.BACKGROUND, 7);
        Due.is("a register", box.compare(Boxes.BACKGROUND, 100, 1), 0);
        box.pokeRom(511, 8);
        Due.is("the ROM is off", box.compare(3583, 102, 1), 1);
        box.poke(Boxes.BANKS, 1);
        Due.is("the ROM is on", box.compare(3583, 102, 1), 0);
    }
}
