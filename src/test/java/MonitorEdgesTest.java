/** Every sentence on the monitor that names an edge, and the promises 7 to 9. */
public final class MonitorEdgesTest {
    private static final Class<IndexOutOfBoundsException> INDEX = IndexOutOfBoundsException.class;
    private static final Class<IllegalArgumentException> ARGUMENT = IllegalArgumentException.class;

    private MonitorEdgesTest() {
    }

    public static void main(String[] args) {
        addressesOfLines();
        namesOrJam();
        modes();
        codesOfTwoAndThreeBytes();
        targetsOfBranches();
        decimalNumbers();
        examples();
        operandsRound();
        assembledBytes();
        assembledAddressBehind();
        assembledAsPoked();
        assembledCodes();
        assembledOperands();
        assembledOperandsOfTwoBytes();
        lineInPlace();
        lineOfWhatIsRead();
        lineAtFirst();
        charactersOfALine();
        Due.end("MonitorEdgesTest");
    }

    private static String lineOf(int address, int code, int operand) {
        Rasterbox box = new Rasterbox();
        box.assemble(address, code, operand);
        return Boxes.line(box, address);
    }

    private static void addressesOfLines() {
        Due.by("The line of an address is the address, a blank, and the name of the code there, or \"jam\"");
        for (int address : new int[] {0, 9, 10, 99, 100, 999, 1000, 3839, 3888, 4095}) {
            Due.is("at " + address, lineOf(address, Boxes.code("nop"), 0), address + " nop");
        }
        Rasterbox box = new Rasterbox();
        for (int none : new int[] {-1, 4096, Integer.MIN_VALUE, Integer.MAX_VALUE}) {
            Due.fails("at " + none, INDEX, () -> box.writeLine(none));
        }
    }

    private static void namesOrJam() {
        Due.by("the name of the code there, or \"jam\"");
        String[] names = {
            "inx", "dex", "iny", "dey", "tax", "txa", "tay", "tya", "tsx", "txs", "pha", "pla", "php", "plp", "sec", "clc", "sed",
            "cld", "sei", "cli", "clv", "nop", "asl", "lsr", "rol", "ror", "brk", "rti", "rts"};
        for (int i = 0; i < names.length; i++) {
            Due.is("code " + (128 + i), lineOf(600, 128 + i, 4095), "600 " + names[i]);
        }
        for (int code = 168; code < 256; code++) {
            if (code < 192 || code > 231) {
                Due.is("code " + code, lineOf(600, code, 4095), "600 jam");
            }
        }
    }

    private static void modes() {
        Due.by("\" #\" and the byte for the mode 0; \" \" and the byte or the address for 1 and 3, and for the codes of two and three bytes");
        String[] names = {
            "lda", "ldx", "ldy", "sta", "stx", "sty", "adc", "sbc", "and", "ora", "eor", "cmp", "cpx", "cpy", "inc", "dec", "lax",
            "sax", "dcp", "isc", "bit"};
        String[] ahead = {" #", " ", " ", " ", " ", " ", " (", " ("};
        String[] behind = {"", "", ",x", "", ",x", ",y", "),y", ",x)"};
        for (int i = 0; i < names.length; i++) {
            for (int mode = 0; mode < 8; mode++) {
                int code = (i < 16 ? 8 * i : 192 + 8 * (i - 16)) + mode;
                int[] operands = mode >= 3 && mode <= 5 ? new int[] {0, 255, 256, 4095} : new int[] {0, 9, 255};
                for (int operand : operands) {
                    Due.is("code " + code, lineOf(600, code, operand), "600 " + names[i] + ahead[mode] + operand + behind[mode]);
                }
            }
        }
    }

    private static void codesOfTwoAndThreeBytes() {
        Due.by("and for the codes of two and three bytes (the address to which a branch goes, \"(\" and \")\" around that of jmi)");
        for (int operand : new int[] {0, 255, 256, 4095}) {
            Due.is("jmp", lineOf(600, 157, operand), "600 jmp " + operand);
            Due.is("jsr", lineOf(600, 158, operand), "600 jsr " + operand);
            Due.is("jmi", lineOf(600, 159, operand), "600 jmi (" + operand + ")");
        }
    }

    private static void targetsOfBranches() {
        Due.by("the address to which a branch goes");
        String[] names = {"bne", "beq", "bcc", "bcs", "bpl", "bmi", "bvc", "bvs"};
        for (int i = 0; i < 8; i++) {
            Due.is("0", lineOf(600, 160 + i, 0), "600 " + names[i] + " 602");
            Due.is("127", lineOf(600, 160 + i, 127), "600 " + names[i] + " 729");
            Due.is("128", lineOf(600, 160 + i, 128), "600 " + names[i] + " 474");
            Due.is("255", lineOf(600, 160 + i, 255), "600 " + names[i] + " 601");
        }
        Due.is("over the end", lineOf(4095, 160, 10), "4095 bne 11");
        Due.is("just over the end", lineOf(4094, 160, 0), "4094 bne 0");
        Due.is("back over the beginning", lineOf(0, 160, 253), "0 bne 4095");
    }

    private static void decimalNumbers() {
        Due.by("Numbers are decimal.");
        Due.is("of four digits", lineOf(1023, 3, 3000), "1023 lda 3000");
        Due.is("no zeros ahead", lineOf(7, 0, 5), "7 lda #5");
    }

    private static void examples() {
        Due.by("As in \"256 lda #7\", \"300 sta (12),y\" or \"512 bne 500\".");
        Due.is("the first", lineOf(256, 0, 7), "256 lda #7");
        Due.is("the second", lineOf(300, 30, 12), "300 sta (12),y");
        Due.is("the third", lineOf(512, 160, 242), "512 bne 500");
    }

    private static void operandsRound() {
        Due.by("sums of addresses are taken modulo 4096");
        Due.is("three bytes at 4095", lineOf(4095, 3, 1000), "4095 lda 1000");
        Due.is("three bytes at 4094", lineOf(4094, 159, 1000), "4094 jmi (1000)");
        Due.is("two bytes at 4095", lineOf(4095, 7, 200), "4095 lda (200,x)");
        Rasterbox high = new Rasterbox();
        high.assemble(600, 4, 0);
        high.poke(601, 5);
        high.poke(602, 16);
        Due.is("a high byte of 16", Boxes.line(high, 600), "600 lda 5,x");
    }

    private static void assembledBytes() {
        Due.by("the code, and behind it the operand, if the code has one: its low byte, and its high byte for three bytes");
        int[][] cases = {{149, 1}, {154, 1}, {255, 1}, {168, 1}, {0, 2}, {1, 2}, {2, 2}, {6, 2}, {7, 2}, {160, 2}, {167, 2}, {192, 2},
            {231, 2}, {3, 3}, {4, 3}, {5, 3}, {157, 3}, {158, 3}, {159, 3}, {227, 3}};
        for (int[] one : cases) {
            Rasterbox box = new Rasterbox();
            for (int i = 0; i < 4; i++) {
                box.poke(600 + i, 99);
            }
            int operand = one[1] == 2 ? 200 : 2760;
            Due.is("behind " + one[0], box.assemble(600, one[0], operand), 600 + one[1]);
            Due.is("the code " + one[0], box.ram(600), one[0]);
            Due.is("the low byte of " + one[0], box.ram(601), one[1] > 1 ? 200 : 99);
            Due.is("the high byte of " + one[0], box.ram(602), one[1] > 2 ? 10 : 99);
            Due.is("no more of " + one[0], box.ram(603), 99);
        }
    }

    private static void assembledAddressBehind() {
        Due.by("Returns the address behind it.");
        int[][] cases = {{4093, 3, 0}, {4094, 3, 1}, {4095, 3, 2}, {4092, 3, 4095}, {4094, 0, 0}, {4095, 0, 1}, {4095, 149, 0}, {0, 149, 1}};
        for (int[] one : cases) {
            Rasterbox box = new Rasterbox();
            Due.is("code " + one[1] + " at " + one[0], box.assemble(one[0], one[1], 0), one[2]);
        }
        Rasterbox round = new Rasterbox();
        round.assemble(4095, 3, 0x321);
        Due.is("bytes over the end", round.ram(4095) * 1000000 + round.ram(0) * 1000 + round.ram(1), 3033003);
        for (int none : new int[] {-1, 4096, Integer.MIN_VALUE, Integer.MAX_VALUE}) {
            Due.fails("at " + none, INDEX, () -> round.assemble(none, 149, 0));
        }
    }

    private static void assembledAsPoked() {
        Due.by("Writes an instruction, byte by byte, as poke() would");
        Rasterbox box = new Rasterbox();
        box.pokeRom(0, 1);
        box.poke(Boxes.BANKS, 1);
        box.assemble(3072, 3, 257);
        Due.is("below the ROM", box.ram(3072) * 10000 + box.ram(3073) * 100 + box.ram(3074), 30101);
        Due.is("the ROM stays", box.peek(3072), 1);
        box.assemble(3838, 3, 0x305);
        Due.is("the register 0, 4 bits", box.peek(Boxes.BANKS), 3);
        Due.is("no RAM below it", box.ram(Boxes.BANKS), 0);
        box.assemble(Boxes.FLAGS - 1, 3, 0);
        Due.is("no flag is set by writing", box.peek(Boxes.FLAGS), 0);
        box.poke(Boxes.LATCH_A, 9);
        box.assemble(Boxes.TIMERS, 1, 0);
        Due.is("a timer begins", box.peek(Boxes.LATCH_A), 9);
    }

    private static void assembledCodes() {
        Due.by("Throws `IllegalArgumentException` if the code is no byte, or the operand is out of range, or greater than 255 for a code of two bytes");
        Rasterbox box = new Rasterbox();
        Due.is("code 0", box.assemble(600, 0, 0), 602);
        Due.is("code 255", box.assemble(600, 255, 0), 601);
        for (int wrong : new int[] {-1, 256, Integer.MIN_VALUE, Integer.MAX_VALUE}) {
            Due.fails("code " + wrong, ARGUMENT, () -> box.assemble(600, wrong, 0));
            Due.fails("no address is told first, code " + wrong, INDEX, () -> box.assemble(4096, wrong, 0));
        }
        Due.is("nothing is written", box.ram(600), 255);
    }

    private static void assembledOperands() {
        Due.by("`operand`: the operand, 0 to 4095");
        for (int code : new int[] {149, 255, 3, 157, 0, 160}) {
            Rasterbox box = new Rasterbox();
            box.assemble(600, code, 0);
            box.save();
            for (int wrong : new int[] {-1, 4096, Integer.MIN_VALUE, Integer.MAX_VALUE}) {
                Due.fails("code " + code + " operand " + wrong, ARGUMENT, () -> box.assemble(600, code, wrong));
            }
            Due.is("nothing is written by " + code, box.differences(0), 0);
        }
        Rasterbox box = new Rasterbox();
        Due.is("4095 for one byte", box.assemble(600, 149, 4095), 601);
        Due.is("4095 for a jam", box.assemble(600, 191, 4095), 601);
        Due.is("4095 for three bytes", box.assemble(600, 157, 4095), 603);
        Due.is("it is written", box.ram(601) * 1000 + box.ram(602), 255015);
    }

    private static void assembledOperandsOfTwoBytes() {
        Due.by("or greater than 255 for a code of two bytes");
        for (int code : new int[] {0, 1, 2, 6, 7, 127, 160, 167, 192, 231}) {
            Rasterbox box = new Rasterbox();
            Due.is("255 for " + code, box.assemble(600, code, 255), 602);
            Due.fails("256 for " + code, ARGUMENT, () -> box.assemble(700, code, 256));
            Due.fails("4095 for " + code, ARGUMENT, () -> box.assemble(700, code, 4095));
            Due.is("nothing is written by " + code, box.ram(700) + box.ram(701), 0);
        }
        Rasterbox three = new Rasterbox();
        for (int code : new int[] {3, 4, 5, 123, 157, 158, 159, 229}) {
            Due.is("256 for " + code, three.assemble(600, code, 256), 603);
        }
    }

    private static void lineInPlace() {
        Due.by("Writes the line of an address, in place of the one before.");
        Rasterbox box = new Rasterbox();
        box.assemble(4000, 6, 200);
        box.assemble(1, 149, 0);
        Due.is("a long one", box.writeLine(4000), 16);
        Due.is("a short one", box.writeLine(1), 5);
        Due.is("its last character", box.lineAt(4), 'p');
        Due.fails("none of the long one", INDEX, () -> box.lineAt(5));
        box.poke(1, 128);
        Due.is("it stays as it was written", box.lineAt(2), 'n');
        Due.fails("no such address", INDEX, () -> box.writeLine(4096));
        Due.is("and stays then", box.lineAt(0), '1');
    }

    private static void lineOfWhatIsRead() {
        Due.by("the name of the code there");
        Rasterbox box = Boxes.hit();
        box.pokeRom(511, 157);
        box.poke(3583, 149);
        box.poke(3584, 44);
        box.poke(3585, 1);
        Due.is("of RAM", Boxes.line(box, 3583), "3583 nop");
        box.poke(Boxes.BANKS, 1);
        Due.is("of the ROM, and RAM behind it", Boxes.line(box, 3583), "3583 jmp 300");
        Due.is("of registers", Boxes.line(box, Boxes.HITS_OF_SPRITES), "3869 lda 3");
        Due.is("without an effect", box.peek(Boxes.HITS_OF_SPRITES) * 10 + box.peek(Boxes.HITS_OF_SOLID), 33);
    }

    private static void lineAtFirst() {
        Due.by("Returns a character of the line, which is empty at first.");
        Rasterbox box = new Rasterbox();
        for (int none : new int[] {0, -1, 1, Integer.MIN_VALUE, Integer.MAX_VALUE}) {
            Due.fails("at first " + none, INDEX, () -> box.lineAt(none));
        }
    }

    private static void charactersOfALine() {
        Due.by("Throws `IndexOutOfBoundsException` if there is no such character");
        Rasterbox box = new Rasterbox();
        int length = box.writeLine(4095);
        Due.is("its length", length, 11);
        String text = "4095 lda #0";
        for (int i = 0; i < length; i++) {
            Due.is("character " + i, box.lineAt(i), text.charAt(i));
        }
        for (int none : new int[] {-1, length, length + 1, Integer.MIN_VALUE, Integer.MAX_VALUE}) {
            Due.fails("character " + none, INDEX, () -> box.lineAt(none));
        }
    }
}
