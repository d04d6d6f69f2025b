/** Promises 7 to 9: assemble, writeLine and lineAt. */
public final class MonitorTest {
    private static final Class<IndexOutOfBoundsException> INDEX = IndexOutOfBoundsException.class;
    private static final Class<IllegalArgumentException> ARGUMENT = IllegalArgumentException.class;

    private static final String[] OPERATIONS = {
        "lda", "ldx", "ldy", "sta", "stx", "sty", "adc", "sbc", "and", "ora", "eor", "cmp", "cpx", "cpy", "inc",
        "dec", "lax", "sax", "dcp", "isc", "bit"};
    private static final String[] OF_ONE_BYTE = {
        "inx", "dex", "iny", "dey", "tax", "txa", "tay", "tya", "tsx", "txs", "pha", "pla", "php", "plp", "sec",
        "clc", "sed", "cld", "sei", "cli", "clv", "nop", "asl", "lsr", "rol", "ror", "brk", "rti", "rts"};
    private static final String[] BRANCHES = {"bne", "beq", "bcc", "bcs", "bpl", "bmi", "bvc", "bvs"};

    private MonitorTest() {
    }

    public static void main(String[] args) {
        emptyLine();
        everyCode();
        examples();
        branches();
        endOfMemory();
        overRegisters();
        asRead();
        wrongInputs();
        Due.end("MonitorTest");
    }

    private static String lineOf(Rasterbox box, int address) {
        int length = box.writeLine(address);
        StringBuilder text = new StringBuilder();
        for (int i = 0; i < length; i++) {
            text.append(box.lineAt(i));
        }
        Due.fails("behind the line", INDEX, () -> box.lineAt(length));
        return text.toString();
    }

    private static void emptyLine() {
        Rasterbox box = new Rasterbox();
        Due.fails("the line is empty at first", INDEX, () -> box.lineAt(0));
        Due.fails("-1", INDEX, () -> box.lineAt(-1));
        Due.is("a line", lineOf(box, 0), "0 lda #0");
        Due.is("a longer one", lineOf(box, 4095), "4095 lda #0");
        Due.is("in place of the one before", lineOf(box, 7), "7 lda #0");
        Due.fails("no such address", INDEX, () -> box.writeLine(4096));
        Due.fails("no such address", INDEX, () -> box.writeLine(-1));
        Due.is("the line stays", box.lineAt(0), '7');
        Due.fails("far behind", INDEX, () -> box.lineAt(Integer.MAX_VALUE));
        Due.fails("far ahead", INDEX, () -> box.lineAt(Integer.MIN_VALUE));
    }

    /** The operand is 200 for two bytes, 2760 (200, 10) for three. */
    private static String expected(int code) {
        if (code < 128 || code >= 192 && code < 232) {
            String name = OPERATIONS[code < 128 ? code / 8 : code / 8 - 8];
            String[] operands = {
                " #200", " 200", " 200,x", " 2760", " 2760,x", " 2760,y", " (200),y", " (200,x)"};
            return "600 " + name + operands[code % 8];
        }
        if (code < 157) {
            return "600 " + OF_ONE_BYTE[code - 128];
        }
        switch (code) {
            case 157: return "600 jmp 2760";
            case 158: return "600 jsr 2760";
            case 159: return "600 jmi (2760)";
            default: return code < 168 ? "600 " + BRANCHES[code - 160] + " 546" : "600 jam";
        }
    }

    private static int lengthOf(int code) {
        if (code < 128 || code >= 192 && code < 232) {
            return code % 8 >= 3 && code % 8 <= 5 ? 3 : 2;
        }
        if (code >= 157 && code < 160) {
            return 3;
        }
        return code >= 160 && code < 168 ? 2 : 1;
    }

    private static void everyCode() {
        for (int code = 0; code < 256; code++) {
            Rasterbox box = new Rasterbox();
            int length = lengthOf(code);
            box.poke(601, 77);
            box.poke(602, 78);
            Due.is("assemble " + code, box.assemble(600, code, length == 2 ? 200 : 2760), 600 + length);
            Due.is("the code " + code, box.ram(600), code);
            Due.is("behind it " + code, box.ram(601), length > 1 ? 200 : 77);
            Due.is("and behind that " + code, box.ram(602), length > 2 ? 10 : 78);
            Due.is("line of " + code, lineOf(box, 600), expected(code));
        }
    }

    private static void examples() {
        Rasterbox box = new Rasterbox();
        box.assemble(256, 0, 7);
        box.assemble(300, 30, 12);
        box.assemble(512, 160, 242);
        Due.is("256", lineOf(box, 256), "256 lda #7");
        Due.is("300", lineOf(box, 300), "300 sta (12),y");
        Due.is("512", lineOf(box, 512), "512 bne 500");
        box.assemble(9, 3, 4095);
        Due.is("the last address", lineOf(box, 9), "9 lda 4095");
        box.poke(11, 255);
        Due.is("addresses are modulo 4096", lineOf(box, 9), "9 lda 4095");
        box.poke(11, 18);
        Due.is("addresses are modulo 4096", lineOf(box, 9), "9 lda 767");
    }

    private static void branches() {
        Rasterbox box = new Rasterbox();
        box.assemble(100, 161, 127);
        Due.is("the farthest", lineOf(box, 100), "100 beq 229");
        box.assemble(100, 161, 128);
        Due.is("the farthest back", lineOf(box, 100), "100 beq 4070");
        box.assemble(100, 161, 0);
        Due.is("the next", lineOf(box, 100), "100 beq 102");
        box.assemble(100, 161, 254);
        Due.is("itself", lineOf(box, 100), "100 beq 100");
        box.assemble(4090, 167, 10);
        Due.is("over the end", lineOf(box, 4090), "4090 bvs 6");
    }

    private static void endOfMemory() {
        Rasterbox box = new Rasterbox();
        Due.is("three bytes at the end", box.assemble(4095, 27, 700), 2);
        Due.is("the code", box.ram(4095), 27);
        Due.is("the low byte", box.ram(0), 188);
        Due.is("the high byte", box.ram(1), 2);
        Due.is("its line", lineOf(box, 4095), "4095 sta 700");
        Due.is("one byte at the end", box.assemble(4095, 149, 4095), 0);
        Due.is("two bytes at the end", box.assemble(4094, 0, 255), 0);
    }

    private static void overRegisters() {
        Rasterbox box = new Rasterbox();
        box.assemble(3842, 27, 4095);
        Due.is("the register 2", box.peek(3842), 27);
        Due.is("the register 3 keeps 4 bits", box.peek(3843), 15);
        Due.is("the register 4", box.peek(3844), 15);
        Due.is("no RAM is written", box.ram(3842) + box.ram(3843) + box.ram(3844), 0);
        Due.is("the line of registers", lineOf(box, 3842), "3842 sta 3855");
    }

    private static void asRead() {
        Rasterbox box = new Rasterbox();
        box.pokeRom(0, 157);
        box.pokeRom(1, 1);
        box.pokeRom(2, 2);
        Due.is("the ROM is off", lineOf(box, 3072), "3072 lda #0");
        box.poke(3840, 1);
        Due.is("the ROM is on", lineOf(box, 3072), "3072 jmp 513");
        box.assemble(3072, 149, 0);
        Due.is("below the ROM", box.ram(3072), 149);
        Due.is("the ROM stays", lineOf(box, 3072), "3072 jmp 513");
    }

    private static void wrongInputs() {
        Rasterbox box = new Rasterbox();
        box.save();
        box.writeLine(12);
        int[] noAddresses = {-1, 4096, Integer.MIN_VALUE, Integer.MAX_VALUE};
        for (int bad : noAddresses) {
            Due.fails("assemble at " + bad, INDEX, () -> box.assemble(bad, 256, 5000));
            Due.fails("the line of " + bad, INDEX, () -> box.writeLine(bad));
            Due.fails("an operand " + bad, ARGUMENT, () -> box.assemble(600, 3, bad));
            Due.fails("an operand for one byte " + bad, ARGUMENT, () -> box.assemble(600, 149, bad));
            Due.fails("an operand for jam " + bad, ARGUMENT, () -> box.assemble(600, 255, bad));
        }
        int[] noBytes = {-1, 256, Integer.MIN_VALUE, Integer.MAX_VALUE};
        for (int bad : noBytes) {
            Due.fails("a code " + bad, ARGUMENT, () -> box.assemble(600, bad, 0));
            Due.fails("a byte for two bytes " + bad, ARGUMENT, () -> box.assemble(600, 1, bad));
        }
        Due.fails("256 for a branch", ARGUMENT, () -> box.assemble(600, 160, 256));
        Due.fails("4095 for the mode 7", ARGUMENT, () -> box.assemble(600, 231, 4095));
        Due.is("nothing was written", box.differences(0), 0);
        Due.is("the line stays", box.lineAt(1), '2');
        Due.is("4095 for one byte", box.assemble(600, 149, 4095), 601);
        Due.is("4095 for jam", box.assemble(600, 168, 4095), 601);
    }
}
