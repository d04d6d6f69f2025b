/** Promises 11 to 13, 17 and 20 to 23: the registers and every code of the processor, with its cycles. */
public final class ProcessorTest {
    private static final int C = 1;
    private static final int Z = 2;
    private static final int I = 4;
    private static final int D = 8;
    private static final int V = 64;
    private static final int N = 128;

    private ProcessorTest() {
    }

    public static void main(String[] args) {
        registers();
        loads();
        modes();
        pagesOfModes();
        stores();
        changes();
        writersOfModeNone();
        logic();
        compares();
        binarySums();
        decimalSums();
        decimalExamples();
        moves();
        flagCodes();
        shifts();
        stack();
        stackGoesRound();
        branches();
        branchesOverPages();
        jumps();
        subroutines();
        breaks();
        jams();
        trace();
        underWay();
        bytesOfTheLastCycle();
        endOfMemory();
        codeInTheRom();
        Due.end("ProcessorTest");
    }

    /** A machine with P at an address, in the mode 3, so that every cycle is of the processor. */
    private static Rasterbox at(int address, int a, int x, int y, int flags) {
        Rasterbox box = new Rasterbox();
        box.poke(3841, 3);
        box.poke(511, flags);
        box.setRegister(3, 254);
        box.assemble(4090, 141, 0);
        box.setRegister(4, 4090);
        Due.is("plp", box.step(), 4);
        box.setRegister(0, a);
        box.setRegister(1, x);
        box.setRegister(2, y);
        box.setRegister(4, address);
        return box;
    }

    private static void state(String what, Rasterbox box, int a, int x, int y, int s, int p, int flags) {
        Due.is(what + ": A", box.register(0), a);
        Due.is(what + ": X", box.register(1), x);
        Due.is(what + ": Y", box.register(2), y);
        Due.is(what + ": S", box.register(3), s);
        Due.is(what + ": P", box.register(4), p);
        Due.is(what + ": status", box.status(), flags | 48);
    }

    /** Does one instruction at 600; the registers ahead of it and behind it are a, x, y and the flags. */
    private static Rasterbox once(String what, int code, int operand, int cycles, int[] ahead, int[] behind) {
        Rasterbox box = at(600, ahead[0], ahead[1], ahead[2], ahead[3]);
        int next = box.assemble(600, code, operand);
        Due.is(what + ": cycles", box.step(), cycles);
        state(what, box, behind[0], behind[1], behind[2], 255, next, behind[3]);
        return box;
    }

    private static int[] of(int a, int x, int y, int flags) {
        return new int[] {a, x, y, flags};
    }

    private static void registers() {
        Rasterbox box = new Rasterbox();
        for (int n = 0; n < 5; n++) {
            int value = n == 4 ? 4095 : 255 - n;
            Due.is("before " + n, box.setRegister(n, value), n == 3 ? 255 : 0);
            Due.is("register " + n, box.register(n), value);
            Due.is("set again " + n, box.setRegister(n, n), value);
        }
        for (int n = 0; n < 5; n++) {
            Due.is("register " + n + " is kept", box.register(n), n);
        }
        Due.is("no flag is touched", box.status(), 52);
    }

    private static void loads() {
        once("lda", 0, 5, 2, of(0, 2, 3, Z | N | C), of(5, 2, 3, C));
        once("lda of 0", 0, 0, 2, of(9, 2, 3, N | V), of(0, 2, 3, Z | V));
        once("lda of 128", 0, 128, 2, of(9, 2, 3, Z), of(128, 2, 3, N));
        once("ldx", 8, 200, 2, of(1, 2, 3, 0), of(1, 200, 3, N));
        once("ldy", 16, 0, 2, of(1, 2, 3, 0), of(1, 2, 0, Z));
        once("lax", 192, 7, 2, of(1, 2, 3, 0), of(7, 7, 3, 0));
        once("lax of 0", 192, 0, 2, of(1, 2, 3, 0), of(0, 0, 3, Z));
        once("lax of 255", 192, 255, 2, of(1, 2, 3, 0), of(255, 255, 3, N));
    }

    private static void mode(String what, int mode, int operand, int cycles, int x, int y, int... memory) {
        int[] codes = {0, 72, 192};
        for (int code : codes) {
            Rasterbox box = at(600, 0, x, y, 0);
            box.poke(602, 9);
            for (int i = 0; i < memory.length; i += 2) {
                box.poke(memory[i], memory[i + 1]);
            }
            int next = box.assemble(600, code + mode, operand);
            Due.is(what + ": cycles of " + code, box.step(), cycles);
            Due.is(what + ": A of " + code, box.register(0), 77);
            Due.is(what + ": X of " + code, box.register(1), code == 192 ? 77 : x);
            Due.is(what + ": P of " + code, box.register(4), next);
            Due.is(what + ": status of " + code, box.status(), 48);
        }
    }

    private static void modes() {
        mode("mode 0", 0, 77, 2, 5, 9);
        mode("mode 1", 1, 40, 3, 5, 9, 40, 77);
        mode("mode 2", 2, 40, 4, 5, 9, 45, 77);
        mode("mode 2 goes round", 2, 250, 4, 10, 9, 4, 77);
        mode("mode 3", 3, 1000, 4, 5, 9, 1000, 77);
        mode("mode 4", 4, 1024, 4, 255, 9, 1279, 77);
        mode("mode 5", 5, 1024, 4, 5, 255, 1279, 77);
        mode("mode 6", 6, 40, 5, 5, 9, 40, 0, 41, 4, 1033, 77);
        mode("mode 6 goes round", 6, 255, 5, 5, 9, 255, 2, 0, 4, 1035, 77);
        mode("mode 7", 7, 40, 6, 5, 9, 45, 1, 46, 4, 1025, 77);
        mode("mode 7 goes round", 7, 250, 6, 5, 9, 255, 1, 0, 4, 1025, 77);
        mode("mode 7 goes round before", 7, 254, 6, 5, 9, 3, 1, 4, 4, 1025, 77);
    }

    private static void pagesOfModes() {
        mode("mode 4 to another page", 4, 1025, 5, 255, 9, 1280, 77);
        mode("mode 5 to another page", 5, 1279, 5, 5, 1, 1280, 77);
        mode("mode 6 to another page", 6, 40, 6, 5, 1, 40, 255, 41, 4, 1280, 77);
        mode("mode 4 goes round", 4, 4095, 5, 3, 9, 2, 77);
        mode("mode 6 goes round", 6, 40, 6, 5, 250, 40, 10, 41, 15, 4, 77);
        mode("mode 7 has no other page", 7, 40, 6, 5, 250, 45, 255, 46, 4, 1279, 77);
        Rasterbox box = at(600, 0, 1, 0, 0);
        box.assemble(600, 3, 0);
        box.poke(601, 232);
        box.poke(602, 0x53);
        box.poke(1000, 77);
        box.step();
        Due.is("an address is modulo 4096", box.register(0), 77);
    }

    private static void stores() {
        int[] modes = {1, 2, 3, 4, 5, 6, 7};
        int[] operands = {40, 40, 1000, 1000, 1000, 50, 45};
        int[] addresses = {40, 43, 1000, 1003, 1004, 1034, 1030};
        int[] cycles = {3, 4, 4, 5, 5, 6, 6};
        int[] codes = {24, 32, 40, 200};
        int[] values = {6, 3, 4, 2};
        String[] names = {"sta", "stx", "sty", "sax"};
        for (int i = 0; i < codes.length; i++) {
            for (int m = 0; m < modes.length; m++) {
                Rasterbox box = at(600, 6, 3, 4, Z | N | C | V);
                box.poke(50, 6);
                box.poke(51, 4);
                box.poke(48, 6);
                box.poke(49, 4);
                int next = box.assemble(600, codes[i] + modes[m], operands[m]);
                String what = names[i] + " in mode " + modes[m];
                Due.is(what + ": cycles", box.step(), cycles[m]);
                Due.is(what + ": memory", box.ram(addresses[m]), values[i]);
                state(what, box, 6, 3, 4, 255, next, Z | N | C | V);
            }
        }
        Rasterbox page = at(600, 6, 255, 4, 0);
        page.assemble(600, 28, 1000);
        Due.is("a store to another page takes no more", page.step(), 5);
        Due.is("and writes there", page.ram(1255), 6);
    }

    private static void change(String what, int code, int cycles, int before, int after, int[] from, int[] to) {
        Rasterbox box = at(600, from[0], from[1], from[2], from[3]);
        int[] memory = {40, 43, 1000, 1003, 1004, 1034, 1030};
        int[] operands = {40, 40, 1000, 1000, 1000, 50, 45};
        int mode = code % 8;
        box.poke(50, 6);
        box.poke(51, 4);
        box.poke(48, 6);
        box.poke(49, 4);
        box.poke(memory[mode - 1], before);
        int next = box.assemble(600, code, operands[mode - 1]);
        Due.is(what + ": cycles", box.step(), cycles);
        Due.is(what + ": memory", box.ram(memory[mode - 1]), after);
        state(what, box, to[0], to[1], to[2], 255, next, to[3]);
    }

    private static void changes() {
        int[] cycles = {0, 5, 6, 6, 7, 7, 8, 8};
        for (int mode = 1; mode < 8; mode++) {
            String in = " in mode " + mode;
            change("inc" + in, 112 + mode, cycles[mode], 9, 10, of(6, 3, 4, Z), of(6, 3, 4, 0));
            change("dec" + in, 120 + mode, cycles[mode], 9, 8, of(6, 3, 4, N), of(6, 3, 4, 0));
            change("dcp" + in, 208 + mode, cycles[mode], 9, 8, of(8, 3, 4, N), of(8, 3, 4, Z | C));
            change("isc" + in, 216 + mode, cycles[mode], 9, 10, of(30, 3, 4, C), of(20, 3, 4, C));
        }
        change("inc of 255", 113, 5, 255, 0, of(6, 3, 4, N | C), of(6, 3, 4, Z | C));
        change("inc of 127", 113, 5, 127, 128, of(6, 3, 4, 0), of(6, 3, 4, N));
        change("dec of 0", 121, 5, 0, 255, of(6, 3, 4, Z), of(6, 3, 4, N));
        change("dec of 1", 121, 5, 1, 0, of(6, 3, 4, N), of(6, 3, 4, Z));
        change("dcp of 0", 209, 5, 0, 255, of(8, 3, 4, C), of(8, 3, 4, 0));
        change("dcp below A", 209, 5, 8, 7, of(200, 3, 4, 0), of(200, 3, 4, C | N));
        change("isc of 255", 217, 5, 255, 0, of(30, 3, 4, 0), of(29, 3, 4, C));
        change("isc, less than 0", 217, 5, 30, 31, of(30, 3, 4, C), of(255, 3, 4, N));
        change("isc with v", 217, 5, 0, 1, of(128, 3, 4, C), of(127, 3, 4, C | V));
        change("isc in decimal", 217, 5, 0x18, 0x19, of(0x42, 3, 4, C | D), of(0x23, 3, 4, C | D));
    }

    private static void writersOfModeNone() {
        int[] codes = {24, 32, 40, 112, 120, 200, 208, 216};
        for (int code : codes) {
            Rasterbox box = once("mode 0 of " + code, code, 7, 2, of(6, 3, 4, Z | V), of(6, 3, 4, Z | V));
            Due.is("nothing is written by " + code, box.ram(7) + box.ram(601), 7);
        }
    }

    private static void logic() {
        once("and", 64, 12, 2, of(10, 2, 3, C), of(8, 2, 3, C));
        once("and of 0", 64, 5, 2, of(10, 2, 3, N), of(0, 2, 3, Z));
        once("and with n", 64, 240, 2, of(255, 2, 3, Z), of(240, 2, 3, N));
        once("ora", 72, 12, 2, of(10, 2, 3, Z), of(14, 2, 3, 0));
        once("ora of 0", 72, 0, 2, of(0, 2, 3, N), of(0, 2, 3, Z));
        once("ora with n", 72, 128, 2, of(1, 2, 3, Z), of(129, 2, 3, N));
        once("eor", 80, 12, 2, of(10, 2, 3, Z), of(6, 2, 3, 0));
        once("eor of itself", 80, 10, 2, of(10, 2, 3, N), of(0, 2, 3, Z));
        once("eor with n", 80, 128, 2, of(10, 2, 3, Z), of(138, 2, 3, N));
        once("bit", 224, 12, 2, of(10, 2, 3, Z | N | V), of(10, 2, 3, 0));
        once("bit, n and v", 224, 192, 2, of(64, 2, 3, Z), of(64, 2, 3, N | V));
        once("bit, z", 224, 63, 2, of(192, 2, 3, N | V), of(192, 2, 3, Z));
        once("bit, z and n", 224, 128, 2, of(127, 2, 3, C), of(127, 2, 3, Z | N | C));
    }

    private static void compares() {
        for (int i = 0; i < 3; i++) {
            int code = 88 + 8 * i;
            int[] ahead = of(50, 50, 50, V | N | Z);
            once("same " + code, code, 50, 2, ahead, of(50, 50, 50, V | Z | C));
            once("less " + code, code, 51, 2, ahead, of(50, 50, 50, V | N));
            once("much less " + code, code, 250, 2, ahead, of(50, 50, 50, V));
            once("greater " + code, code, 49, 2, ahead, of(50, 50, 50, V | C));
        }
        once("cmp takes A", 88, 9, 2, of(9, 2, 3, 0), of(9, 2, 3, Z | C));
        once("cpx takes X", 96, 9, 2, of(1, 9, 3, 0), of(1, 9, 3, Z | C));
        once("cpy takes Y", 104, 9, 2, of(1, 2, 9, 0), of(1, 2, 9, Z | C));
        once("cmp with n", 88, 1, 2, of(200, 2, 3, 0), of(200, 2, 3, C | N));
    }

    private static int signed(int value) {
        return value > 127 ? value - 256 : value;
    }

    private static void binarySums() {
        int[] values = {0, 1, 15, 79, 80, 127, 128, 129, 200, 254, 255};
        for (int a : values) {
            for (int m : values) {
                for (int c = 0; c < 2; c++) {
                    int sum = a + m + c;
                    int result = sum % 256;
                    int real = signed(a) + signed(m) + c;
                    int flags = (sum > 255 ? C : 0) + (result == 0 ? Z : 0) + (result > 127 ? N : 0)
                            + (real < -128 || real > 127 ? V : 0);
                    String what = a + " and " + m + " and " + c;
                    once("adc " + what, 48, m, 2, of(a, 2, 3, c | V), of(result, 2, 3, flags));
                    once("sbc " + what, 56, 255 - m, 2, of(a, 2, 3, c | V), of(result, 2, 3, flags));
                }
            }
        }
    }

    private static void decimalSums() {
        int[] values = {0, 1, 9, 10, 25, 45, 50, 78, 99};
        for (int a : values) {
            for (int m : values) {
                for (int c = 0; c < 2; c++) {
                    String what = a + " and " + m + " and " + c;
                    decimal("decimal adc " + what, 48, a, m, c, a + m + c, a + m + c > 99);
                    decimal("decimal sbc " + what, 56, a, m, c, a - m - 1 + c + 100, a - m - 1 + c >= 0);
                }
            }
        }
    }

    /** Two digits each; v is told by the binary sum, and so is not looked at here. */
    private static void decimal(String what, int code, int a, int m, int c, int sum, boolean isCarried) {
        Rasterbox box = at(600, a / 10 * 16 + a % 10, 0, 0, D | c);
        box.assemble(600, code, m / 10 * 16 + m % 10);
        box.step();
        int result = sum % 100 / 10 * 16 + sum % 10;
        Due.is(what, box.register(0), result);
        int flags = (isCarried ? C : 0) + (result == 0 ? Z : 0) + (result > 127 ? N : 0) + D;
        Due.is(what + ": status", box.status() & ~V, 48 + flags);
    }

    private static void decimalExamples() {
        once("v by the binary sum", 48, 0x50, 2, of(0x50, 2, 3, D), of(0, 2, 3, D | C | Z | V));
        once("no v", 48, 0x10, 2, of(0x10, 2, 3, D | V), of(0x20, 2, 3, D));
        once("v of sbc", 56, 0x01, 2, of(0x80, 2, 3, D | C), of(0x79, 2, 3, D | C | V));
        once("no digits, adc", 48, 0x0F, 2, of(0x0F, 2, 3, D | C), of(0x25, 2, 3, D));
        once("no digits, high", 48, 0xFF, 2, of(0xFF, 2, 3, D | C), of(0x65, 2, 3, D | C));
        once("no digits, sbc", 56, 0x0F, 2, of(0x00, 2, 3, D), of(0x8A, 2, 3, D | N));
        once("no digits, sbc, high", 56, 0xF0, 2, of(0x00, 2, 3, D | C), of(0xB0, 2, 3, D | N));
        once("less than 0", 56, 0x01, 2, of(0x00, 2, 3, D | C), of(0x99, 2, 3, D | N));
        once("d does not touch inc", 128, 0, 2, of(9, 9, 9, D), of(9, 10, 9, D));
    }

    private static void moves() {
        once("inx", 128, 0, 2, of(1, 2, 3, Z | N), of(1, 3, 3, 0));
        once("inx of 255", 128, 0, 2, of(1, 255, 3, N), of(1, 0, 3, Z));
        once("dex", 129, 0, 2, of(1, 2, 3, Z | N), of(1, 1, 3, 0));
        once("dex of 0", 129, 0, 2, of(1, 0, 3, Z), of(1, 255, 3, N));
        once("iny", 130, 0, 2, of(1, 2, 127, Z), of(1, 2, 128, N));
        once("iny of 255", 130, 0, 2, of(1, 2, 255, N), of(1, 2, 0, Z));
        once("dey", 131, 0, 2, of(1, 2, 1, N), of(1, 2, 0, Z));
        once("dey of 0", 131, 0, 2, of(1, 2, 0, Z), of(1, 2, 255, N));
        once("tax", 132, 0, 2, of(0, 2, 3, N), of(0, 0, 3, Z));
        once("txa", 133, 0, 2, of(1, 200, 3, Z), of(200, 200, 3, N));
        once("tay", 134, 0, 2, of(9, 2, 3, Z | N | C), of(9, 2, 9, C));
        once("tya", 135, 0, 2, of(1, 2, 0, N), of(0, 2, 0, Z));
        once("tsx", 136, 0, 2, of(1, 2, 3, Z), of(1, 255, 3, N));
        once("nop", 149, 0, 2, of(1, 2, 3, Z | N | C | V | D | I), of(1, 2, 3, Z | N | C | V | D | I));
        Rasterbox box = at(600, 1, 0, 3, N | C);
        box.assemble(600, 137, 0);
        Due.is("txs: cycles", box.step(), 2);
        state("txs", box, 1, 0, 3, 0, 601, N | C);
    }

    private static void flagCodes() {
        int all = Z | N | C | V | D | I;
        once("sec", 142, 0, 2, of(1, 2, 3, 0), of(1, 2, 3, C));
        once("clc", 143, 0, 2, of(1, 2, 3, all), of(1, 2, 3, all - C));
        once("sed", 144, 0, 2, of(1, 2, 3, 0), of(1, 2, 3, D));
        once("cld", 145, 0, 2, of(1, 2, 3, all), of(1, 2, 3, all - D));
        once("sei", 146, 0, 2, of(1, 2, 3, 0), of(1, 2, 3, I));
        once("cli", 147, 0, 2, of(1, 2, 3, all), of(1, 2, 3, all - I));
        once("clv", 148, 0, 2, of(1, 2, 3, all), of(1, 2, 3, all - V));
    }

    private static void shifts() {
        once("asl", 150, 0, 2, of(65, 2, 3, C | Z), of(130, 2, 3, N));
        once("asl of 128", 150, 0, 2, of(128, 2, 3, 0), of(0, 2, 3, Z | C));
        once("lsr", 151, 0, 2, of(255, 2, 3, N), of(127, 2, 3, C));
        once("lsr of 1", 151, 0, 2, of(1, 2, 3, N), of(0, 2, 3, Z | C));
        once("lsr of 2", 151, 0, 2, of(2, 2, 3, C), of(1, 2, 3, 0));
        once("rol", 152, 0, 2, of(128, 2, 3, C), of(1, 2, 3, C));
        once("rol without c", 152, 0, 2, of(128, 2, 3, 0), of(0, 2, 3, Z | C));
        once("rol of 64", 152, 0, 2, of(64, 2, 3, C), of(129, 2, 3, N));
        once("ror", 153, 0, 2, of(3, 2, 3, C), of(129, 2, 3, N | C));
        once("ror without c", 153, 0, 2, of(1, 2, 3, 0), of(0, 2, 3, Z | C));
        once("ror of 4", 153, 0, 2, of(4, 2, 3, C), of(130, 2, 3, N));
    }

    private static void stack() {
        Rasterbox box = at(600, 200, 2, 3, N | D);
        int behind = box.assemble(600, 138, 0);
        behind = box.assemble(behind, 140, 0);
        behind = box.assemble(behind, 0, 0);
        behind = box.assemble(behind, 147, 0);
        behind = box.assemble(behind, 141, 0);
        box.assemble(behind, 139, 0);
        Due.is("pha: cycles", box.step(), 3);
        Due.is("pha: memory", box.ram(511), 200);
        state("pha", box, 200, 2, 3, 254, 601, N | D);
        Due.is("php: cycles", box.step(), 3);
        Due.is("php: memory", box.ram(510), 48 + N + D);
        state("php", box, 200, 2, 3, 253, 602, N | D);
        box.step();
        box.step();
        state("between", box, 0, 2, 3, 253, 605, Z | D);
        Due.is("plp: cycles", box.step(), 4);
        state("plp", box, 0, 2, 3, 254, 606, N | D);
        Due.is("pla: cycles", box.step(), 4);
        state("pla", box, 200, 2, 3, 255, 607, N | D);
        Due.is("memory stays", box.ram(511), 200);
        Rasterbox zero = at(600, 7, 2, 3, N);
        zero.assemble(600, 139, 0);
        zero.poke(256, 0);
        zero.step();
        state("pla of 0", zero, 0, 2, 3, 0, 601, Z);
    }

    private static void stackGoesRound() {
        Rasterbox box = at(600, 99, 2, 3, 0);
        box.setRegister(3, 0);
        box.assemble(600, 138, 0);
        box.assemble(601, 139, 0);
        box.step();
        Due.is("pushed to 256", box.ram(256), 99);
        Due.is("S goes round", box.register(3), 255);
        box.setRegister(0, 1);
        box.step();
        Due.is("pulled from 256", box.register(0), 99);
        Due.is("S goes back", box.register(3), 0);
    }

    private static void branches() {
        int[] flags = {Z, Z, C, C, N, N, V, V};
        for (int i = 0; i < 8; i++) {
            int code = 160 + i;
            for (int isSet = 0; isSet < 2; isSet++) {
                int status = isSet == 1 ? flags[i] : 207 - flags[i];
                boolean isTaken = isSet == i % 2;
                Rasterbox box = at(600, 1, 2, 3, status);
                box.assemble(600, code, 20);
                Due.is("branch " + code + ": cycles", box.step(), isTaken ? 3 : 2);
                state("branch " + code, box, 1, 2, 3, 255, isTaken ? 622 : 602, status);
            }
        }
    }

    private static void branch(String what, int from, int distance, int to, int cycles) {
        Rasterbox box = at(from, 1, 2, 3, 0);
        box.assemble(from, 160, distance);
        Due.is(what + ": cycles", box.step(), cycles);
        Due.is(what + ": P", box.register(4), to);
    }

    private static void branchesOverPages() {
        branch("back", 600, 250, 596, 3);
        branch("127", 520, 127, 649, 3);
        branch("128", 700, 128, 574, 3);
        branch("to the next page", 700, 100, 802, 4);
        branch("to the page before", 520, 240, 506, 4);
        branch("the next P is on the next page", 766, 0, 768, 3);
        branch("back to the page of the code", 766, 254, 766, 4);
        branch("over the end", 4080, 100, 86, 4);
        branch("back over the beginning", 10, 128, 3980, 4);
        branch("a branch at the end", 4094, 5, 5, 3);
        branch("itself", 600, 254, 600, 3);
        Rasterbox box = at(766, 1, 2, 3, Z);
        box.assemble(766, 160, 254);
        Due.is("not taken: cycles", box.step(), 2);
        Due.is("not taken: P", box.register(4), 768);
    }

    private static void jumps() {
        Rasterbox box = at(600, 1, 2, 3, Z | N);
        box.assemble(600, 157, 4000);
        Due.is("jmp: cycles", box.step(), 3);
        state("jmp", box, 1, 2, 3, 255, 4000, Z | N);
        box.assemble(4000, 159, 1000);
        box.poke(1000, 1);
        box.poke(1001, 3);
        Due.is("jmi: cycles", box.step(), 5);
        state("jmi", box, 1, 2, 3, 255, 769, Z | N);
        box.assemble(769, 159, 1279);
        box.poke(1279, 7);
        box.poke(1024, 34);
        box.poke(1280, 9);
        box.step();
        Due.is("jmi stays in its page, and goes modulo 4096", box.register(4), 519);
    }

    private static void subroutines() {
        Rasterbox box = at(765, 1, 2, 3, Z | N);
        box.assemble(765, 158, 1000);
        box.assemble(1000, 156, 0);
        Due.is("jsr: cycles", box.step(), 6);
        state("jsr", box, 1, 2, 3, 253, 1000, Z | N);
        Due.is("high byte of P + 2", box.ram(511), 2);
        Due.is("low byte of P + 2", box.ram(510), 255);
        Due.is("rts: cycles", box.step(), 6);
        state("rts", box, 1, 2, 3, 255, 768, Z | N);
        box.assemble(768, 156, 0);
        box.setRegister(3, 20);
        box.poke(277, 255);
        box.poke(278, 255);
        box.step();
        Due.is("rts to the end and 1 more", box.register(4), 0);
        Due.is("S", box.register(3), 22);
    }

    private static void breaks() {
        Rasterbox box = at(767, 1, 2, 3, Z | N | D);
        box.assemble(767, 154, 0);
        box.poke(3838, 10);
        box.poke(3839, 4);
        Due.is("brk: cycles", box.step(), 7);
        state("brk", box, 1, 2, 3, 252, 1034, Z | N | D | I);
        Due.is("high byte of P + 1", box.ram(511), 3);
        Due.is("low byte of P + 1", box.ram(510), 0);
        Due.is("the status with 16", box.ram(509), 48 + Z + N + D);
        Due.is("an instruction", box.traceAt(0), 767);
        box.assemble(1034, 155, 0);
        Due.is("rti: cycles", box.step(), 6);
        state("rti", box, 1, 2, 3, 255, 768, Z | N | D);
        box.assemble(768, 155, 0);
        box.setRegister(3, 252);
        box.poke(509, 255);
        box.poke(510, 52);
        box.poke(511, 242);
        box.step();
        state("rti modulo 4096", box, 1, 2, 3, 255, 564, 207);
    }

    private static void jams() {
        for (int code = 168; code < 256; code++) {
            if (code >= 192 && code < 232) {
                continue;
            }
            Rasterbox box = at(600, 1, 2, 3, Z);
            box.poke(600, code);
            Due.is("not jammed yet " + code, box.isJammed(), false);
            Due.is("jam: cycles " + code, box.step(), 2);
            Due.is("jammed " + code, box.isJammed(), true);
            Due.is("done " + code, box.done(), 2);
            Due.is("traced " + code, box.traceAt(0), 600);
            state("jam " + code, box, 1, 2, 3, 255, 600, Z);
            Due.fails("step " + code, IllegalStateException.class, box::step);
            box.run(100);
            Due.is("cycles pass " + code, box.cycle(), 106);
            Due.is("nothing is done " + code, box.done(), 2);
            Due.is("nothing is under way " + code, box.underWay(), 0);
        }
        Rasterbox box = at(600, 1, 2, 3, 0);
        box.poke(600, 255);
        box.step();
        box.poke(600, 149);
        box.freeze();
        box.run(20);
        Due.is("a freeze does not wake it", box.done(), 2);
        Due.is("a register can be set", box.setRegister(4, 700), 600);
        box.run(20);
        Due.is("which does not wake it", box.done() * 1000 + box.register(4), 2700);
        box.reset();
        Due.is("a reset does", box.isJammed(), false);
        box.step();
        Due.is("it goes on", box.done(), 3);
    }

    private static void trace() {
        Rasterbox box = new Rasterbox();
        box.poke(3841, 3);
        Due.fails("no instruction yet", IndexOutOfBoundsException.class, () -> box.traceAt(0));
        for (int i = 0; i < 20; i++) {
            box.assemble(600 + i, 149, 0);
        }
        box.setRegister(4, 600);
        for (int i = 0; i < 20; i++) {
            box.step();
            int done = i + 1;
            Due.is("done", box.done(), done);
            Due.is("the latest", box.traceAt(0), 600 + i);
            int last = done < 16 ? done : 16;
            Due.is("the earliest of " + last, box.traceAt(last - 1), 600 + i + 1 - last);
            Due.fails("behind it", IndexOutOfBoundsException.class, () -> box.traceAt(last));
        }
        Due.fails("-1", IndexOutOfBoundsException.class, () -> box.traceAt(-1));
        Due.fails("far", IndexOutOfBoundsException.class, () -> box.traceAt(Integer.MAX_VALUE));
        Due.fails("far", IndexOutOfBoundsException.class, () -> box.traceAt(Integer.MIN_VALUE));
    }

    private static void underWay() {
        Rasterbox box = new Rasterbox();
        box.poke(3841, 3);
        box.assemble(600, 114, 40);
        box.setRegister(4, 600);
        int[] left = {5, 4, 3, 2, 1};
        for (int i = 0; i < 5; i++) {
            box.run(1);
            Due.is("under way", box.underWay(), left[i]);
            Due.is("nothing is done", box.done(), 0);
            Due.is("P stays", box.register(4), 600);
            Due.fails("no register is set", IllegalStateException.class, () -> box.setRegister(0, 1));
        }
        Due.fails("wrong first", IndexOutOfBoundsException.class, () -> box.setRegister(5, -1));
        Due.fails("wrong second", IllegalArgumentException.class, () -> box.setRegister(0, 256));
        Due.is("nothing is written", box.ram(40), 0);
        box.run(1);
        Due.is("nothing is under way", box.underWay(), 0);
        Due.is("it is done", box.done(), 1);
        Due.is("it is written", box.ram(40), 1);
        Due.is("a register is set", box.setRegister(0, 1), 0);
        Rasterbox part = new Rasterbox();
        part.poke(3841, 3);
        part.assemble(0, 157, 1000);
        part.run(1);
        Due.is("a step ends what is under way", part.step(), 2);
        Due.is("and no more", part.register(4), 1000);
    }

    private static void bytesOfTheLastCycle() {
        Rasterbox box = new Rasterbox();
        box.poke(3841, 3);
        box.assemble(600, 3, 1000);
        box.poke(1000, 5);
        box.setRegister(4, 600);
        box.run(3);
        box.assemble(600, 128, 0);
        Due.is("its cycles are kept", box.step(), 1);
        Due.is("the other instruction is done", box.register(1), 1);
        Due.is("with its length", box.register(4), 601);
        Due.is("not the first one", box.register(0), 0);
        Rasterbox jam = new Rasterbox();
        jam.poke(3841, 3);
        jam.assemble(600, 114, 40);
        jam.setRegister(4, 600);
        jam.run(1);
        jam.poke(600, 255);
        Due.is("a jam that comes later", jam.step(), 5);
        Due.is("jams", jam.isJammed(), true);
    }

    private static void endOfMemory() {
        Rasterbox box = new Rasterbox();
        box.poke(3841, 3);
        box.assemble(4095, 0, 9);
        box.setRegister(4, 4095);
        box.step();
        Due.is("the value is at 0", box.register(0), 9);
        Due.is("P goes round", box.register(4), 1);
        box.assemble(4094, 158, 700);
        box.setRegister(4, 4094);
        box.step();
        Due.is("P + 2 goes round, high", box.ram(511), 0);
        Due.is("P + 2 goes round, low", box.ram(510), 0);
        Due.is("P", box.register(4), 700);
    }

    private static void codeInTheRom() {
        Rasterbox box = new Rasterbox();
        box.poke(3841, 3);
        box.pokeRom(0, 0);
        box.pokeRom(1, 44);
        box.pokeCartridge(2, 0, 128);
        box.poke(3840, 1 + 2 + 8);
        box.setRegister(4, 3072);
        box.step();
        Due.is("the ROM is done", box.register(0), 44);
        box.setRegister(4, 2048);
        box.step();
        Due.is("the cartridge is done", box.register(1), 1);
        box.assemble(600, 27, 3072);
        box.assemble(603, 3, 3073);
        box.setRegister(4, 600);
        box.step();
        Due.is("a store goes below the ROM", box.ram(3072), 44);
        box.setRegister(0, 0);
        box.step();
        Due.is("a load is from the ROM", box.register(0), 44);
    }
}
