/** Every sentence on the codes that names an edge. */
public final class CodeEdgesTest {
    private static final int C = Boxes.C;
    private static final int Z = Boxes.Z;
    private static final int I = Boxes.I;
    private static final int D = Boxes.D;
    private static final int V = Boxes.V;
    private static final int N = Boxes.N;

    private CodeEdgesTest() {
    }

    public static void main(String[] args) {
        firstAndLastCodes();
        modeNone();
        modeOne();
        modeTwo();
        modeThree();
        modesFourAndFive();
        modeSix();
        modeSeven();
        pageCycles();
        cyclesOfWriters();
        cyclesOfChanges();
        writersOfModeNone();
        setZeroAndNegative();
        loadsAndLogic();
        stores();
        compares();
        increases();
        decreases();
        laxAndSax();
        decreasesAndCompares();
        increasesAndSubtracts();
        bits();
        addCarry();
        addOverflow();
        subtract();
        addDecimal();
        subtractDecimal();
        decimalModulo();
        othersInDecimal();
        cyclesOfOneByte();
        countsOfXAndY();
        transfers();
        pushesAndPulls();
        flagCodes();
        shifts();
        shiftsModulo();
        breaks();
        returnsFromInterrupts();
        returnsFromSubroutines();
        jumps();
        jumpsToSubroutines();
        jumpsThroughMemory();
        branchConditions();
        branchDistances();
        branchCycles();
        jams();
        goesOn();
        Due.end("CodeEdgesTest");
    }

    /** Does one instruction at 600, and answers the machine. */
    private static Rasterbox did(int code, int operand, int a, int x, int y, int flags) {
        Rasterbox box = Boxes.ready(600, a, x, y, flags);
        box.poke(601, 9);
        box.poke(602, 9);
        box.assemble(600, code, operand);
        box.step();
        return box;
    }

    private static void shows(String what, Rasterbox box, int a, int x, int y, int flags) {
        Due.is(what + ": A", box.register(Boxes.A), a);
        Due.is(what + ": X", box.register(Boxes.X), x);
        Due.is(what + ": Y", box.register(Boxes.Y), y);
        Due.is(what + ": status", box.status(), flags | 48);
    }

    private static void firstAndLastCodes() {
        Due.by("Codes 0 to 127 are 8 times an operation plus a mode, codes 192 to 231 are 192 plus 8 times the operation less 16, plus a mode.");
        int[] codes = {0, 7, 8, 127, 128, 159, 160, 167, 168, 191, 192, 231, 232, 255};
        String[] lines = {
            "600 lda #0", "600 lda (0,x)", "600 ldx #0", "600 dec (0,x)", "600 inx", "600 jmi (0)", "600 bne 602", "600 bvs 602",
            "600 jam", "600 jam", "600 lax #0", "600 bit (0,x)", "600 jam", "600 jam"};
        for (int i = 0; i < codes.length; i++) {
            Rasterbox box = Boxes.ready(600, 0, 0, 0, 0);
            box.assemble(600, codes[i], 0);
            Due.is("code " + codes[i], Boxes.line(box, 600), lines[i]);
            box.step();
            Due.is("code " + codes[i] + " jams", box.isJammed(), lines[i].endsWith("jam"));
        }
    }

    private static void reads(String what, int mode, int operand, int cycles, int x, int y, int... memory) {
        Rasterbox box = Boxes.ready(600, 0, x, y, 0);
        box.poke(602, 9);
        for (int i = 0; i < memory.length; i += 2) {
            box.poke(memory[i], memory[i + 1]);
        }
        int next = box.assemble(600, Boxes.code("lda") + mode, operand);
        Due.is(what + ": cycles", box.step(), cycles);
        Due.is(what + ": A", box.register(Boxes.A), 77);
        Due.is(what + ": P", box.register(Boxes.P), next);
    }

    private static void modeNone() {
        Due.by("0 the byte behind the code is the value, 2");
        reads("77", 0, 77, 2, 1, 1, 77, 5);
        Rasterbox last = Boxes.ready(4095, 0, 0, 0, 0);
        last.poke(4095, Boxes.code("lda"));
        last.poke(0, 255);
        Due.is("the byte behind 4095: cycles", last.step(), 2);
        shows("the byte behind 4095", last, 255, 0, 0, N);
    }

    private static void modeOne() {
        Due.by("1 it is the address, 3");
        reads("0", 1, 0, 3, 1, 1, 0, 77);
        reads("255", 1, 255, 3, 1, 1, 255, 77);
    }

    private static void modeTwo() {
        Due.by("2 it plus X, modulo 256, is the address, 4");
        reads("255 in all", 2, 250, 4, 5, 9, 255, 77);
        reads("256 in all", 2, 250, 4, 6, 9, 0, 77);
        reads("510 in all", 2, 255, 4, 255, 9, 254, 77);
    }

    private static void modeThree() {
        Due.by("3 the two bytes behind the code are the low and high byte of the address, 4");
        reads("0", 3, 0, 4, 1, 1, 0, 77);
        reads("255", 3, 255, 4, 1, 1, 255, 77);
        reads("256", 3, 256, 4, 1, 1, 256, 77);
        reads("4095", 3, 4095, 4, 1, 1, 4095, 77);
    }

    private static void modesFourAndFive() {
        Due.by("4 that address plus X, 4; 5 that address plus Y, 4");
        reads("1024 and 255", 4, 1024, 4, 255, 9, 1279, 77);
        reads("1024 and 0", 4, 1024, 4, 0, 9, 1024, 77);
        reads("4095 and 1", 4, 4095, 5, 1, 9, 0, 77);
        reads("4000 and 255", 4, 4000, 5, 255, 9, 159, 77);
        reads("1024 and 255", 5, 1024, 4, 9, 255, 1279, 77);
        reads("4095 and 1", 5, 4095, 5, 9, 1, 0, 77);
        reads("4000 and 255", 5, 4000, 5, 9, 255, 159, 77);
    }

    private static void modeSix() {
        Due.by("6 the byte behind the code and the next address, modulo 256, have the low and high byte of an address, which plus Y is the address, 5");
        reads("at 254", 6, 254, 5, 9, 255, 254, 0, 255, 4, 1279, 77);
        reads("at 255", 6, 255, 5, 9, 255, 255, 0, 0, 4, 256, 8, 1279, 77);
        reads("4095 and 1", 6, 40, 6, 9, 1, 40, 255, 41, 15, 0, 77);
        reads("a high byte of 20", 6, 40, 5, 9, 1, 40, 5, 41, 20, 1030, 77);
    }

    private static void modeSeven() {
        Due.by("7 that byte plus X, modulo 256, and the next one, modulo 256, have the low and high byte of the address, 6");
        reads("254 in all", 7, 250, 6, 4, 9, 254, 1, 255, 4, 1025, 77);
        reads("255 in all", 7, 250, 6, 5, 9, 255, 1, 0, 4, 256, 8, 1025, 77);
        reads("256 in all", 7, 250, 6, 6, 9, 0, 1, 1, 4, 256, 8, 1025, 77);
        reads("without Y", 7, 40, 6, 0, 255, 40, 255, 41, 4, 1279, 77);
        reads("a high byte of 20", 7, 40, 6, 0, 9, 40, 5, 41, 20, 1029, 77);
    }

    private static void pageCycles() {
        Due.by("In the modes 4 to 6, it is 1 cycle more if the page of the address is another one than without X or Y");
        int[][] cases = {{1024, 255, 0}, {1025, 255, 1}, {1279, 0, 0}, {1279, 1, 1}, {4095, 1, 1}, {255, 1, 1}, {3840, 255, 0}};
        int[] plain = {4, 4, 5};
        String[] names = {"lda", "ldx", "ldy", "adc", "sbc", "and", "ora", "eor", "cmp", "cpx", "cpy", "lax", "bit"};
        for (int[] one : cases) {
            for (String name : names) {
                for (int mode = 4; mode < 7; mode++) {
                    Rasterbox box = Boxes.ready(600, 0, mode == 4 ? one[1] : 3, mode == 4 ? 3 : one[1], 0);
                    box.poke(40, one[0] % 256);
                    box.poke(41, one[0] / 256);
                    box.assemble(600, Boxes.code(name) + mode, mode == 6 ? 40 : one[0]);
                    Due.is(name + " in mode " + mode + " from " + one[0] + " by " + one[1], box.step(), plain[mode - 4] + one[2]);
                }
            }
        }
    }

    private static void cyclesOfWriters() {
        Due.by("it is 1 cycle more if the page of the address is another one than without X or Y, or the operation writes");
        int[] stores = {2, 3, 4, 4, 5, 5, 6, 6};
        String[] names = {"sta", "stx", "sty", "sax"};
        cyclesOf(names, stores);
    }

    private static void cyclesOfChanges() {
        Due.by("3, 4, 5, 14, 15, 17, 18, 19 write; 14, 15, 18, 19 take 2 cycles more.");
        int[] changes = {2, 5, 6, 6, 7, 7, 8, 8};
        String[] names = {"inc", "dec", "dcp", "isc"};
        cyclesOf(names, changes);
    }

    private static void cyclesOf(String[] names, int[] cycles) {
        for (String name : names) {
            for (int mode = 0; mode < 8; mode++) {
                for (int index : new int[] {1, 255}) {
                    Rasterbox box = Boxes.ready(600, 0, index, index, 0);
                    box.poke(40, 16);
                    box.poke(41, 4);
                    box.assemble(600, Boxes.code(name) + mode, mode >= 3 && mode < 6 ? 1040 : 40);
                    Due.is(name + " in mode " + mode + " by " + index, box.step(), cycles[mode]);
                }
            }
        }
    }

    private static void writersOfModeNone() {
        Due.by("In the mode 0, those that write do nothing, and take 2 cycles.");
        String[] names = {"sta", "stx", "sty", "inc", "dec", "sax", "dcp", "isc"};
        for (String name : names) {
            Rasterbox box = Boxes.ready(600, 5, 6, 7, Z | C);
            box.assemble(600, Boxes.code(name), 40);
            box.save();
            Due.is(name + ": cycles", box.step(), 2);
            shows(name, box, 5, 6, 7, Z | C);
            Due.is(name + ": RAM", box.differences(0), 0);
            Due.is(name + ": P", box.register(Boxes.P), 602);
        }
    }

    private static void setZeroAndNegative() {
        Due.by("0 to 2, 6 to 10, 14 to 16 set z and n by what comes out.");
        int[] values = {0, 1, 127, 128, 255};
        for (int value : values) {
            int flags = (value == 0 ? Z : 0) | (value > 127 ? N : 0);
            for (int before : new int[] {0, Z | N}) {
                String what = " of " + value;
                shows("lda" + what, did(Boxes.code("lda"), value, 9, 9, 9, before), value, 9, 9, flags);
                shows("ldx" + what, did(Boxes.code("ldx"), value, 9, 9, 9, before), 9, value, 9, flags);
                shows("ldy" + what, did(Boxes.code("ldy"), value, 9, 9, 9, before), 9, 9, value, flags);
                shows("lax" + what, did(Boxes.code("lax"), value, 9, 9, 9, before), value, value, 9, flags);
                shows("and" + what, did(Boxes.code("and"), value, 255, 9, 9, before), value, 9, 9, flags);
                shows("ora" + what, did(Boxes.code("ora"), value, 0, 9, 9, before), value, 9, 9, flags);
                shows("eor" + what, did(Boxes.code("eor"), value ^ 85, 85, 9, 9, before), value, 9, 9, flags);
            }
        }
    }

    private static void loadsAndLogic() {
        Due.by("8 and A becomes A & M; 9 ora A | M; 10 eor A ^ M");
        shows("and", did(Boxes.code("and"), 15, 60, 9, 9, C | V), 12, 9, 9, C | V);
        shows("ora", did(Boxes.code("ora"), 15, 60, 9, 9, C | V), 63, 9, 9, C | V);
        shows("eor", did(Boxes.code("eor"), 15, 60, 9, 9, C | V), 51, 9, 9, C | V);
        shows("and of nothing in common", did(Boxes.code("and"), 15, 240, 9, 9, N), 0, 9, 9, Z);
        shows("eor of the same", did(Boxes.code("eor"), 255, 255, 9, 9, N), 0, 9, 9, Z);
        shows("ora of all", did(Boxes.code("ora"), 15, 240, 9, 9, Z), 255, 9, 9, N);
    }

    private static void stores() {
        Due.by("3 sta M becomes A; 4 stx X; 5 sty Y");
        String[] names = {"sta", "stx", "sty"};
        int[] values = {0, 128, 255};
        for (int i = 0; i < 3; i++) {
            Rasterbox box = did(Boxes.code(names[i]) + 3, 4095, 0, 128, 255, C);
            Due.is(names[i], box.ram(4095), values[i]);
            shows(names[i] + " sets no flag", box, 0, 128, 255, C);
        }
    }

    private static void compares() {
        Due.by("c is set if it is not less, z and n by the difference modulo 256");
        int[][] cases = {
            {0, 0, C | Z}, {0, 1, N}, {1, 0, C}, {255, 255, C | Z}, {255, 0, C | N}, {0, 255, 0}, {128, 127, C}, {127, 128, N},
            {200, 72, C | N}, {200, 73, C}, {0, 128, N}, {0, 129, 0}};
        for (int[] one : cases) {
            String what = one[0] + " with " + one[1];
            for (int before : new int[] {0, C | Z | N}) {
                shows("cmp " + what, did(Boxes.code("cmp"), one[1], one[0], 7, 7, before | V), one[0], 7, 7, one[2] | V);
                shows("cpx " + what, did(Boxes.code("cpx"), one[1], 7, one[0], 7, before), 7, one[0], 7, one[2]);
                shows("cpy " + what, did(Boxes.code("cpy"), one[1], 7, 7, one[0], before), 7, 7, one[0], one[2]);
            }
        }
    }

    /** Does one instruction in the mode 1 with a byte at 40, and looks at what becomes of it. */
    private static void changes(String name, int m, int a, int flags, int newM, int newA, int newFlags) {
        Rasterbox box = Boxes.ready(600, a, 9, 9, flags);
        box.poke(40, m);
        box.assemble(600, Boxes.code(name) + 1, 40);
        String what = name + " of " + m + " with " + a;
        Due.is(what + ": cycles", box.step(), 5);
        Due.is(what + ": M", box.ram(40), newM);
        shows(what, box, newA, 9, 9, newFlags);
    }

    private static void increases() {
        Due.by("14 inc M is 1 more, 15 dec 1 less, modulo 256");
        changes("inc", 255, 5, C | N, 0, 5, C | Z);
        changes("inc", 0, 5, Z, 1, 5, 0);
        changes("inc", 127, 5, 0, 128, 5, N);
        changes("inc", 254, 5, Z, 255, 5, N);
    }

    private static void decreases() {
        Due.by("15 dec 1 less, modulo 256");
        changes("dec", 0, 5, C | Z, 255, 5, C | N);
        changes("dec", 1, 5, N, 0, 5, Z);
        changes("dec", 128, 5, N, 127, 5, 0);
        changes("dec", 255, 5, 0, 254, 5, N);
    }

    private static void laxAndSax() {
        Due.by("16 lax A and X become M; 17 sax M becomes A & X");
        int[][] cases = {{255, 255, 255}, {240, 15, 0}, {129, 255, 129}, {0, 255, 0}};
        for (int[] one : cases) {
            Rasterbox box = did(Boxes.code("sax") + 1, 40, one[0], one[1], 9, C);
            Due.is("sax of " + one[0] + " and " + one[1], box.ram(40), one[2]);
            shows("sax sets no flag", box, one[0], one[1], 9, C);
        }
        shows("lax", did(Boxes.code("lax"), 128, 1, 2, 3, C | Z), 128, 128, 3, C | N);
    }

    private static void decreasesAndCompares() {
        Due.by("18 dcp dec, then cmp");
        changes("dcp", 0, 255, N, 255, 255, C | Z);
        changes("dcp", 0, 254, C | Z, 255, 254, N);
        changes("dcp", 1, 0, N, 0, 0, C | Z);
        changes("dcp", 10, 10, Z, 9, 10, C);
        changes("dcp", 11, 10, 0, 10, 10, C | Z);
        changes("dcp", 12, 10, C, 11, 10, N);
    }

    private static void increasesAndSubtracts() {
        Due.by("19 isc inc, then sbc with the new M");
        changes("isc", 255, 0, C, 0, 0, C | Z);
        changes("isc", 255, 0, 0, 0, 255, N);
        changes("isc", 9, 10, C, 10, 0, C | Z);
        changes("isc", 10, 10, C, 11, 255, N);
        changes("isc", 0, 128, C, 1, 127, C | V);
        changes("isc", 127, 127, C, 128, 255, N | V);
        changes("isc", 8, 16, C | D, 9, 1, C | D);
    }

    private static void bits() {
        Due.by("20 bit z is set if A & M is 0, n is the bit 7, v the bit 6 of M.");
        int[][] cases = {{0, 0, Z}, {255, 0, Z}, {0, 255, Z | N | V}, {1, 1, 0}, {64, 64, V}, {128, 128, N}, {63, 192, Z | N | V},
            {192, 63, Z}, {255, 192, N | V}};
        for (int[] one : cases) {
            for (int before : new int[] {0, Z | N | V}) {
                shows("bit of " + one[0] + " and " + one[1], did(Boxes.code("bit"), one[1], one[0], 9, 9, before | C), one[0], 9, 9,
                        one[2] | C);
            }
        }
    }

    private static void adds(String name, int[][] cases, int decimal) {
        for (int[] one : cases) {
            for (int before : new int[] {0, Z | N | V}) {
                String what = name + " " + one[0] + " and " + one[1] + " and " + one[2];
                Rasterbox box = did(Boxes.code(name), one[1], one[0], 9, 9, before | one[2] | decimal);
                shows(what, box, one[3], 9, 9, one[4] | decimal);
                Due.is(what + ": P", box.register(Boxes.P), 602);
            }
        }
    }

    private static void addCarry() {
        Due.by("adc: A becomes A + M + c modulo 256; c is set if the sum is greater than 255");
        adds("adc", new int[][] {
            {0, 0, 0, 0, Z}, {0, 0, 1, 1, 0}, {255, 0, 0, 255, N}, {254, 1, 0, 255, N}, {255, 1, 0, 0, C | Z}, {255, 0, 1, 0, C | Z},
            {254, 1, 1, 0, C | Z}, {255, 255, 0, 254, C | N}, {255, 255, 1, 255, C | N}}, 0);
    }

    private static void addOverflow() {
        Due.by("v if A and M have the same bit 7 and the result another one");
        adds("adc", new int[][] {
            {127, 0, 0, 127, 0}, {127, 1, 0, 128, N | V}, {127, 0, 1, 128, N | V}, {64, 63, 0, 127, 0}, {64, 64, 0, 128, N | V},
            {127, 127, 1, 255, N | V}, {128, 128, 0, 0, C | Z | V}, {128, 255, 0, 127, C | V}, {128, 255, 1, 128, C | N},
            {192, 192, 0, 128, C | N}, {192, 191, 0, 127, C | V}, {127, 128, 0, 255, N}, {127, 129, 0, 0, C | Z}, {255, 127, 1, 127, C}}, 0);
    }

    private static void subtract() {
        Due.by("sbc is adc with 255 - M.");
        adds("sbc", new int[][] {
            {0, 0, 1, 0, C | Z}, {0, 0, 0, 255, N}, {0, 1, 1, 255, N}, {1, 1, 1, 0, C | Z}, {1, 1, 0, 255, N}, {1, 0, 0, 0, C | Z},
            {255, 255, 1, 0, C | Z}, {255, 0, 1, 255, C | N}, {0, 255, 1, 1, 0}, {128, 1, 1, 127, C | V}, {127, 255, 1, 128, N | V},
            {128, 0, 0, 127, C | V}, {0, 128, 1, 128, N | V}, {0, 127, 1, 129, N}}, 0);
    }

    /** v is by the binary sum. */
    private static void addDecimal() {
        Due.by("if low is greater than 9, it is 10 less, and high 1 more; c is set if high is greater than 9, and then high is 10 less");
        adds("adc", new int[][] {
            {0x00, 0x00, 0, 0x00, Z}, {0x04, 0x05, 0, 0x09, 0}, {0x05, 0x05, 0, 0x10, 0}, {0x04, 0x05, 1, 0x10, 0},
            {0x09, 0x09, 1, 0x19, 0}, {0x90, 0x09, 0, 0x99, N}, {0x90, 0x09, 1, 0x00, C | Z}, {0x50, 0x49, 0, 0x99, N | V},
            {0x50, 0x50, 0, 0x00, C | Z | V}, {0x99, 0x99, 1, 0x99, C | N | V}, {0x99, 0x01, 0, 0x00, C | Z}}, D);
    }

    private static void decimalModulo() {
        Due.by("A becomes 16 * high + low, modulo 256");
        adds("adc", new int[][] {
            {0x0F, 0x0F, 1, 0x25, 0}, {0xF0, 0xF0, 0, 0x40, C}, {0xFF, 0xFF, 1, 0x65, C}, {0x0A, 0x00, 0, 0x10, 0},
            {0xA0, 0x00, 0, 0x00, C | Z}, {0x9A, 0x00, 0, 0x00, C | Z}, {0x0F, 0x05, 0, 0x1A, 0}, {0xFF, 0x00, 0, 0x65, C}}, D);
        adds("sbc", new int[][] {
            {0x00, 0x0F, 0, 0x8A, N}, {0x00, 0xF0, 1, 0xB0, N}, {0x00, 0xFF, 0, 0x9A, N}, {0x0F, 0x00, 1, 0x0F, C},
            {0xFF, 0x00, 1, 0xFF, C | N}, {0x00, 0x0A, 1, 0x90, N}}, D);
    }

    private static void subtractDecimal() {
        Due.by("if low is less than 0, it is 10 more, and high 1 less; c is set if high is not less than 0, otherwise high is 10 more");
        adds("sbc", new int[][] {
            {0x00, 0x00, 1, 0x00, C | Z}, {0x00, 0x00, 0, 0x99, N}, {0x00, 0x01, 1, 0x99, N}, {0x10, 0x00, 0, 0x09, C},
            {0x10, 0x01, 1, 0x09, C}, {0x10, 0x10, 1, 0x00, C | Z}, {0x10, 0x20, 1, 0x90, N}, {0x99, 0x99, 1, 0x00, C | Z},
            {0x99, 0x99, 0, 0x99, N}, {0x80, 0x01, 1, 0x79, C | V}, {0x50, 0x49, 0, 0x00, C | Z}}, D);
    }

    private static void othersInDecimal() {
        Due.by("If d is set, c and A become otherwise");
        shows("cmp", did(Boxes.code("cmp"), 9, 16, 9, 9, D), 16, 9, 9, D | C);
        shows("inx", did(Boxes.code("inx"), 0, 9, 9, 9, D), 9, 10, 9, D);
        changes("inc", 9, 5, D, 10, 5, D);
        shows("without d", did(Boxes.code("adc"), 5, 5, 9, 9, 0), 10, 9, 9, 0);
    }

    private static void cyclesOfOneByte() {
        Due.by("Codes of one byte, 2 cycles if not told");
        for (int code = 128; code < 157; code++) {
            int due = 2;
            if (code == 138 || code == 140) {
                due = 3;
            } else if (code == 139 || code == 141) {
                due = 4;
            } else if (code == 154) {
                due = 7;
            } else if (code > 154) {
                due = 6;
            }
            Rasterbox box = Boxes.ready(600, 0, 0, 0, 0);
            box.poke(600, code);
            Due.is("cycles of " + code, box.step(), due);
            if (code < 154) {
                Due.is("P behind " + code, box.register(Boxes.P), 601);
            }
        }
    }

    private static void countsOfXAndY() {
        Due.by("128 inx, 129 dex, 130 iny, 131 dey, modulo 256");
        shows("inx of 255", did(Boxes.code("inx"), 0, 9, 255, 9, N | C), 9, 0, 9, Z | C);
        shows("inx of 127", did(Boxes.code("inx"), 0, 9, 127, 9, Z), 9, 128, 9, N);
        shows("dex of 0", did(Boxes.code("dex"), 0, 9, 0, 9, Z), 9, 255, 9, N);
        shows("dex of 1", did(Boxes.code("dex"), 0, 9, 1, 9, N), 9, 0, 9, Z);
        shows("dex of 128", did(Boxes.code("dex"), 0, 9, 128, 9, N), 9, 127, 9, 0);
        shows("iny of 255", did(Boxes.code("iny"), 0, 9, 9, 255, N | C), 9, 9, 0, Z | C);
        shows("iny of 127", did(Boxes.code("iny"), 0, 9, 9, 127, Z), 9, 9, 128, N);
        shows("dey of 0", did(Boxes.code("dey"), 0, 9, 9, 0, Z), 9, 9, 255, N);
        shows("dey of 1", did(Boxes.code("dey"), 0, 9, 9, 1, N), 9, 9, 0, Z);
        shows("dey of 128", did(Boxes.code("dey"), 0, 9, 9, 128, N), 9, 9, 127, 0);
    }

    private static void transfers() {
        Due.by("128 to 136, 139 and 150 to 153 set z and n by what comes out");
        for (int value : new int[] {0, 127, 128, 255}) {
            int flags = (value == 0 ? Z : 0) | (value > 127 ? N : 0);
            int before = Z | N;
            shows("tax", did(Boxes.code("tax"), 0, value, 9, 7, before), value, value, 7, flags);
            shows("txa", did(Boxes.code("txa"), 0, 9, value, 7, before), value, value, 7, flags);
            shows("tay", did(Boxes.code("tay"), 0, value, 9, 7, before), value, 9, value, flags);
            shows("tya", did(Boxes.code("tya"), 0, 9, 7, value, before), value, 7, value, flags);
            Rasterbox tsx = Boxes.ready(600, 9, 8, 7, before);
            tsx.setRegister(Boxes.S, value);
            tsx.poke(600, Boxes.code("tsx"));
            tsx.step();
            shows("tsx", tsx, 9, value, 7, flags);
            Rasterbox txs = did(Boxes.code("txs"), 0, 9, value, 7, C);
            shows("txs sets neither", txs, 9, value, 7, C);
            Due.is("S by txs", txs.register(Boxes.S), value);
        }
    }

    private static void pushesAndPulls() {
        Due.by("138 pha pushes A, 3, 139 pla pulls A, 4, 140 php pushes the status with 16, 3, 141 plp pulls the status, 4");
        for (int value : new int[] {0, 127, 128, 255}) {
            int flags = (value == 0 ? Z : 0) | (value > 127 ? N : 0);
            Rasterbox pha = did(Boxes.code("pha"), 0, value, 9, 9, C);
            Due.is("pha of " + value, pha.ram(511), value);
            shows("pha sets no flag", pha, value, 9, 9, C);
            Rasterbox pla = Boxes.ready(600, 9, 9, 9, Z | N | C);
            pla.poke(256, value);
            pla.poke(600, Boxes.code("pla"));
            pla.step();
            shows("pla of " + value, pla, value, 9, 9, flags | C);
        }
        Due.is("php of none", did(Boxes.code("php"), 0, 9, 9, 9, 0).ram(511), 48);
        Due.is("php of all", did(Boxes.code("php"), 0, 9, 9, 9, 255).ram(511), 255);
        Rasterbox plp = Boxes.ready(600, 9, 9, 9, 255);
        plp.poke(256, 48);
        plp.poke(600, Boxes.code("plp"));
        plp.step();
        shows("plp of none", plp, 9, 9, 9, 0);
        Due.is("S goes round", plp.register(Boxes.S), 0);
    }

    private static void flagCodes() {
        Due.by("142 sec, 143 clc, 144 sed, 145 cld, 146 sei, 147 cli, 148 clv set or clear a flag; 149 nop");
        int all = C | Z | I | D | V | N;
        int[] sets = {C, 0, D, 0, I, 0, 0, 0};
        int[] clears = {0, C, 0, D, 0, I, V, 0};
        for (int i = 0; i < 8; i++) {
            shows("from none, " + (142 + i), did(142 + i, 0, 1, 2, 3, 0), 1, 2, 3, sets[i]);
            shows("from all, " + (142 + i), did(142 + i, 0, 1, 2, 3, all), 1, 2, 3, all - clears[i]);
        }
    }

    private static void shifts() {
        Due.by("150 asl A becomes 2 * A, c its bit 7; 151 lsr A / 2, c its bit 0; 152 rol 2 * A + c, c the bit 7; 153 ror A / 2 + 128 * c, c the bit 0");
        int[][] cases = {
            {150, 0, C, 0, Z}, {150, 127, C, 254, N}, {150, 128, 0, 0, C | Z}, {150, 255, 0, 254, C | N}, {150, 64, 0, 128, N},
            {151, 0, C, 0, Z}, {151, 1, 0, 0, C | Z}, {151, 128, C, 64, 0}, {151, 255, C, 127, C}, {151, 2, C, 1, 0},
            {152, 0, C, 1, 0}, {152, 0, 0, 0, Z}, {152, 128, 0, 0, C | Z}, {152, 128, C, 1, C}, {152, 127, C, 255, N}, {152, 255, 0, 254, C | N},
            {153, 0, C, 128, N}, {153, 0, 0, 0, Z}, {153, 1, 0, 0, C | Z}, {153, 1, C, 128, C | N}, {153, 254, 0, 127, 0}, {153, 255, C, 255, C | N}};
        for (int[] one : cases) {
            for (int before : new int[] {0, Z | N | V}) {
                String what = one[0] + " of " + one[1] + " with " + one[2];
                shows(what, did(one[0], 0, one[1], 9, 9, one[2] | before), one[3], 9, 9, one[4] | before & V);
            }
        }
    }

    private static void shiftsModulo() {
        Due.by("each shift modulo 256");
        for (int code : new int[] {Boxes.code("asl"), Boxes.code("rol")}) {
            shows("128 by " + code, did(code, 0, 128, 9, 9, 0), 0, 9, 9, Z | C);
            shows("255 by " + code, did(code, 0, 255, 9, 9, 0), 254, 9, 9, N | C);
            shows("129 by " + code, did(code, 0, 129, 9, 9, 0), 2, 9, 9, C);
        }
        shows("255 and c by ror", did(Boxes.code("ror"), 0, 255, 9, 9, C), 255, 9, 9, N | C);
        shows("255 and c by rol", did(Boxes.code("rol"), 0, 255, 9, 9, C), 255, 9, 9, N | C);
    }

    private static void breaks() {
        Due.by("154 brk as an interrupt with the vector 3838, but with P as 1 more, and the status with 16, 7");
        int[][] cases = {{600, 601}, {255, 256}, {4095, 0}};
        for (int[] one : cases) {
            Rasterbox box = Boxes.ready(one[0], 1, 2, 3, C);
            box.poke(one[0], Boxes.code("brk"));
            box.poke(3838, 9);
            box.poke(3839, 4);
            box.poke(3834, 10);
            Due.is("cycles at " + one[0], box.step(), 7);
            Due.is("P that is pushed at " + one[0], box.ram(511) * 256 + box.ram(510), one[1]);
            Due.is("status with 16", box.ram(509), 48 + C);
            shows("i is set", box, 1, 2, 3, C | I);
            Due.is("P", box.register(Boxes.P), 1033);
            Due.is("S", box.register(Boxes.S), 252);
        }
        Due.is("i does not hold it off", did(Boxes.code("brk"), 0, 0, 0, 0, I).ram(509), 48 + I);
        Rasterbox round = Boxes.ready(600, 1, 2, 3, 0);
        round.poke(600, Boxes.code("brk"));
        round.setRegister(Boxes.S, 1);
        round.step();
        Due.is("pushes go round", round.ram(257) * 1000000 + round.ram(256) * 1000 + round.ram(511), 2089048);
    }

    private static void returnsFromInterrupts() {
        Due.by("155 rti pulls the status, then the low, then the high byte of P, 6");
        int[][] cases = {{252, 509, 510, 511, 255}, {253, 510, 511, 256, 0}, {255, 256, 257, 258, 2}};
        for (int[] one : cases) {
            Rasterbox box = Boxes.ready(600, 1, 2, 3, 0);
            box.setRegister(Boxes.S, one[0]);
            box.poke(600, Boxes.code("rti"));
            box.poke(one[1], 255);
            box.poke(one[2], 7);
            box.poke(one[3], 9);
            Due.is("cycles, S " + one[0], box.step(), 6);
            shows("S " + one[0], box, 1, 2, 3, 255);
            Due.is("P, S " + one[0], box.register(Boxes.P), 2311);
            Due.is("S behind " + one[0], box.register(Boxes.S), one[4]);
        }
        Rasterbox high = Boxes.ready(600, 1, 2, 3, 255);
        high.setRegister(Boxes.S, 252);
        high.poke(600, Boxes.code("rti"));
        high.poke(509, 0);
        high.poke(510, 255);
        high.poke(511, 31);
        high.step();
        Due.is("a high byte of 31", high.register(Boxes.P), 4095);
        Due.is("no flag", high.status(), 48);
    }

    private static void returnsFromSubroutines() {
        Due.by("156 rts pulls the low, then the high byte of P, which is 1 more then, 6");
        int[][] cases = {{0, 0, 1}, {254, 1, 511}, {255, 1, 512}, {255, 15, 0}, {255, 255, 0}};
        for (int[] one : cases) {
            Rasterbox box = Boxes.ready(600, 1, 2, 3, C);
            box.setRegister(Boxes.S, 255);
            box.poke(600, Boxes.code("rts"));
            box.poke(256, one[0]);
            box.poke(257, one[1]);
            Due.is("cycles", box.step(), 6);
            Due.is("P by " + one[0] + " " + one[1], box.register(Boxes.P), one[2]);
            Due.is("S goes round", box.register(Boxes.S), 1);
            shows("no flag is set", box, 1, 2, 3, C);
        }
    }

    private static void jumps() {
        Due.by("157 jmp P becomes it, 3");
        for (int to : new int[] {0, 255, 256, 4095}) {
            Rasterbox box = Boxes.ready(600, 1, 2, 3, C);
            box.assemble(600, Boxes.code("jmp"), to);
            Due.is("cycles to " + to, box.step(), 3);
            Due.is("P to " + to, box.register(Boxes.P), to);
            shows("no flag is set", box, 1, 2, 3, C);
        }
    }

    private static void jumpsToSubroutines() {
        Due.by("158 jsr pushes the high, then the low byte of P + 2, and P becomes it, 6");
        int[][] cases = {{600, 602}, {253, 255}, {254, 256}, {4093, 4095}, {4094, 0}, {4095, 1}};
        for (int[] one : cases) {
            Rasterbox box = Boxes.ready(one[0], 1, 2, 3, C);
            box.assemble(one[0], Boxes.code("jsr"), 1000);
            Due.is("cycles at " + one[0], box.step(), 6);
            Due.is("pushed at " + one[0], box.ram(511) * 256 + box.ram(510), one[1]);
            Due.is("S", box.register(Boxes.S), 253);
            Due.is("P", box.register(Boxes.P), 1000);
            shows("no flag is set", box, 1, 2, 3, C);
            box.poke(1000, Boxes.code("rts"));
            box.step();
            Due.is("back behind " + one[0], box.register(Boxes.P), (one[1] + 1) % 4096);
        }
        Rasterbox round = Boxes.ready(600, 1, 2, 3, 0);
        round.setRegister(Boxes.S, 0);
        round.assemble(600, Boxes.code("jsr"), 1000);
        round.step();
        Due.is("pushes go round", round.ram(256) * 1000 + round.ram(511), 2090);
        Due.is("S goes round", round.register(Boxes.S), 254);
    }

    private static void jumpsThroughMemory() {
        Due.by("159 jmi P becomes the byte there plus 256 times the byte at the next address of the same page, beginning again with its first one, 5");
        int[][] cases = {{700, 701, 702}, {1022, 1023, 1024}, {1023, 768, 1024}, {255, 0, 256}, {0, 1, 2}, {3839, 3584, 3840},
            {3584, 3585, 3328}, {3328, 3329, 3072}};
        for (int[] one : cases) {
            Rasterbox box = Boxes.ready(600, 1, 2, 3, C);
            box.assemble(600, Boxes.code("jmi"), one[0]);
            box.poke(603, 9);
            box.poke(one[2], 9);
            box.poke(one[0], 5);
            box.poke(one[1], 3);
            Due.is("cycles by " + one[0], box.step(), 5);
            Due.is("P by " + one[0], box.register(Boxes.P), 773);
            shows("no flag is set", box, 1, 2, 3, C);
        }
        Rasterbox last = Boxes.ready(600, 1, 2, 3, 0);
        last.assemble(600, Boxes.code("jmi"), 4095);
        last.poke(4095, 5);
        last.poke(0, 9);
        last.poke(Boxes.BANKS, 12);
        last.step();
        Due.is("behind 4095 the register 0", last.register(Boxes.P), 12 * 256 + 5);
        Rasterbox high = Boxes.ready(600, 1, 2, 3, 0);
        high.assemble(600, Boxes.code("jmi"), 700);
        high.poke(700, 5);
        high.poke(701, 255);
        high.step();
        Due.is("a high byte of 255", high.register(Boxes.P), 3845);
    }

    private static void branchConditions() {
        Due.by("160 bne if z is not set, 161 beq if it is, 162 bcc, 163 bcs, 164 bpl if n is not set, 165 bmi, 166 bvc, 167 bvs: 2 cycles");
        int[] flags = {Z, C, N, V};
        for (int i = 0; i < 8; i++) {
            int flag = flags[i / 2];
            for (int isSet = 0; isSet < 2; isSet++) {
                for (int others = 0; others < 2; others++) {
                    int status = (isSet == 1 ? flag : 0) + (others == 1 ? 207 - flag : 0);
                    boolean isTaken = isSet == i % 2;
                    Rasterbox box = Boxes.ready(600, 1, 2, 3, status);
                    box.assemble(600, 160 + i, 10);
                    String what = "code " + (160 + i) + " status " + status;
                    Due.is(what + ": cycles", box.step(), isTaken ? 3 : 2);
                    Due.is(what + ": P", box.register(Boxes.P), isTaken ? 612 : 602);
                    shows(what, box, 1, 2, 3, status);
                }
            }
        }
    }

    private static void branches(int from, int distance, int to, int cycles) {
        Rasterbox box = Boxes.ready(from, 1, 2, 3, 0);
        box.assemble(from, Boxes.code("bne"), distance);
        Due.is("cycles from " + from + " by " + distance, box.step(), cycles);
        Due.is("P from " + from + " by " + distance, box.register(Boxes.P), to);
    }

    private static void branchDistances() {
        Due.by("if so, P becomes the next P plus the byte, less 256 if it is greater than 127, 3 cycles");
        branches(520, 0, 522, 3);
        branches(520, 1, 523, 3);
        branches(520, 127, 649, 3);
        branches(700, 128, 574, 3);
        branches(700, 255, 701, 3);
        branches(700, 254, 700, 3);
        branches(4090, 100, 96, 4);
        branches(3, 128, 3973, 4);
        branches(4095, 1, 2, 3);
    }

    private static void branchCycles() {
        Due.by("4 if this is on another page than the next P");
        branches(600, 165, 511, 4);
        branches(600, 166, 512, 3);
        branches(700, 65, 767, 3);
        branches(700, 66, 768, 4);
        branches(765, 0, 767, 3);
        branches(766, 0, 768, 3);
        branches(766, 255, 767, 4);
        branches(767, 254, 767, 4);
        branches(4094, 0, 0, 3);
        branches(4094, 255, 4095, 4);
        Rasterbox not = Boxes.ready(600, 1, 2, 3, 0);
        not.assemble(600, Boxes.code("beq"), 166);
        Due.is("not taken, another page", not.step(), 2);
    }

    private static void jams() {
        Due.by("All other codes jam the processor, 2 cycles, which counts as an instruction that is done");
        for (int code = 0; code < 256; code++) {
            boolean isJam = code > 167 && code < 192 || code > 231;
            Rasterbox box = Boxes.ready(600, 1, 2, 3, 0);
            box.poke(600, code);
            int cycles = box.step();
            Due.is("jams by " + code, box.isJammed(), isJam);
            Due.is("done by " + code, box.done(), 2);
            if (isJam) {
                Due.is("cycles of " + code, cycles, 2);
                Due.is("trace of " + code, box.traceAt(0), 600);
                shows("by " + code, box, 1, 2, 3, 0);
            }
        }
    }

    private static void goesOn() {
        Due.by("Otherwise, P goes on behind the instruction.");
        int[] starts = {600, 4093, 4094, 4095};
        int[] codes = {Boxes.code("nop"), Boxes.code("lda"), Boxes.code("lda") + 1, Boxes.code("lda") + 3, Boxes.code("lda") + 4,
            Boxes.code("lda") + 5, Boxes.code("lda") + 6, Boxes.code("sta"), Boxes.code("beq")};
        int[] lengths = {1, 2, 2, 3, 3, 3, 2, 2, 2};
        for (int start : starts) {
            for (int i = 0; i < codes.length; i++) {
                Rasterbox box = Boxes.ready(start, 0, 0, 0, 0);
                box.assemble(start, codes[i], 100);
                box.step();
                Due.is("code " + codes[i] + " at " + start, box.register(Boxes.P), (start + lengths[i]) % 4096);
            }
        }
    }
}
