import java.util.Random;
import java.util.function.DoubleSupplier;

/** Runs of 512 calls by chance, but always the same ones, whose answers are compared with those of the Model. */
public final class RandomRunsTest {
    private static final int CALLS = 512;
    private static final int RUNS = 240;

    private final Random random;
    private final String name;
    private final Rasterbox box = new Rasterbox();
    private final ModelBox model = new ModelBox();
    private int calls;
    private boolean isWrong;

    private RandomRunsTest(int seed) {
        random = new Random(seed);
        name = "run " + seed;
    }

    public static void main(String[] args) {
        int runs = args.length > 0 ? Integer.parseInt(args[0]) : RUNS;
        for (int seed = 1; seed <= runs; seed++) {
            RandomRunsTest run = new RandomRunsTest(seed);
            if (seed % 2 == 0) {
                run.instructions();
            } else {
                run.everything();
            }
        }
        Due.end("RandomRunsTest");
    }

    private static String outcome(DoubleSupplier call) {
        try {
            double answer = call.getAsDouble();
            return String.valueOf(answer);
        } catch (RuntimeException e) {
            return e.getClass().getSimpleName();
        }
    }

    private void same(String call, DoubleSupplier made, DoubleSupplier wanted) {
        if (calls >= CALLS || isWrong) {
            return;
        }
        calls++;
        String got = outcome(made);
        String want = outcome(wanted);
        if (!got.equals(want)) {
            isWrong = true;
            Due.tell(name + " call " + calls + " " + call + " answered " + got + ", due is " + want);
        }
    }

    private int any(int bound) {
        return random.nextInt(bound);
    }

    /** Now and then a number out of range. */
    private int within(int least, int most) {
        if (any(60) > 0) {
            return least + any(most - least + 1);
        }
        int[] bad = {least - 1, most + 1, Integer.MIN_VALUE, Integer.MAX_VALUE};
        return bad[any(4)];
    }

    private int address() {
        int[] edges = {0, 255, 256, 511, 2047, 2048, 2559, 2560, 3071, 3072, 3583, 3584, 3839, 3888, 4095};
        switch (any(10)) {
            case 0: case 1: case 2: return 3840 + any(48);
            case 3: return any(256);
            case 4: return 256 + any(256);
            case 5: return 600 + any(40);
            case 6: return edges[any(edges.length)];
            case 7: return (any(2) == 0 ? 2048 : 3072) + any(512);
            default: return within(0, 4095);
        }
    }

    private void poke(int address, int value) {
        same("poke " + address + " " + value, () -> box.poke(address, value), () -> model.poke(address, value));
    }

    private void setRegister(int number, int value) {
        same("setRegister " + number + " " + value, () -> box.setRegister(number, value),
                () -> model.setRegister(number, value));
    }

    private void assemble(int address, int code, int operand) {
        same("assemble " + address + " " + code + " " + operand, () -> box.assemble(address, code, operand),
                () -> model.assemble(address, code, operand));
    }

    private void register(int number) {
        same("register " + number, () -> box.register(number), () -> model.register(number));
    }

    private void peek(int address) {
        same("peek " + address, () -> box.peek(address), () -> model.peek(address));
    }

    private void run(int cycles) {
        same("run " + cycles, () -> box.run(cycles), () -> model.run(cycles));
    }

    private void step() {
        same("step", box::step, model::step);
    }

    private void addPulse(int length) {
        same("addPulse " + length, () -> box.addPulse(length), () -> model.addPulse(length));
    }

    private int operand(int code) {
        if (Model.lengthOf(code) == 2) {
            return any(20) == 0 ? within(0, 255) : any(256);
        }
        return any(3) == 0 ? 3840 + any(48) : any(3) == 0 ? 256 * any(16) + 255 : within(0, 4095);
    }

    private int code() {
        int code = any(256);
        return Model.nameOf(code).equals("jam") && any(10) > 0 ? 149 : code;
    }

    private void scene() {
        int screen = any(16);
        poke(3841, any(4));
        poke(3842, any(32));
        for (int register = 3843; register < 3847; register++) {
            poke(register, any(16));
        }
        poke(3847, screen);
        poke(3848, any(16));
        for (int register = 3857; register < 3860; register++) {
            poke(register, any(16));
        }
        poke(3868, any(16));
        for (int sprite = 0; sprite < 4; sprite++) {
            poke(3860 + sprite, any(40));
            poke(3864 + sprite, any(40));
            poke((256 * screen + 128 + 8 * sprite + any(8)) % 4096, any(256));
            poke((256 * screen + 128 + 8 * sprite + any(8)) % 4096, any(256));
        }
        for (int i = any(20); i > 0; i--) {
            poke((256 * screen + any(128)) % 4096, any(256));
        }
    }

    private void surroundings() {
        for (int register = 3872; register < 3884; register++) {
            poke(register, any(256));
        }
        for (int vector = 3834; vector < 3840; vector++) {
            poke(vector, any(256));
        }
        poke(3851, any(16));
        poke(3849, any(45));
        poke(3852, any(30));
        poke(3854, any(9));
        poke(3856, any(8));
        for (int i = any(5); i > 0; i--) {
            addPulse(1 + any(60));
        }
        poke(3884, any(2));
    }

    private void everything() {
        if (any(5) > 0) {
            scene();
        }
        if (any(5) > 0) {
            surroundings();
        }
        int address = any(2) == 0 ? 600 : any(4096);
        setRegister(4, address);
        for (int i = any(40); i > 0; i--) {
            int code = code();
            assemble(address, code, operand(code));
            address = (address + Model.lengthOf(code)) % 4096;
        }
        while (calls < CALLS && !isWrong) {
            switch (any(5)) {
                case 0: write(); break;
                case 1: time(); break;
                case 2: outside(); break;
                case 3: records(); break;
                default: look(); break;
            }
        }
    }

    private void write() {
        int address = address();
        int value = within(0, 255);
        int bank = within(0, 3);
        int index = within(0, 511);
        switch (any(5)) {
            case 0:
                same("pokeRom", () -> box.pokeRom(index, value), () -> model.pokeRom(index, value));
                break;
            case 1:
                same("pokeCartridge", () -> box.pokeCartridge(bank, index, value),
                        () -> model.pokeCartridge(bank, index, value));
                break;
            case 2:
                int code = any(60) == 0 ? within(0, 255) : code();
                assemble(address, code, code < 0 || code > 255 ? 0 : operand(code));
                break;
            default:
                poke(address, value);
                break;
        }
    }

    private void time() {
        int number = within(0, 4);
        switch (any(12)) {
            case 0:
                if (any(4) == 0) {
                    same("reset", box::reset, model::reset);
                }
                break;
            case 1: same("freeze", box::freeze, model::freeze); break;
            case 2: case 3: run(within(1, 1000)); break;
            case 4: case 5: run(1 + any(30)); break;
            case 6: setRegister(number, number == 4 ? within(0, 4095) : within(0, 255)); break;
            case 7: register(number); break;
            default: step(); break;
        }
    }

    private void outside() {
        int one = within(0, 3);
        int other = within(0, 3);
        int bits = within(0, 15);
        boolean isDown = any(3) > 0;
        switch (any(6)) {
            case 0: same("joystick", () -> box.joystick(bits), () -> model.joystick(bits)); break;
            case 1: same("columns", () -> box.columns(bits), () -> model.columns(bits)); break;
            case 2: addPulse(any(2) == 0 ? within(1, 999) : 1 + any(40)); break;
            case 3: same("rewind", box::rewind, model::rewind); break;
            default:
                same("key " + one + " " + other, () -> box.key(one, other, isDown) ? 1 : 0,
                        () -> model.key(one, other, isDown));
                break;
        }
    }

    private void records() {
        int snapshot = any(9) == 0 ? within(0, 2) : any(3);
        switch (any(10)) {
            case 0: same("save", box::save, model::save); break;
            case 1:
                if (any(3) == 0) {
                    same("restore " + snapshot, () -> box.restore(snapshot), () -> model.restore(snapshot));
                }
                break;
            case 2: case 3:
                same("differences", () -> box.differences(snapshot), () -> model.differences(snapshot));
                break;
            case 4: same("startRecord", box::startRecord, model::startRecord); break;
            case 5: same("recorded", box::recorded, model::recorded); break;
            default: same("isSame", () -> box.isSame() ? 1 : 0, model::isSame); break;
        }
    }

    private void look() {
        int address = address();
        int other = address();
        int x = within(0, 31);
        int y = within(0, 31);
        int index = any(20) - 1;
        switch (any(22)) {
            case 0: same("ram", () -> box.ram(address), () -> model.ram(address)); break;
            case 1: same("writeLine " + address, () -> box.writeLine(address), () -> model.writeLine(address)); break;
            case 2: same("lineAt " + index, () -> box.lineAt(index), () -> model.lineAt(index)); break;
            case 3:
                int length = any(2) == 0 ? within(1, 4096) : 1 + any(60);
                same("compare", () -> box.compare(address, other, length),
                        () -> model.compare(address, other, length));
                break;
            case 4: same("pixel " + x + " " + y, () -> box.pixel(x, y), () -> model.pixel(x, y)); break;
            case 5: case 6: case 7: case 8:
                same("pixelAgain " + x + " " + y, () -> box.pixelAgain(x, y), () -> model.pixel(x, y));
                break;
            case 9: same("sample", () -> box.sample(x + y / 4), () -> model.sample(x + y / 4)); break;
            case 10: same("level", () -> box.level(index % 4), () -> model.level(index % 4)); break;
            case 11: same("traceAt " + index, () -> box.traceAt(index), () -> model.traceAt(index)); break;
            case 12: same("sumOfPicture", box::sumOfPicture, model::sumOfPicture); break;
            case 13: same("solidShare", box::solidShare, model::solidShare); break;
            case 14: same("meanSample", box::meanSample, model::meanSample); break;
            case 15: counters(); break;
            default: peek(any(2) == 0 ? address : 3840 + any(48)); break;
        }
    }

    private void counters() {
        switch (any(7)) {
            case 0: same("cycle", box::cycle, model::cycle); break;
            case 1: same("isPictures", () -> box.isPictures() ? 1 : 0, model::isPictures); break;
            case 2: same("underWay", box::underWay, model::underWay); break;
            case 3: same("done", box::done, model::done); break;
            case 4: same("isJammed", () -> box.isJammed() ? 1 : 0, model::isJammed); break;
            case 5: same("pictures", box::pictures, model::pictures); break;
            default: same("pulsesLeft", box::pulsesLeft, model::pulsesLeft); break;
        }
    }

    /** One instruction after the other, each with all that it changes. */
    private void instructions() {
        if (any(2) == 0) {
            scene();
        }
        if (any(3) == 0) {
            surroundings();
        }
        for (int i = 0; i < 8; i++) {
            poke(any(256), any(256));
        }
        while (calls < CALLS && !isWrong) {
            if (model.isJammed() == 1) {
                same("reset", box::reset, model::reset);
            }
            while (calls < CALLS && model.isUnderWay() && !isWrong) {
                run(1);
            }
            instruction();
        }
    }

    private void instruction() {
        int[] edges = {0, 127, 128, 153, 255};
        int[] ofPage = {252, 253, 254, 255, 0, 1};
        for (int number = 0; number < 4; number++) {
            if (any(number == 3 ? 12 : 3) == 0) {
                setRegister(number, any(2) == 0 ? any(256) : edges[any(5)]);
            }
        }
        if (any(4) == 0) {
            setRegister(4, any(2) == 0 ? any(4096) : 256 * any(16) + ofPage[any(6)]);
        }
        if (any(12) == 0) {
            same("freeze", box::freeze, model::freeze);
        }
        int at = model.register(4);
        int code = code();
        assemble(at, code, operand(code));
        if (any(4) == 0) {
            same("writeLine " + at, () -> box.writeLine(at), () -> model.writeLine(at));
        }
        if (any(4) > 0) {
            step();
        } else {
            run(1 + any(8));
            same("underWay", box::underWay, model::underWay);
        }
        for (int number = 0; number < 5; number++) {
            register(number);
        }
        same("status", box::status, model::status);
        if (any(4) == 0) {
            same("done", box::done, model::done);
            same("traceAt", () -> box.traceAt(0), () -> model.traceAt(0));
            peek(3840 + any(48));
        }
    }
}
