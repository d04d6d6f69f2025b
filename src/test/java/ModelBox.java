import java.util.ArrayList;
import java.util.List;
import java.util.NoSuchElementException;

/** The face of Rasterbox over the Model, with its exceptions, snapshots and records. */
final class ModelBox {
    private Model model = new Model();
    private final List<Model> snapshots = new ArrayList<>();
    private int kept = -1;
    private String line = "";

    private static void index(boolean isThere) {
        if (!isThere) {
            throw new IndexOutOfBoundsException();
        }
    }

    private static void argument(int value, int least, int most) {
        if (value < least || value > most) {
            throw new IllegalArgumentException();
        }
    }

    private static void state(boolean isAllowed) {
        if (!isAllowed) {
            throw new IllegalStateException();
        }
    }

    private static void address(int address) {
        index(address >= 0 && address <= 4095);
    }

    private void keep() {
        if (kept >= 0) {
            kept++;
        }
    }

    boolean isUnderWay() {
        return model.left > 0;
    }

    int poke(int address, int value) {
        address(address);
        argument(value, 0, 255);
        keep();
        int before = model.peek(address);
        model.poke(address, value);
        return before;
    }

    int pokeRom(int index, int value) {
        index(index >= 0 && index <= 511);
        argument(value, 0, 255);
        keep();
        int before = model.rom[index];
        model.rom[index] = value;
        return before;
    }

    int pokeCartridge(int bank, int index, int value) {
        index(bank >= 0 && bank <= 3 && index >= 0 && index <= 511);
        argument(value, 0, 255);
        keep();
        int before = model.cartridge[bank][index];
        model.cartridge[bank][index] = value;
        return before;
    }

    int peek(int address) {
        address(address);
        return model.peek(address);
    }

    int ram(int address) {
        address(address);
        return model.ram[address];
    }

    int assemble(int address, int code, int operand) {
        address(address);
        argument(code, 0, 255);
        int length = Model.lengthOf(code);
        argument(operand, 0, length == 2 ? 255 : 4095);
        keep();
        model.poke(address, code);
        if (length > 1) {
            model.poke(address + 1, operand % 256);
        }
        if (length > 2) {
            model.poke(address + 2, operand / 256);
        }
        return (address + length) % 4096;
    }

    int writeLine(int address) {
        address(address);
        line = model.lineOf(address);
        return line.length();
    }

    int lineAt(int index) {
        index(index >= 0 && index < line.length());
        return line.charAt(index);
    }

    int compare(int from, int to, int length) {
        address(from);
        address(to);
        argument(length, 1, 4096);
        int different = 0;
        for (int i = 0; i < length; i++) {
            different += model.peek(from + i) == model.peek(to + i) ? 0 : 1;
        }
        return different;
    }

    int register(int number) {
        index(number >= 0 && number <= 4);
        return new int[] {model.a, model.x, model.y, model.s, model.p}[number];
    }

    int setRegister(int number, int value) {
        index(number >= 0 && number <= 4);
        argument(value, 0, number == 4 ? 4095 : 255);
        state(model.left == 0);
        keep();
        int before = register(number);
        switch (number) {
            case 0: model.a = value; break;
            case 1: model.x = value; break;
            case 2: model.y = value; break;
            case 3: model.s = value; break;
            default: model.p = value; break;
        }
        return before;
    }

    int status() {
        return model.status(true);
    }

    int reset() {
        keep();
        model.reset();
        return model.p;
    }

    int freeze() {
        keep();
        int before = model.registers[0];
        model.registers[0] |= 14;
        model.isFreezing = true;
        return before;
    }

    int run(int cycles) {
        argument(cycles, 1, 1000);
        keep();
        int pictures = 0;
        for (int i = 0; i < cycles; i++) {
            pictures += model.pass() ? 1 : 0;
        }
        return pictures;
    }

    int step() {
        state(!model.isJammed);
        keep();
        int before = model.done;
        int passed = 0;
        while (passed < 200 && model.done == before) {
            model.pass();
            passed++;
        }
        return passed;
    }

    long cycle() {
        return model.cycle;
    }

    int isPictures() {
        return model.isOfPicture() ? 1 : 0;
    }

    int underWay() {
        return model.left;
    }

    int done() {
        return model.done;
    }

    int isJammed() {
        return model.isJammed ? 1 : 0;
    }

    int traceAt(int index) {
        index(index >= 0 && index < 16 && index < model.trace.size());
        return model.trace.get(index);
    }

    int pixel(int x, int y) {
        index(x >= 0 && x < 32 && y >= 0 && y < 32);
        return model.pixels[y][x];
    }

    int sample(int line) {
        index(line >= 0 && line < 40);
        return model.samples[line];
    }

    int level(int voice) {
        index(voice >= 0 && voice < 3);
        return model.levels[voice];
    }

    int key(int row, int column, boolean isDown) {
        index(row >= 0 && row < 4 && column >= 0 && column < 4);
        keep();
        int key = 4 * row + column;
        boolean wasDown = model.keys.contains(key);
        if (isDown) {
            model.keys.add(key);
        } else {
            model.keys.remove(key);
        }
        return wasDown ? 1 : 0;
    }

    int columns(int rows) {
        argument(rows, 0, 15);
        return model.columns(rows);
    }

    int joystick(int bits) {
        argument(bits, 0, 15);
        keep();
        int before = model.joystick;
        model.joystick = bits;
        return before;
    }

    int addPulse(int length) {
        argument(length, 1, 999);
        state(model.pulses.size() < 40);
        keep();
        if (model.over == model.pulses.size()) {
            model.timeLeft = length;
        }
        model.pulses.add(length);
        return model.pulses.size();
    }

    int rewind() {
        keep();
        int before = model.over;
        model.over = 0;
        model.timeLeft = model.pulses.isEmpty() ? 0 : model.pulses.get(0);
        return before;
    }

    int pulsesLeft() {
        return model.pulses.size() - model.over;
    }

    int save() {
        state(snapshots.size() < 3);
        snapshots.add(model.copy());
        return snapshots.size() - 1;
    }

    int restore(int snapshot) {
        int changed = differences(snapshot);
        model = snapshots.get(snapshot).copy();
        kept = -1;
        return changed;
    }

    int differences(int snapshot) {
        if (snapshot < 0 || snapshot >= snapshots.size()) {
            throw new NoSuchElementException();
        }
        int different = 0;
        for (int address = 0; address < 4096; address++) {
            different += model.ram[address] == snapshots.get(snapshot).ram[address] ? 0 : 1;
        }
        return different;
    }

    int startRecord() {
        int before = Math.max(kept, 0);
        kept = 0;
        return before;
    }

    int recorded() {
        state(kept >= 0);
        return kept;
    }

    /** What has led to a machine leads to it again. */
    int isSame() {
        state(kept >= 0);
        return 1;
    }

    int sumOfPicture() {
        int sum = 0;
        for (int[] row : model.pixels) {
            for (int pixel : row) {
                sum = 31 * sum + pixel;
            }
        }
        return sum;
    }

    long pictures() {
        return model.pictures;
    }

    double solidShare() {
        int others = 0;
        for (int[] row : model.pixels) {
            for (int pixel : row) {
                others += pixel == model.registers[3] ? 0 : 1;
            }
        }
        return (float) others / 1024f;
    }

    double meanSample() {
        double sum = 0;
        for (int sample : model.samples) {
            sum += sample;
        }
        return sum / 40.0;
    }
}
