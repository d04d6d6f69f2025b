import java.util.Arrays;
import java.util.NoSuchElementException;

/** A home computer of eight bits; the numbered promises of its document say what each method does. */
public final class Rasterbox {
    private static final int ADDRESSES = 4096;
    private static final int LAST_ADDRESS = 4095;
    private static final int BYTE = 255;

    private static final int ROM_START = 3072;
    private static final int CARTRIDGE_START = 2048;
    private static final int BANK_SIZE = 512;
    private static final int BANKS_OF_CARTRIDGE = 4;

    private static final int REGISTERS_START = 3840;
    private static final int REGISTERS = 48;
    /** Stands behind the addresses in a frame's writes, and tells that every register became 0. */
    private static final int ALL_REGISTERS = 4096;

    private static final int BANKS = 0;
    private static final int MODE = 1;
    private static final int SCROLL = 2;
    private static final int BACKGROUND = 3;
    private static final int SCREEN = 7;
    private static final int LETTERS = 8;
    private static final int LINE = 9;
    private static final int FLAGS = 10;
    private static final int MASK = 11;
    private static final int LATCHES = 12;
    private static final int TIMERS = 16;
    private static final int SPRITES_ON = 17;
    private static final int SPRITES_DOUBLED = 18;
    private static final int SPRITES_BEHIND = 19;
    private static final int SPRITE_X = 20;
    private static final int SPRITE_Y = 24;
    private static final int SPRITE_COLOUR = 28;
    private static final int HITS_OF_SPRITES = 29;
    private static final int HITS_OF_SOLID = 30;
    private static final int KEY_ROWS = 31;
    private static final int VOICES = 32;
    private static final int MOTOR = 44;

    private static final int LINE_FLAG = 1;
    private static final int TIMER_FLAG = 2;
    private static final int TAPE_FLAG = 8;

    private static final int COLUMNS = 24;
    private static final int LINES = 40;
    private static final int FRAME = 960;
    private static final int FIRST_LINE_WITH_ROW = 4;
    private static final int FIRST_COLUMN_WITH_PIXELS = 4;
    private static final int LAST_COLUMN_WITH_PIXELS = 19;
    private static final int SIDE = 32;
    private static final int PIXELS = 1024;
    private static final int SPRITES = 4;

    private static final int MOST_PULSES = 40;
    private static final int LONGEST_PULSE = 999;
    private static final int MOST_SNAPSHOTS = 3;
    private static final int MOST_CALLS = 512;
    /** 512 calls write at most 3 bytes each in one frame, and the processor some 412 more. */
    private static final int MOST_WRITES = 3072;
    private static final int LONGEST_RUN = 1000;
    private static final int LONGEST_STEP = 200;
    private static final int TRACED = 16;

    private static final int NUMBER_OF_P = 4;
    private static final int FREEZE_BANKS = 14;

    private static final int POKE = 0;
    private static final int POKE_ROM = 1;
    private static final int POKE_CARTRIDGE = 2;
    private static final int ASSEMBLE = 3;
    private static final int SET_REGISTER = 4;
    private static final int RESET = 5;
    private static final int FREEZE = 6;
    private static final int RUN = 7;
    private static final int STEP = 8;
    private static final int KEY = 9;
    private static final int JOYSTICK = 10;
    private static final int ADD_PULSE = 11;
    private static final int REWIND = 12;

    // All rows are made with the object and used again, because what a call makes counts for each of 512 calls.
    private final Machine machine = new Machine();
    private final Machine[] snapshots = new Machine[MOST_SNAPSHOTS];
    private int saved;
    private final Recording recording = new Recording();
    private final StringBuilder monitorLine = new StringBuilder();
    private final Scene scratch = new Scene();

    public Rasterbox() {
        for (int i = 0; i < MOST_SNAPSHOTS; i++) {
            snapshots[i] = new Machine();
        }
    }

    public int poke(int address, int value) throws IndexOutOfBoundsException, IllegalArgumentException {
        checkAddress(address);
        checkByte(value);
        recording.keep(POKE, address, value, 0);
        return machine.perform(POKE, address, value, 0);
    }

    public int pokeRom(int index, int value) throws IndexOutOfBoundsException, IllegalArgumentException {
        checkIndex(index, BANK_SIZE);
        checkByte(value);
        recording.keep(POKE_ROM, index, value, 0);
        return machine.perform(POKE_ROM, index, value, 0);
    }

    public int pokeCartridge(int bank, int index, int value)
            throws IndexOutOfBoundsException, IllegalArgumentException {
        checkIndex(bank, BANKS_OF_CARTRIDGE);
        checkIndex(index, BANK_SIZE);
        checkByte(value);
        recording.keep(POKE_CARTRIDGE, bank, index, value);
        return machine.perform(POKE_CARTRIDGE, bank, index, value);
    }

    public int peek(int address) throws IndexOutOfBoundsException {
        checkAddress(address);
        return machine.board.read(address);
    }

    public int ram(int address) throws IndexOutOfBoundsException {
        checkAddress(address);
        return machine.board.scene.ram[address & LAST_ADDRESS];
    }

    public int assemble(int address, int code, int operand)
            throws IndexOutOfBoundsException, IllegalArgumentException {
        checkAddress(address);
        checkByte(code);
        checkArgument(operand, 0, LAST_ADDRESS);
        if (Codes.lengthOf(code) == 2) {
            checkByte(operand);
        }
        recording.keep(ASSEMBLE, address, code, operand);
        return machine.perform(ASSEMBLE, address, code, operand);
    }

    public int writeLine(int address) throws IndexOutOfBoundsException {
        checkAddress(address);
        Monitor.describe(monitorLine, machine.board, address);
        return monitorLine.length();
    }

    public char lineAt(int index) throws IndexOutOfBoundsException {
        checkIndex(index, monitorLine.length());
        return monitorLine.charAt(index);
    }

    public int compare(int from, int to, int length) throws IndexOutOfBoundsException, IllegalArgumentException {
        checkAddress(from);
        checkAddress(to);
        checkArgument(length, 1, ADDRESSES);
        int different = 0;
        for (int i = 0; i < length; i++) {
            int one = machine.board.read((from + i) & LAST_ADDRESS);
            if (one != machine.board.read((to + i) & LAST_ADDRESS)) {
                different++;
            }
        }
        return different;
    }

    public int register(int number) throws IndexOutOfBoundsException {
        checkIndex(number, NUMBER_OF_P + 1);
        return machine.processor.registerOf(number);
    }

    public int setRegister(int number, int value)
            throws IndexOutOfBoundsException, IllegalArgumentException, IllegalStateException {
        checkIndex(number, NUMBER_OF_P + 1);
        checkArgument(value, 0, number == NUMBER_OF_P ? LAST_ADDRESS : BYTE);
        if (machine.processor.left > 0) {
            throw new IllegalStateException("an instruction or an interrupt is under way");
        }
        recording.keep(SET_REGISTER, number, value, 0);
        return machine.perform(SET_REGISTER, number, value, 0);
    }

    public int status() {
        return machine.processor.flags | Processor.ALWAYS | Processor.BREAK;
    }

    public int reset() {
        recording.keep(RESET, 0, 0, 0);
        return machine.perform(RESET, 0, 0, 0);
    }

    public int freeze() {
        recording.keep(FREEZE, 0, 0, 0);
        return machine.perform(FREEZE, 0, 0, 0);
    }

    public int run(int cycles) throws IllegalArgumentException {
        checkArgument(cycles, 1, LONGEST_RUN);
        recording.keep(RUN, cycles, 0, 0);
        return machine.perform(RUN, cycles, 0, 0);
    }

    public int step() throws IllegalStateException {
        if (machine.processor.isJammed) {
            throw new IllegalStateException("the processor is jammed");
        }
        recording.keep(STEP, 0, 0, 0);
        return machine.perform(STEP, 0, 0, 0);
    }

    public long cycle() {
        return machine.board.cycle;
    }

    public boolean isPictures() {
        return machine.board.isPictureNext();
    }

    public int underWay() {
        return machine.processor.left;
    }

    public int done() {
        return machine.processor.done;
    }

    public boolean isJammed() {
        return machine.processor.isJammed;
    }

    public int traceAt(int index) throws IndexOutOfBoundsException {
        Processor processor = machine.processor;
        checkIndex(index, processor.instructions < TRACED ? processor.instructions : TRACED);
        return processor.trace[(processor.instructions - 1 - index) & (TRACED - 1)];
    }

    public int pixel(int x, int y) throws IndexOutOfBoundsException {
        checkIndex(x, SIDE);
        checkIndex(y, SIDE);
        return machine.pixels[(SIDE * y + x) & (PIXELS - 1)];
    }

    public int pixelAgain(int x, int y) throws IndexOutOfBoundsException {
        checkIndex(x, SIDE);
        checkIndex(y, SIDE);
        return machine.board.drawnAgain(x, y, scratch);
    }

    public int sample(int line) throws IndexOutOfBoundsException {
        checkIndex(line, LINES);
        return machine.voices.samples[line];
    }

    public int level(int voice) throws IndexOutOfBoundsException {
        checkIndex(voice, Voices.COUNT);
        return machine.voices.levels[voice];
    }

    public boolean key(int row, int column, boolean isDown) throws IndexOutOfBoundsException {
        checkIndex(row, Keys.ROWS);
        checkIndex(column, Keys.ROWS);
        int down = isDown ? 1 : 0;
        recording.keep(KEY, row, column, down);
        return machine.perform(KEY, row, column, down) == 1;
    }

    public int columns(int rows) throws IllegalArgumentException {
        checkArgument(rows, 0, Keys.ALL);
        return machine.board.keys.seen[rows & Keys.ALL];
    }

    public int joystick(int bits) throws IllegalArgumentException {
        checkArgument(bits, 0, Keys.ALL);
        recording.keep(JOYSTICK, bits, 0, 0);
        return machine.perform(JOYSTICK, bits, 0, 0);
    }

    public int addPulse(int length) throws IllegalArgumentException, IllegalStateException {
        checkArgument(length, 1, LONGEST_PULSE);
        if (machine.board.tape.count >= MOST_PULSES) {
            throw new IllegalStateException("the tape is full");
        }
        recording.keep(ADD_PULSE, length, 0, 0);
        return machine.perform(ADD_PULSE, length, 0, 0);
    }

    public int rewind() {
        recording.keep(REWIND, 0, 0, 0);
        return machine.perform(REWIND, 0, 0, 0);
    }

    public int pulsesLeft() {
        return machine.board.tape.count - machine.board.tape.over;
    }

    public int save() throws IllegalStateException {
        int number = saved;
        if (number < 0 || number >= MOST_SNAPSHOTS) {
            throw new IllegalStateException("there are 3 snapshots");
        }
        snapshots[number].become(machine);
        saved = number + 1;
        return number;
    }

    public int restore(int snapshot) throws NoSuchElementException {
        Machine wanted = snapshotOf(snapshot);
        if (wanted == null) {
            throw new NoSuchElementException("no such snapshot");
        }
        int changed = machine.board.scene.bytesUnlike(wanted.board.scene);
        machine.become(wanted);
        recording.isOn = false;
        return changed;
    }

    public int differences(int snapshot) throws NoSuchElementException {
        Machine wanted = snapshotOf(snapshot);
        if (wanted == null) {
            throw new NoSuchElementException("no such snapshot");
        }
        return machine.board.scene.bytesUnlike(wanted.board.scene);
    }

    public int startRecord() {
        int earlier = recording.isOn ? recording.count : 0;
        recording.begin(machine);
        return earlier;
    }

    public int recorded() throws IllegalStateException {
        if (!recording.isOn) {
            throw new IllegalStateException("there is no record");
        }
        return recording.count;
    }

    public boolean isSame() throws IllegalStateException {
        Recording played = recording;
        if (!played.isOn) {
            throw new IllegalStateException("there is no record");
        }
        // What was played before need not be played again: the same calls lead to the same machine.
        for (int i = played.played; i < played.count; i++) {
            int at = i & (MOST_CALLS - 1);
            played.machine.perform(played.kinds[at], played.firsts[at], played.seconds[at], played.thirds[at]);
        }
        played.played = played.count;
        return played.machine.isLike(machine);
    }

    public int sumOfPicture() {
        int sum = 0;
        for (int i = 0; i < PIXELS; i++) {
            sum = 31 * sum + machine.pixels[i];
        }
        return sum;
    }

    public long pictures() {
        return machine.ofPicture;
    }

    public float solidShare() {
        int background = machine.board.scene.registers[BACKGROUND];
        int others = 0;
        for (int i = 0; i < PIXELS; i++) {
            if (machine.pixels[i] != background) {
                others++;
            }
        }
        return (float) others / (float) PIXELS;
    }

    public double meanSample() {
        int sum = 0;
        for (int i = 0; i < LINES; i++) {
            sum += machine.voices.samples[i];
        }
        return (double) sum / (double) LINES;
    }

    private static void checkAddress(int address) {
        checkIndex(address, ADDRESSES);
    }

    private static void checkIndex(int index, int count) {
        if (index < 0 || index >= count) {
            throw new IndexOutOfBoundsException("no such index");
        }
    }

    private static void checkByte(int value) {
        checkArgument(value, 0, BYTE);
    }

    private static void checkArgument(int value, int least, int most) {
        if (value < least || value > most) {
            throw new IllegalArgumentException("out of range");
        }
    }

    private Machine snapshotOf(int number) {
        return number >= 0 && number < saved && number < MOST_SNAPSHOTS ? snapshots[number] : null;
    }

    /** All that a snapshot keeps. */
    private static final class Machine {
        final Board board = new Board();
        final Processor processor = new Processor();
        final Voices voices = new Voices();
        final int[] pixels = new int[PIXELS];
        long ofPicture;

        void become(Machine other) {
            board.become(other.board);
            processor.become(other.processor);
            voices.become(other.voices);
            System.arraycopy(other.pixels, 0, pixels, 0, PIXELS);
            ofPicture = other.ofPicture;
        }

        boolean isLike(Machine other) {
            for (int i = 0; i < REGISTERS; i++) {
                if (board.read(REGISTERS_START + i) != other.board.read(REGISTERS_START + i)) {
                    return false;
                }
            }
            for (int i = 0; i < PIXELS; i++) {
                if (pixels[i] != other.pixels[i]) {
                    return false;
                }
            }
            return board.scene.bytesUnlike(other.board.scene) == 0
                    && processor.isLike(other.processor) && voices.isLike(other.voices);
        }

        /** One way for a call and for its repetition from a record, so that both do the same. */
        int perform(int kind, int first, int second, int third) {
            switch (kind) {
                case POKE: return board.exchange(first, second);
                case POKE_ROM: return board.exchangeRom(first, second);
                case POKE_CARTRIDGE: return board.exchangeCartridge(BANK_SIZE * first + second, third);
                case ASSEMBLE: return board.writeInstruction(first, second, third);
                case SET_REGISTER: return processor.exchange(first, second);
                case RESET: return startAnew();
                case FREEZE: return pressFreeze();
                case RUN: return letPass(first, false);
                case STEP: return letPass(LONGEST_STEP, true);
                case KEY: return board.keys.press(first, second, third);
                case JOYSTICK: return board.keys.exchangeJoystick(first);
                case ADD_PULSE: return board.tape.add(first);
                case REWIND: return board.tape.windBack();
                default: return 0;
            }
        }

        int startAnew() {
            board.clearRegisters();
            processor.startAnew(board);
            return processor.p;
        }

        int pressFreeze() {
            int before = board.scene.registers[BANKS];
            board.write(REGISTERS_START + BANKS, before | FREEZE_BANKS);
            processor.isFreezing = true;
            return before;
        }

        /** Answers the cycles of a step, or how many cycles of a run are of the picture. */
        int letPass(int most, boolean isStep) {
            int doneBefore = processor.done;
            int passed = 0;
            int pictures = 0;
            while (passed < most && !(isStep && processor.done != doneBefore)) {
                if (passPicture()) {
                    pictures++;
                } else {
                    if (processor.left == 0) {
                        processor.begin(board);
                    }
                    if (processor.isLastCycle()) {
                        processor.finish(board);
                    }
                }
                board.endCycle();
                passed++;
            }
            ofPicture += pictures;
            return isStep ? passed : pictures;
        }

        /** Does all of a cycle but what the processor does; answers whether the cycle is of the picture. */
        boolean passPicture() {
            board.meetLine();
            boolean isOfPicture = board.isPictureNext();
            board.draw(pixels);
            board.countTimers();
            board.moveTape();
            if (board.column() == COLUMNS - 1) {
                voices.sound(board.scene.registers, board.position() / COLUMNS);
            }
            return isOfPicture;
        }
    }

    /** What the picture is made of: the RAM, and the registers as they were written. */
    private static final class Scene {
        /** The bits that a write keeps of each register; 0 where a write is lost or has a meaning of its own. */
        private static final int[] MASKS = {
            15, 3, 31, 15, 15, 15, 15, 15, 15, 255, 0, 15, 255, 255, 255, 255,
            7, 15, 15, 15, 63, 63, 63, 63, 63, 63, 63, 63, 15, 0, 0, 15,
            255, 255, 255, 255, 255, 255, 255, 255, 255, 255, 255, 255, 1, 0, 0, 0};

        final int[] ram = new int[ADDRESSES];
        final int[] registers = new int[REGISTERS];

        void become(Scene other) {
            System.arraycopy(other.ram, 0, ram, 0, ADDRESSES);
            System.arraycopy(other.registers, 0, registers, 0, REGISTERS);
        }

        int bytesUnlike(Scene other) {
            int unlike = 0;
            for (int i = 0; i < ADDRESSES; i++) {
                if (ram[i] != other.ram[i]) {
                    unlike++;
                }
            }
            return unlike;
        }

        void put(int address, int value) {
            int number = address - REGISTERS_START;
            if (number < 0 || number >= REGISTERS) {
                ram[address & LAST_ADDRESS] = value & BYTE;
            } else if (MASKS[number] != 0) {
                registers[number] = value & MASKS[number];
            }
        }

        void clearRegisters() {
            Arrays.fill(registers, 0);
        }

        int scrollLeft() {
            return registers[SCROLL] & 3;
        }

        int scrollUp() {
            return registers[SCROLL] >> 2;
        }

        boolean takesCycle(int row, int column) {
            if (row < 0 || row >= SIDE || column >= 8 && column < 20) {
                return false;
            }
            if (column >= 20) {
                return isAmongRows(column - 20, row);
            }
            if (registers[MODE] == 0) {
                return (row + scrollUp()) % 8 == 0;
            }
            return registers[MODE] != 3 && column < 4;
        }

        boolean isAmongRows(int sprite, int row) {
            int n = sprite & (SPRITES - 1);
            int first = registers[SPRITE_Y + n];
            int rows = 8 << bitOf(SPRITES_DOUBLED, n);
            return bitOf(SPRITES_ON, n) == 1 && row >= first && row < first + rows;
        }

        int bitOf(int number, int bit) {
            return number >= 0 && number < REGISTERS ? registers[number] >> bit & 1 : 0;
        }

        /** The number of the colour that the mode gives a pixel, without sprites. */
        int valueAt(int x, int row) {
            int u = (x + scrollLeft()) % SIDE;
            int v = (row + scrollUp()) % SIDE;
            int screen = 256 * registers[SCREEN];
            int bits = byteAt(screen + 4 * v + u / 8);
            switch (registers[MODE]) {
                case 0:
                    int letter = byteAt(screen + 8 * (v / 8) + u / 4);
                    return byteAt(256 * registers[LETTERS] + 8 * letter + v % 8) >> 3 - u % 4 & 1;
                case 1: return bits >> 7 - u % 8 & 1;
                case 2: return bits >> 6 - 2 * (u % 8 / 2) & 3;
                default: return 0;
            }
        }

        int byteAt(int address) {
            return ram[address & LAST_ADDRESS];
        }

        boolean isSolid(int value) {
            return registers[MODE] == 2 ? value >= 2 : value == 1;
        }

        /** The bits of the sprites that cover a pixel. */
        int spritesAt(int x, int row) {
            int found = 0;
            for (int n = 0; n < SPRITES; n++) {
                int halving = bitOf(SPRITES_DOUBLED, n);
                int p = x - registers[SPRITE_X + n] >> halving;
                int q = row - registers[SPRITE_Y + n] >> halving;
                if (bitOf(SPRITES_ON, n) == 1 && p >= 0 && p < 8 && q >= 0 && q < 8) {
                    int bits = byteAt(256 * registers[SCREEN] + 128 + 8 * n + q);
                    found |= (bits >> 7 - p & 1) << n;
                }
            }
            return found;
        }

        int colourOf(int value, int sprites) {
            for (int n = 0; n < SPRITES; n++) {
                if ((sprites >> n & 1) == 1) {
                    boolean isHidden = bitOf(SPRITES_BEHIND, n) == 1 && isSolid(value);
                    return isHidden ? registers[BACKGROUND + (value & 3)] : (registers[SPRITE_COLOUR] + n) % 16;
                }
            }
            return registers[BACKGROUND + (value & 3)];
        }

        void noteHits(int value, int sprites) {
            if (Integer.bitCount(sprites) > 1) {
                registers[HITS_OF_SPRITES] |= sprites;
            }
            if (isSolid(value)) {
                registers[HITS_OF_SOLID] |= sprites;
            }
        }
    }

    /** A frame as it can be made again: the scene at its beginning, and what was written in it. */
    private static final class Frame {
        final Scene start = new Scene();
        /** Each is 2097152 times the time, plus 256 times the address, plus the byte. */
        final int[] writes = new int[MOST_WRITES];
        int count;
        /** How many cycles of the frame have drawn what they draw. */
        int time;

        void become(Frame other) {
            start.become(other.start);
            System.arraycopy(other.writes, 0, writes, 0, MOST_WRITES);
            count = other.count;
            time = other.time;
        }

        void begin(Scene scene) {
            start.become(scene);
            count = 0;
            time = 0;
        }

        void keep(int address, int value) {
            if (count >= 0 && count < MOST_WRITES) {
                writes[count] = (time << 21) + (address << 8) + value;
                count++;
            }
        }

        /** Makes the scene as the drawing of a cycle, told by its place in the frame, has found it. */
        void replay(int moment, Scene scene) {
            scene.become(start);
            for (int i = 0; i < count && i < MOST_WRITES; i++) {
                if (writes[i] >> 21 > moment) {
                    return;
                }
                int address = writes[i] >> 8 & 8191;
                if (address == ALL_REGISTERS) {
                    scene.clearRegisters();
                } else {
                    scene.put(address, writes[i] & BYTE);
                }
            }
        }
    }

    /** Memory as the processor sees it, with all that goes on in a cycle by itself, but the voices. */
    private static final class Board {
        final Scene scene = new Scene();
        final int[] rom = new int[BANK_SIZE];
        final int[] cartridge = new int[BANKS_OF_CARTRIDGE * BANK_SIZE];
        final int[] counts = new int[2];
        final Tape tape = new Tape();
        final Keys keys = new Keys();
        final Frame even = new Frame();
        final Frame odd = new Frame();
        long cycle;

        void become(Board other) {
            scene.become(other.scene);
            System.arraycopy(other.rom, 0, rom, 0, BANK_SIZE);
            System.arraycopy(other.cartridge, 0, cartridge, 0, BANKS_OF_CARTRIDGE * BANK_SIZE);
            System.arraycopy(other.counts, 0, counts, 0, 2);
            tape.become(other.tape);
            keys.become(other.keys);
            even.become(other.even);
            odd.become(other.odd);
            cycle = other.cycle;
        }

        int position() {
            return (int) (cycle % FRAME);
        }

        int column() {
            return (int) (cycle % COLUMNS);
        }

        Frame present() {
            return cycle / FRAME % 2 == 0 ? even : odd;
        }

        Frame last() {
            return cycle / FRAME % 2 == 0 ? odd : even;
        }

        /** Reads as the processor, but without an effect on hits. */
        int read(int address) {
            int number = address - REGISTERS_START;
            if (number >= 0 && number < REGISTERS) {
                return readRegister(number, scene.registers[number]);
            }
            int banks = scene.registers[BANKS];
            if ((banks & 1) == 1 && address >= ROM_START && address < ROM_START + BANK_SIZE) {
                return rom[address - ROM_START];
            }
            if ((banks & 2) == 2 && address >= CARTRIDGE_START && address < CARTRIDGE_START + BANK_SIZE) {
                return cartridge[BANK_SIZE * (banks >> 2 & 3) + address - CARTRIDGE_START];
            }
            return scene.ram[address & LAST_ADDRESS];
        }

        int readRegister(int number, int kept) {
            switch (number) {
                case LINE: return (int) (cycle % FRAME) / COLUMNS;
                case LATCHES: return counts[0] & BYTE;
                case LATCHES + 1: return counts[0] >> 8;
                case LATCHES + 2: return counts[1] & BYTE;
                case LATCHES + 3: return counts[1] >> 8;
                case KEY_ROWS: return keys.seen[kept & Keys.ALL] + 16 * keys.stick;
                case MOTOR: return kept + 2 * tape.level + (tape.over < tape.count ? 4 : 0);
                default: return kept;
            }
        }

        /** The word whose low byte is at an address. */
        int readWord(int address) {
            int low = read(address & LAST_ADDRESS);
            return low + 256 * read(address + 1 & LAST_ADDRESS) & LAST_ADDRESS;
        }

        /** Reads as an instruction does that reads what its address tells. */
        int load(int address) {
            int value = read(address);
            if (address == REGISTERS_START + HITS_OF_SPRITES) {
                scene.registers[HITS_OF_SPRITES] = 0;
            } else if (address == REGISTERS_START + HITS_OF_SOLID) {
                scene.registers[HITS_OF_SOLID] = 0;
            }
            return value;
        }

        void write(int address, int value) {
            if (address == REGISTERS_START + FLAGS) {
                scene.registers[FLAGS] &= ~value;
            } else if (address == REGISTERS_START + TIMERS) {
                startTimers(value & ~scene.registers[TIMERS]);
            }
            scene.put(address, value);
            present().keep(address, value);
        }

        void startTimers(int started) {
            for (int n = 0; n < 2; n++) {
                if ((started >> n & 1) == 1) {
                    counts[n] = scene.registers[LATCHES + 2 * n] + 256 * scene.registers[LATCHES + 2 * n + 1];
                }
            }
        }

        void clearRegisters() {
            scene.clearRegisters();
            present().keep(ALL_REGISTERS, 0);
            Arrays.fill(counts, 0);
        }

        int exchange(int address, int value) {
            int before = read(address);
            write(address, value);
            return before;
        }

        int exchangeRom(int index, int value) {
            int at = index & BANK_SIZE - 1;
            int before = rom[at];
            rom[at] = value;
            return before;
        }

        int exchangeCartridge(int index, int value) {
            int at = index & BANKS_OF_CARTRIDGE * BANK_SIZE - 1;
            int before = cartridge[at];
            cartridge[at] = value;
            return before;
        }

        int writeInstruction(int address, int code, int operand) {
            int length = Codes.lengthOf(code);
            write(address, code);
            if (length > 1) {
                write(address + 1 & LAST_ADDRESS, operand & BYTE);
            }
            if (length > 2) {
                write(address + 2 & LAST_ADDRESS, operand >> 8);
            }
            return address + length & LAST_ADDRESS;
        }

        void meetLine() {
            if (column() == 0 && position() / COLUMNS == scene.registers[LINE]) {
                scene.registers[FLAGS] |= LINE_FLAG;
            }
        }

        boolean isPictureNext() {
            return scene.takesCycle(position() / COLUMNS - FIRST_LINE_WITH_ROW, column());
        }

        void draw(int[] pixels) {
            int row = position() / COLUMNS - FIRST_LINE_WITH_ROW;
            int column = column();
            if (row >= 0 && row < SIDE && column >= FIRST_COLUMN_WITH_PIXELS && column <= LAST_COLUMN_WITH_PIXELS) {
                int first = 2 * (column - FIRST_COLUMN_WITH_PIXELS);
                for (int x = first; x <= first + 1; x++) {
                    int value = scene.valueAt(x, row);
                    int sprites = scene.spritesAt(x, row);
                    scene.noteHits(value, sprites);
                    pixels[SIDE * row + x & PIXELS - 1] = scene.colourOf(value, sprites);
                }
            }
            present().time++;
        }

        void countTimers() {
            int timers = scene.registers[TIMERS];
            boolean hasRunOut = false;
            if ((timers & 1) == 1) {
                hasRunOut = countDown(0);
            }
            if ((timers & 2) == 2 && ((timers & 4) == 0 || hasRunOut)) {
                countDown(1);
            }
        }

        boolean countDown(int timer) {
            int n = timer & 1;
            if (counts[n] > 0) {
                counts[n]--;
                return false;
            }
            startTimers(1 << n);
            scene.registers[FLAGS] |= TIMER_FLAG << n;
            return true;
        }

        void moveTape() {
            if (scene.registers[MOTOR] == 1 && tape.isPulseOver()) {
                scene.registers[FLAGS] |= TAPE_FLAG;
            }
        }

        void endCycle() {
            cycle++;
            if (cycle % FRAME == 0) {
                present().begin(scene);
            }
        }

        int drawnAgain(int x, int row, Scene scratch) {
            int column = x / 2 + FIRST_COLUMN_WITH_PIXELS;
            int moment = COLUMNS * (row + FIRST_LINE_WITH_ROW) + column;
            Frame frame = moment < present().time ? present() : last();
            if (moment >= frame.time) {
                return 0;
            }
            frame.replay(moment, scratch);
            return scratch.colourOf(scratch.valueAt(x, row), scratch.spritesAt(x, row));
        }
    }

    private static final class Processor {
        static final int CARRY = 1;
        static final int ZERO = 2;
        static final int MASKED = 4;
        static final int DECIMAL = 8;
        static final int BREAK = 16;
        static final int ALWAYS = 32;
        static final int OVERFLOW = 64;
        static final int NEGATIVE = 128;
        static final int ALL_FLAGS = 207;

        static final int STACK = 256;
        static final int FREEZE_VECTOR = 3834;
        static final int RESET_VECTOR = 3836;
        static final int INTERRUPT_VECTOR = 3838;
        static final int CYCLES_OF_INTERRUPT = 7;

        int a;
        int x;
        int y;
        int s = BYTE;
        int p;
        int flags = MASKED;
        boolean isFreezing;
        boolean isJammed;
        /** The vector of the interrupt that is under way, 0 for an instruction. */
        int vector;
        int left;
        int done;
        int instructions;
        final int[] trace = new int[TRACED];

        void become(Processor other) {
            a = other.a;
            x = other.x;
            y = other.y;
            s = other.s;
            p = other.p;
            flags = other.flags;
            isFreezing = other.isFreezing;
            isJammed = other.isJammed;
            vector = other.vector;
            left = other.left;
            done = other.done;
            instructions = other.instructions;
            System.arraycopy(other.trace, 0, trace, 0, TRACED);
        }

        boolean isLike(Processor other) {
            return a == other.a && x == other.x && y == other.y && s == other.s && p == other.p
                    && flags == other.flags;
        }

        int registerOf(int number) {
            switch (number) {
                case 0: return a;
                case 1: return x;
                case 2: return y;
                case 3: return s;
                default: return p;
            }
        }

        int exchange(int number, int value) {
            int before = registerOf(number);
            switch (number) {
                case 0: a = value; break;
                case 1: x = value; break;
                case 2: y = value; break;
                case 3: s = value; break;
                default: p = value; break;
            }
            return before;
        }

        void startAnew(Board board) {
            a = 0;
            x = 0;
            y = 0;
            s = BYTE;
            flags = MASKED;
            isFreezing = false;
            isJammed = false;
            left = 0;
            p = board.readWord(RESET_VECTOR);
        }

        void begin(Board board) {
            boolean isAsked = (board.scene.registers[FLAGS] & board.scene.registers[MASK]) != 0;
            if (isJammed) {
                return;
            }
            if (isFreezing) {
                isFreezing = false;
                vector = FREEZE_VECTOR;
                left = CYCLES_OF_INTERRUPT;
            } else if (isAsked && (flags & MASKED) == 0) {
                vector = INTERRUPT_VECTOR;
                left = CYCLES_OF_INTERRUPT;
            } else {
                vector = 0;
                left = cyclesAt(board);
            }
        }

        int cyclesAt(Board board) {
            int code = board.read(p);
            int operation = Codes.operationOf(code);
            int mode = code & 7;
            if (Codes.isBranch(code)) {
                return cyclesOfBranch(code, board.read(behind(1)));
            }
            if (operation < 0) {
                return Codes.cyclesOf(code);
            }
            if (mode == 0) {
                return 2;
            }
            boolean isLonger = false;
            if (mode >= 4 && mode <= 6) {
                int base = baseOf(board, mode);
                int address = base + indexOf(mode) & LAST_ADDRESS;
                isLonger = Codes.isWriting(operation) || address / 256 != base / 256;
            }
            return Codes.cyclesOfMode(mode) + (isLonger ? 1 : 0) + (Codes.isChanging(operation) ? 2 : 0);
        }

        int cyclesOfBranch(int code, int distance) {
            if (!isTaken(code)) {
                return 2;
            }
            return targetOf(distance) / 256 == behind(2) / 256 ? 3 : 4;
        }

        int targetOf(int distance) {
            return Codes.targetOf(p, distance);
        }

        int behind(int count) {
            return p + count & LAST_ADDRESS;
        }

        /** Takes one cycle from what is under way, and answers whether it was the last one. */
        boolean isLastCycle() {
            if (left == 0) {
                return false;
            }
            left--;
            return left == 0;
        }

        void finish(Board board) {
            done++;
            if (vector != 0) {
                interrupt(board, p, flags | ALWAYS, vector);
                return;
            }
            trace[instructions & TRACED - 1] = p;
            instructions++;
            int code = board.read(p);
            int operation = Codes.operationOf(code);
            int mode = code & 7;
            int next = behind(Codes.lengthOf(code));
            if (code == Codes.BRK) {
                interrupt(board, next, flags | ALWAYS | BREAK, INTERRUPT_VECTOR);
                return;
            }
            if (operation < 0 && code < Codes.BRK) {
                doPlain(board, code);
            } else if (operation < 0) {
                next = jump(board, code, next);
            } else if (mode == 0) {
                calculate(operation, board.read(behind(1)));
            } else if (Codes.isWriting(operation)) {
                store(board, operation, addressOf(board, mode));
            } else {
                calculate(operation, board.load(addressOf(board, mode)));
            }
            p = next;
        }

        int indexOf(int mode) {
            if (mode == 4) {
                return x;
            }
            return mode == 5 || mode == 6 ? y : 0;
        }

        int addressOf(Board board, int mode) {
            return baseOf(board, mode) + indexOf(mode) & LAST_ADDRESS;
        }

        /** The address that the bytes behind a code tell in the modes 1 to 7, in 4 to 6 without X or Y. */
        int baseOf(Board board, int mode) {
            int near = board.read(behind(1));
            if (mode == 1) {
                return near;
            }
            if (mode == 2) {
                return near + x & BYTE;
            }
            if (mode < 6) {
                return near + 256 * board.read(behind(2)) & LAST_ADDRESS;
            }
            int at = mode == 7 ? near + x & BYTE : near;
            return board.read(at) + 256 * board.read(at + 1 & BYTE) & LAST_ADDRESS;
        }

        void push(Board board, int value) {
            board.write(STACK + s, value);
            s = s - 1 & BYTE;
        }

        int pull(Board board) {
            s = s + 1 & BYTE;
            return board.scene.byteAt(STACK + s);
        }

        void interrupt(Board board, int from, int status, int at) {
            push(board, from >> 8);
            push(board, from & BYTE);
            push(board, status);
            flags |= MASKED;
            p = board.readWord(at);
        }

        void setFlag(int flag, boolean isSet) {
            flags = isSet ? flags | flag : flags & ~flag;
        }

        /** Sets z and n, and hands the result on. */
        int judge(int result) {
            flags = flags & ~(ZERO | NEGATIVE) | (result == 0 ? ZERO : 0) | (result > 127 ? NEGATIVE : 0);
            return result;
        }

        void match(int one, int other) {
            setFlag(CARRY, one >= other);
            judge(one - other & BYTE);
        }

        /** Those that write come here in the mode 0 only, and do nothing. */
        void calculate(int operation, int value) {
            switch (operation) {
                case Codes.LDA: a = judge(value); break;
                case Codes.LDX: x = judge(value); break;
                case Codes.LDY: y = judge(value); break;
                case Codes.ADC: add(value); break;
                case Codes.SBC: subtract(value); break;
                case Codes.AND: a = judge(a & value); break;
                case Codes.ORA: a = judge(a | value); break;
                case Codes.EOR: a = judge(a ^ value); break;
                case Codes.CMP: match(a, value); break;
                case Codes.CPX: match(x, value); break;
                case Codes.CPY: match(y, value); break;
                case Codes.LAX:
                    x = judge(value);
                    a = value;
                    break;
                case Codes.BIT:
                    setFlag(ZERO, (a & value) == 0);
                    setFlag(NEGATIVE, (value & 128) != 0);
                    setFlag(OVERFLOW, (value & 64) != 0);
                    break;
                default: break;
            }
        }

        void store(Board board, int operation, int address) {
            switch (operation) {
                case Codes.STA: board.write(address, a); return;
                case Codes.STX: board.write(address, x); return;
                case Codes.STY: board.write(address, y); return;
                case Codes.SAX: board.write(address, a & x); return;
                default: break;
            }
            int change = operation == Codes.INC || operation == Codes.ISC ? 1 : -1;
            int value = board.load(address) + change & BYTE;
            board.write(address, value);
            if (operation == Codes.DCP) {
                match(a, value);
            } else if (operation == Codes.ISC) {
                subtract(value);
            } else {
                judge(value);
            }
        }

        void add(int value) {
            int carry = flags & CARRY;
            int low = a % 16 + value % 16 + carry;
            int high = a / 16 + value / 16;
            addBinary(value);
            if ((flags & DECIMAL) == 0) {
                return;
            }
            if (low > 9) {
                low -= 10;
                high++;
            }
            setFlag(CARRY, high > 9);
            if (high > 9) {
                high -= 10;
            }
            a = judge(16 * high + low & BYTE);
        }

        void subtract(int value) {
            int carry = flags & CARRY;
            int low = a % 16 - value % 16 - 1 + carry;
            int high = a / 16 - value / 16;
            addBinary(BYTE - value);
            if ((flags & DECIMAL) == 0) {
                return;
            }
            if (low < 0) {
                low += 10;
                high--;
            }
            setFlag(CARRY, high >= 0);
            if (high < 0) {
                high += 10;
            }
            a = judge(16 * high + low & BYTE);
        }

        /** v is that of the binary sum also when d is set. */
        void addBinary(int value) {
            int sum = a + value + (flags & CARRY);
            setFlag(OVERFLOW, ((a ^ sum) & (value ^ sum) & 128) != 0);
            setFlag(CARRY, sum > BYTE);
            a = judge(sum & BYTE);
        }

        /** Does a code of one byte behind which P just goes on. */
        void doPlain(Board board, int code) {
            if (code <= Codes.TXS) {
                move(code);
            } else if (code >= Codes.SEC && code <= Codes.CLV) {
                changeFlag(code);
            } else if (code >= Codes.ASL) {
                shift(code);
            } else if (code == Codes.PHA) {
                push(board, a);
            } else if (code == Codes.PLA) {
                a = judge(pull(board));
            } else if (code == Codes.PHP) {
                push(board, flags | ALWAYS | BREAK);
            } else if (code == Codes.PLP) {
                flags = pull(board) & ALL_FLAGS;
            }
        }

        /** Does a jump, a branch, or a code that jams, and answers what P becomes. */
        int jump(Board board, int code, int next) {
            switch (code) {
                case Codes.RTI:
                    flags = pull(board) & ALL_FLAGS;
                    return pullWord(board);
                case Codes.RTS: return pullWord(board) + 1 & LAST_ADDRESS;
                case Codes.JMP: return baseOf(board, 3);
                case Codes.JSR:
                    int target = baseOf(board, 3);
                    push(board, behind(2) >> 8);
                    push(board, behind(2) & BYTE);
                    return target;
                case Codes.JMI: return wordInPage(board, baseOf(board, 3));
                default: break;
            }
            if (Codes.isBranch(code)) {
                return isTaken(code) ? targetOf(board.read(behind(1))) : next;
            }
            isJammed = true;
            return p;
        }

        int wordInPage(Board board, int address) {
            int second = address / 256 * 256 + (address + 1 & BYTE);
            return board.read(address) + 256 * board.read(second) & LAST_ADDRESS;
        }

        int pullWord(Board board) {
            int low = pull(board);
            return low + 256 * pull(board) & LAST_ADDRESS;
        }

        boolean isTaken(int code) {
            switch (code) {
                case Codes.BNE: return (flags & ZERO) == 0;
                case Codes.BEQ: return (flags & ZERO) != 0;
                case Codes.BCC: return (flags & CARRY) == 0;
                case Codes.BCS: return (flags & CARRY) != 0;
                case Codes.BPL: return (flags & NEGATIVE) == 0;
                case Codes.BMI: return (flags & NEGATIVE) != 0;
                case Codes.BVC: return (flags & OVERFLOW) == 0;
                default: return (flags & OVERFLOW) != 0;
            }
        }

        void move(int code) {
            switch (code) {
                case Codes.INX: x = judge(x + 1 & BYTE); break;
                case Codes.DEX: x = judge(x - 1 & BYTE); break;
                case Codes.INY: y = judge(y + 1 & BYTE); break;
                case Codes.DEY: y = judge(y - 1 & BYTE); break;
                case Codes.TAX: x = judge(a); break;
                case Codes.TXA: a = judge(x); break;
                case Codes.TAY: y = judge(a); break;
                case Codes.TYA: a = judge(y); break;
                case Codes.TSX: x = judge(s); break;
                default: s = x; break;
            }
        }

        void changeFlag(int code) {
            switch (code) {
                case Codes.SEC: setFlag(CARRY, true); break;
                case Codes.CLC: setFlag(CARRY, false); break;
                case Codes.SED: setFlag(DECIMAL, true); break;
                case Codes.CLD: setFlag(DECIMAL, false); break;
                case Codes.SEI: setFlag(MASKED, true); break;
                case Codes.CLI: setFlag(MASKED, false); break;
                default: setFlag(OVERFLOW, false); break;
            }
        }

        void shift(int code) {
            int carry = flags & CARRY;
            switch (code) {
                case Codes.ASL:
                    setFlag(CARRY, a > 127);
                    a = judge(2 * a & BYTE);
                    break;
                case Codes.LSR:
                    setFlag(CARRY, a % 2 == 1);
                    a = judge(a / 2);
                    break;
                case Codes.ROL:
                    setFlag(CARRY, a > 127);
                    a = judge(2 * a + carry & BYTE);
                    break;
                default:
                    setFlag(CARRY, a % 2 == 1);
                    a = judge(a / 2 + 128 * carry);
                    break;
            }
        }
    }

    private static final class Voices {
        static final int COUNT = 3;
        static final int LOUDEST = 15;

        final int[] phases = new int[COUNT];
        final int[] levels = new int[COUNT];
        final int[] waits = new int[COUNT];
        final int[] noises = {1, 1, 1};
        final int[] samples = new int[LINES];

        void become(Voices other) {
            System.arraycopy(other.phases, 0, phases, 0, COUNT);
            System.arraycopy(other.levels, 0, levels, 0, COUNT);
            System.arraycopy(other.waits, 0, waits, 0, COUNT);
            System.arraycopy(other.noises, 0, noises, 0, COUNT);
            System.arraycopy(other.samples, 0, samples, 0, LINES);
        }

        boolean isLike(Voices other) {
            for (int i = 0; i < LINES; i++) {
                if (samples[i] != other.samples[i]) {
                    return false;
                }
            }
            return true;
        }

        void sound(int[] registers, int line) {
            if (registers.length < REGISTERS || line < 0 || line >= LINES) {
                return;
            }
            for (int v = 0; v < COUNT; v++) {
                int first = VOICES + 4 * v;
                turn(v, registers[first] + 256 * registers[first + 1]);
                swell(v, (registers[first + 2] & 1) == 1, registers[first + 3]);
            }
            int sum = 0;
            for (int v = 0; v < COUNT; v++) {
                sum += outputOf(v, registers[VOICES + 4 * v + 2]) * levels[v];
            }
            samples[line] = sum / 15;
        }

        void turn(int voice, int pitch) {
            if (voice < 0 || voice >= COUNT) {
                return;
            }
            int sum = phases[voice] + pitch;
            int noise = noises[voice];
            phases[voice] = sum % 65536;
            if (sum > 65535) {
                boolean isUnlike = (noise & 3) == 1 || (noise & 3) == 2;
                noises[voice] = noise / 2 + (isUnlike ? 16384 : 0);
            }
        }

        void swell(int voice, boolean isGateOn, int times) {
            if (voice < 0 || voice >= COUNT) {
                return;
            }
            waits[voice]++;
            if (waits[voice] <= (isGateOn ? times % 16 : times / 16)) {
                return;
            }
            waits[voice] = 0;
            if (isGateOn && levels[voice] < LOUDEST) {
                levels[voice]++;
            } else if (!isGateOn && levels[voice] > 0) {
                levels[voice]--;
            }
        }

        int outputOf(int voice, int control) {
            if (voice < 0 || voice >= COUNT) {
                return 0;
            }
            int output = waveOf(control >> 1 & 3, phases[voice], noises[voice]);
            int ahead = voice == 0 ? COUNT - 1 : voice - 1;
            boolean isRung = (control & 8) == 8 && phases[ahead] >= 32768;
            return isRung ? 15 - output : output;
        }

        static int waveOf(int wave, int phase, int noise) {
            switch (wave) {
                case 0: return phase / 4096;
                case 1: return phase >= 32768 ? 15 : 0;
                case 2: return noise % 16;
                default: return 0;
            }
        }
    }

    private static final class Tape {
        final int[] lengths = new int[MOST_PULSES];
        int count;
        int over;
        /** How much of the first pulse that is left has passed. */
        int elapsed;
        int level;

        void become(Tape other) {
            System.arraycopy(other.lengths, 0, lengths, 0, MOST_PULSES);
            count = other.count;
            over = other.over;
            elapsed = other.elapsed;
            level = other.level;
        }

        int add(int length) {
            if (count >= 0 && count < MOST_PULSES) {
                lengths[count] = length;
                count++;
            }
            return count;
        }

        int windBack() {
            int before = over;
            over = 0;
            elapsed = 0;
            return before;
        }

        /** Lets one cycle of the motor pass, and answers whether a pulse is over by it. */
        boolean isPulseOver() {
            if (over < 0 || over >= count || over >= MOST_PULSES) {
                return false;
            }
            elapsed++;
            if (elapsed < lengths[over]) {
                return false;
            }
            elapsed = 0;
            over++;
            level = 1 - level;
            return true;
        }
    }

    private static final class Keys {
        static final int ROWS = 4;
        static final int ALL = 15;

        final int[] pressed = new int[ROWS];
        /** The columns that are seen for each choice of rows. */
        final int[] seen = new int[ALL + 1];
        int stick;

        void become(Keys other) {
            System.arraycopy(other.pressed, 0, pressed, 0, ROWS);
            System.arraycopy(other.seen, 0, seen, 0, ALL + 1);
            stick = other.stick;
        }

        int exchangeJoystick(int bits) {
            int before = stick;
            stick = bits;
            return before;
        }

        int press(int row, int column, int down) {
            int at = row & ROWS - 1;
            int before = pressed[at] >> column & 1;
            pressed[at] = pressed[at] & ~(1 << column) | down << column;
            for (int rows = 0; rows <= ALL; rows++) {
                seen[rows] = columnsSeen(rows);
            }
            return before;
        }

        int columnsSeen(int rows) {
            int live = rows;
            int columns = 0;
            // Each turn that changes anything makes a row live, so that 4 turns find all.
            for (int turn = 0; turn < ROWS; turn++) {
                for (int row = 0; row < ROWS; row++) {
                    if ((live >> row & 1) == 1) {
                        columns |= pressed[row];
                    }
                }
                for (int row = 0; row < ROWS; row++) {
                    if ((pressed[row] & columns) != 0) {
                        live |= 1 << row;
                    }
                }
            }
            return columns;
        }
    }

    /** The calls of a record, and the machine as it was when they were played last. */
    private static final class Recording {
        final Machine machine = new Machine();
        final int[] kinds = new int[MOST_CALLS];
        final int[] firsts = new int[MOST_CALLS];
        final int[] seconds = new int[MOST_CALLS];
        final int[] thirds = new int[MOST_CALLS];
        int count;
        int played;
        boolean isOn;

        void begin(Machine now) {
            machine.become(now);
            count = 0;
            played = 0;
            isOn = true;
        }

        void keep(int kind, int first, int second, int third) {
            if (isOn && count >= 0 && count < MOST_CALLS) {
                kinds[count] = kind;
                firsts[count] = first;
                seconds[count] = second;
                thirds[count] = third;
                count++;
            }
        }
    }

    /** What is told by the number of a code alone. */
    private static final class Codes {
        // Operations
        static final int LDA = 0;
        static final int LDX = 1;
        static final int LDY = 2;
        static final int STA = 3;
        static final int STX = 4;
        static final int STY = 5;
        static final int ADC = 6;
        static final int SBC = 7;
        static final int AND = 8;
        static final int ORA = 9;
        static final int EOR = 10;
        static final int CMP = 11;
        static final int CPX = 12;
        static final int CPY = 13;
        static final int INC = 14;
        static final int DEC = 15;
        static final int LAX = 16;
        static final int SAX = 17;
        static final int DCP = 18;
        static final int ISC = 19;
        static final int BIT = 20;
        // Codes without a mode
        static final int INX = 128;
        static final int DEX = 129;
        static final int INY = 130;
        static final int DEY = 131;
        static final int TAX = 132;
        static final int TXA = 133;
        static final int TAY = 134;
        static final int TYA = 135;
        static final int TSX = 136;
        static final int TXS = 137;
        static final int PHA = 138;
        static final int PLA = 139;
        static final int PHP = 140;
        static final int PLP = 141;
        static final int SEC = 142;
        static final int CLC = 143;
        static final int SED = 144;
        static final int CLD = 145;
        static final int SEI = 146;
        static final int CLI = 147;
        static final int CLV = 148;
        static final int NOP = 149;
        static final int ASL = 150;
        static final int LSR = 151;
        static final int ROL = 152;
        static final int ROR = 153;
        static final int BRK = 154;
        static final int RTI = 155;
        static final int RTS = 156;
        static final int JMP = 157;
        static final int JSR = 158;
        static final int JMI = 159;
        static final int BNE = 160;
        static final int BEQ = 161;
        static final int BCC = 162;
        static final int BCS = 163;
        static final int BPL = 164;
        static final int BMI = 165;
        static final int BVC = 166;
        static final int BVS = 167;

        private static final int[] MODE_CYCLES = {2, 3, 4, 4, 4, 4, 5, 6};
        private static final int[] SPECIAL_CYCLES = {
            2, 2, 2, 2, 2, 2, 2, 2, 2, 2, 3, 4, 3, 4, 2, 2,
            2, 2, 2, 2, 2, 2, 2, 2, 2, 2, 7, 6, 6, 3, 6, 5};
        private static final String OPERATIONS = "ldaldxldystastxstyadcsbcandoraeorcmpcpxcpyincdeclaxsaxdcpiscbit";
        private static final String SPECIALS =
            "inxdexinydeytaxtxataytyatsxtxsphaplaphpplpsecclcsedcldseicliclvnopasllsrrolrorbrkrtirtsjmpjsrjmibnebeqbccbcsbplbmibvcbvs";

        /** -1 for a code without an operation and a mode. */
        static int operationOf(int code) {
            if (code < INX) {
                return code / 8;
            }
            return code >= 192 && code <= 231 ? code / 8 - 8 : -1;
        }

        static boolean isBranch(int code) {
            return code >= BNE && code <= BVS;
        }

        static boolean isWriting(int operation) {
            return operation >= STA && operation <= STY || operation == SAX || isChanging(operation);
        }

        static boolean isChanging(int operation) {
            return operation == INC || operation == DEC || operation == DCP || operation == ISC;
        }

        static int lengthOf(int code) {
            if (operationOf(code) >= 0) {
                int mode = code & 7;
                return mode >= 3 && mode <= 5 ? 3 : 2;
            }
            if (code < JMP || code > BVS) {
                return 1;
            }
            return code < BNE ? 3 : 2;
        }

        static int cyclesOfMode(int mode) {
            return MODE_CYCLES[mode & 7];
        }

        static int cyclesOf(int code) {
            int at = code - INX;
            return at >= 0 && at < SPECIAL_CYCLES.length ? SPECIAL_CYCLES[at] : 2;
        }

        static int targetOf(int address, int distance) {
            return address + 2 + (distance > 127 ? distance - 256 : distance) & LAST_ADDRESS;
        }

        static void appendName(StringBuilder line, int code) {
            int operation = operationOf(code);
            String names = operation >= 0 ? OPERATIONS : SPECIALS;
            int first = 3 * (operation >= 0 ? operation : code - INX);
            if (first < 0 || first + 2 >= names.length()) {
                line.append("jam");
                return;
            }
            for (int i = first; i <= first + 2; i++) {
                line.append(names.charAt(i));
            }
        }
    }

    private static final class Monitor {
        static void describe(StringBuilder line, Board board, int address) {
            int code = board.read(address);
            int length = Codes.lengthOf(code);
            int near = board.read(address + 1 & LAST_ADDRESS);
            line.setLength(0);
            line.append(address);
            line.append(' ');
            Codes.appendName(line, code);
            if (length == 1) {
                return;
            }
            if (Codes.isBranch(code)) {
                line.append(' ');
                line.append(Codes.targetOf(address, near));
                return;
            }
            int operand = length == 2 ? near : board.readWord(address + 1);
            appendOperand(line, layoutOf(code), operand);
        }

        /** The mode, or 3 for a jump to an address, or 8 for a jump to what is at one. */
        static int layoutOf(int code) {
            if (Codes.operationOf(code) >= 0) {
                return code & 7;
            }
            return code == Codes.JMI ? 8 : 3;
        }

        static void appendOperand(StringBuilder line, int layout, int operand) {
            line.append(' ');
            if (layout == 0) {
                line.append('#');
            } else if (layout >= 6) {
                line.append('(');
            }
            line.append(operand);
            switch (layout) {
                case 2:
                case 4: line.append(",x"); break;
                case 5: line.append(",y"); break;
                case 6: line.append("),y"); break;
                case 7: line.append(",x)"); break;
                case 8: line.append(')'); break;
                default: break;
            }
        }
    }
}
