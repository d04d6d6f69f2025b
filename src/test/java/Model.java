import java.util.ArrayList;
import java.util.Arrays;
import java.util.HashSet;
import java.util.List;
import java.util.Set;

/**
 * The machine of the document a second time, written from its words as plainly as they go and apart from
 * Rasterbox, for RandomRunsTest: it holds every state by its own name and takes no care of speed.
 */
final class Model implements Cloneable {
    private static final List<String> OPERATIONS = List.of("lda", "ldx", "ldy", "sta", "stx", "sty", "adc", "sbc",
            "and", "ora", "eor", "cmp", "cpx", "cpy", "inc", "dec", "lax", "sax", "dcp", "isc", "bit");
    private static final List<String> SPECIALS = List.of("inx", "dex", "iny", "dey", "tax", "txa", "tay", "tya",
            "tsx", "txs", "pha", "pla", "php", "plp", "sec", "clc", "sed", "cld", "sei", "cli", "clv", "nop",
            "asl", "lsr", "rol", "ror", "brk", "rti", "rts", "jmp", "jsr", "jmi", "bne", "beq", "bcc", "bcs",
            "bpl", "bmi", "bvc", "bvs");
    private static final Set<String> WRITING = Set.of("sta", "stx", "sty", "inc", "dec", "sax", "dcp", "isc");
    private static final Set<String> CHANGING = Set.of("inc", "dec", "dcp", "isc");

    int[] ram = new int[4096];
    int[] rom = new int[512];
    int[][] cartridge = new int[4][512];
    int[] registers = new int[48];
    int[] latches = new int[4];
    int[] counts = new int[2];
    int flags;
    int hitsOfSprites;
    int hitsOfSolid;
    int lineToMeet;

    int a;
    int x;
    int y;
    int s = 255;
    int p;
    boolean n;
    boolean v;
    boolean d;
    boolean i = true;
    boolean z;
    boolean c;
    boolean isFreezing;
    boolean isJammed;
    int left;
    int vector;
    int done;
    List<Integer> trace = new ArrayList<>();

    long cycle;
    long pictures;
    int[][] pixels = new int[32][32];
    int[] samples = new int[40];
    int[] phases = new int[3];
    int[] levels = new int[3];
    int[] waits = new int[3];
    int[] noises = {1, 1, 1};
    Set<Integer> keys = new HashSet<>();
    int joystick;
    List<Integer> pulses = new ArrayList<>();
    int over;
    int timeLeft;
    int level;

    Model copy() {
        Model copy;
        try {
            copy = (Model) clone();
        } catch (CloneNotSupportedException e) {
            throw new IllegalStateException(e);
        }
        copy.ram = ram.clone();
        copy.rom = rom.clone();
        copy.registers = registers.clone();
        copy.latches = latches.clone();
        copy.counts = counts.clone();
        copy.samples = samples.clone();
        copy.phases = phases.clone();
        copy.levels = levels.clone();
        copy.waits = waits.clone();
        copy.noises = noises.clone();
        copy.cartridge = rows(cartridge);
        copy.pixels = rows(pixels);
        copy.trace = new ArrayList<>(trace);
        copy.keys = new HashSet<>(keys);
        copy.pulses = new ArrayList<>(pulses);
        return copy;
    }

    private static int[][] rows(int[][] from) {
        int[][] copy = new int[from.length][];
        for (int row = 0; row < from.length; row++) {
            copy[row] = from[row].clone();
        }
        return copy;
    }

    // Memory

    int columns(int rows) {
        Set<String> live = new HashSet<>();
        for (int row = 0; row < 4; row++) {
            if ((rows >> row & 1) == 1) {
                live.add("row " + row);
            }
        }
        int before = -1;
        while (before != live.size()) {
            before = live.size();
            for (int key : keys) {
                if (live.contains("row " + key / 4) || live.contains("column " + key % 4)) {
                    live.add("row " + key / 4);
                    live.add("column " + key % 4);
                }
            }
        }
        int seen = 0;
        for (int column = 0; column < 4; column++) {
            seen += live.contains("column " + column) ? 1 << column : 0;
        }
        return seen;
    }

    int peek(int at) {
        int address = at % 4096;
        if (address >= 3840 && address <= 3887) {
            int number = address - 3840;
            switch (number) {
                case 9: return (int) (cycle / 24 % 40);
                case 10: return flags;
                case 12: return counts[0] % 256;
                case 13: return counts[0] / 256;
                case 14: return counts[1] % 256;
                case 15: return counts[1] / 256;
                case 29: return hitsOfSprites;
                case 30: return hitsOfSolid;
                case 31: return columns(registers[31]) + 16 * joystick;
                case 44: return registers[44] + 2 * level + (over < pulses.size() ? 4 : 0);
                case 45: case 46: case 47: return 0;
                default: return registers[number];
            }
        }
        int banks = registers[0];
        if (banks % 2 == 1 && address >= 3072 && address <= 3583) {
            return rom[address - 3072];
        }
        if (banks / 2 % 2 == 1 && address >= 2048 && address <= 2559) {
            return cartridge[banks / 4][address - 2048];
        }
        return ram[address];
    }

    private static int bitsOf(int number) {
        if (number == 1) {
            return 2;
        }
        if (number == 2) {
            return 5;
        }
        if (number >= 20 && number <= 27) {
            return 6;
        }
        if (number >= 32 && number <= 43) {
            return 8;
        }
        if (number == 16) {
            return 3;
        }
        return number == 44 ? 1 : 4;
    }

    private int latchOf(int timer) {
        return latches[2 * timer] + 256 * latches[2 * timer + 1];
    }

    void poke(int at, int value) {
        int address = at % 4096;
        int number = address - 3840;
        if (number < 0 || number > 47) {
            ram[address] = value;
        } else if (number == 9) {
            lineToMeet = value;
        } else if (number == 10) {
            flags &= 255 - value;
        } else if (number >= 12 && number <= 15) {
            latches[number - 12] = value;
        } else if (number != 29 && number != 30 && number < 45) {
            int before = registers[number];
            registers[number] = value % (1 << bitsOf(number));
            for (int timer = 0; number == 16 && timer < 2; timer++) {
                if ((before >> timer) % 2 == 0 && (value >> timer) % 2 == 1) {
                    counts[timer] = latchOf(timer);
                }
            }
        }
    }

    private int load(int address) {
        int value = peek(address);
        if (address == 3869) {
            hitsOfSprites = 0;
        }
        if (address == 3870) {
            hitsOfSolid = 0;
        }
        return value;
    }

    int word(int address) {
        return (peek(address) + 256 * peek(address + 1)) % 4096;
    }

    // Picture

    private boolean isOn(int sprite) {
        return (registers[17] >> sprite) % 2 == 1;
    }

    private boolean isDoubled(int sprite) {
        return (registers[18] >> sprite) % 2 == 1;
    }

    boolean isOfPicture() {
        int line = (int) (cycle / 24 % 40);
        int column = (int) (cycle % 24);
        int row = line - 4;
        if (line < 4 || line > 35) {
            return false;
        }
        if (registers[1] == 0 && column <= 7 && (row + registers[2] / 4) % 8 == 0) {
            return true;
        }
        if ((registers[1] == 1 || registers[1] == 2) && column <= 3) {
            return true;
        }
        if (column < 20 || !isOn(column - 20)) {
            return false;
        }
        int first = registers[24 + column - 20];
        return row >= first && row < first + (isDoubled(column - 20) ? 16 : 8);
    }

    private int byteAt(int address) {
        return ram[address % 4096];
    }

    private int valueAt(int atX, int row) {
        int u = (atX + registers[2] % 4) % 32;
        int w = (row + registers[2] / 4) % 32;
        int screen = 256 * registers[7];
        switch (registers[1]) {
            case 0: return byteAt(256 * registers[8] + 8 * byteAt(screen + 8 * (w / 8) + u / 4) + w % 8)
                    >> 3 - u % 4 & 1;
            case 1: return byteAt(screen + 4 * w + u / 8) >> 7 - u % 8 & 1;
            case 2: return byteAt(screen + 4 * w + u / 8) >> 6 - 2 * (u % 8 / 2) & 3;
            default: return 0;
        }
    }

    private boolean covers(int sprite, int atX, int row) {
        int across = atX - registers[20 + sprite];
        int down = row - registers[24 + sprite];
        if (isDoubled(sprite)) {
            across = Math.floorDiv(across, 2);
            down = Math.floorDiv(down, 2);
        }
        if (!isOn(sprite) || across < 0 || across > 7 || down < 0 || down > 7) {
            return false;
        }
        return (byteAt(256 * registers[7] + 128 + 8 * sprite + down) >> 7 - across) % 2 == 1;
    }

    private void draw(int atX, int row) {
        int value = valueAt(atX, row);
        boolean isSolid = registers[1] == 2 ? value == 2 || value == 3 : value == 1;
        int colour = registers[3 + value];
        int covering = 0;
        for (int sprite = 3; sprite >= 0; sprite--) {
            if (covers(sprite, atX, row)) {
                covering += 1 << sprite;
                boolean isBehind = (registers[19] >> sprite) % 2 == 1;
                colour = isBehind && isSolid ? registers[3 + value] : (registers[28] + sprite) % 16;
            }
        }
        if (Integer.bitCount(covering) >= 2) {
            hitsOfSprites |= covering;
        }
        if (isSolid) {
            hitsOfSolid |= covering;
        }
        pixels[row][atX] = colour;
    }

    // Cycles

    /** Answers whether the cycle was of the picture. */
    boolean pass() {
        int line = (int) (cycle / 24 % 40);
        int column = (int) (cycle % 24);
        if (column == 0 && line == lineToMeet) {
            flags |= 1;
        }
        boolean isOfPicture = isOfPicture();
        if (line >= 4 && line <= 35 && column >= 4 && column <= 19) {
            draw(2 * column - 8, line - 4);
            draw(2 * column - 7, line - 4);
        }
        boolean hasRunOut = registers[16] % 2 == 1 && count(0);
        if (registers[16] / 2 % 2 == 1 && (registers[16] < 4 || hasRunOut)) {
            count(1);
        }
        moveTape();
        if (column == 23) {
            sound(line);
        }
        if (isOfPicture) {
            pictures++;
        } else {
            goOn();
        }
        cycle++;
        return isOfPicture;
    }

    private boolean count(int timer) {
        if (counts[timer] == 0) {
            counts[timer] = latchOf(timer);
            flags |= timer == 0 ? 2 : 4;
            return true;
        }
        counts[timer]--;
        return false;
    }

    private void moveTape() {
        if (registers[44] == 0 || over == pulses.size()) {
            return;
        }
        timeLeft--;
        if (timeLeft == 0) {
            over++;
            level = 1 - level;
            flags |= 8;
            timeLeft = over < pulses.size() ? pulses.get(over) : 0;
        }
    }

    private void sound(int line) {
        for (int voice = 0; voice < 3; voice++) {
            int first = 32 + 4 * voice;
            phases[voice] += registers[first] + 256 * registers[first + 1];
            if (phases[voice] > 65535) {
                phases[voice] -= 65536;
                boolean isUnlike = noises[voice] % 2 != noises[voice] / 2 % 2;
                noises[voice] = noises[voice] / 2 + (isUnlike ? 16384 : 0);
            }
            boolean isGateOn = registers[first + 2] % 2 == 1;
            waits[voice]++;
            if (waits[voice] > (isGateOn ? registers[first + 3] % 16 : registers[first + 3] / 16)) {
                waits[voice] = 0;
                levels[voice] = isGateOn ? Math.min(15, levels[voice] + 1) : Math.max(0, levels[voice] - 1);
            }
        }
        int sum = 0;
        for (int voice = 0; voice < 3; voice++) {
            int control = registers[34 + 4 * voice];
            int[] waves = {phases[voice] / 4096, phases[voice] >= 32768 ? 15 : 0, noises[voice] % 16, 0};
            int given = waves[control / 2 % 4];
            if (control / 8 % 2 == 1 && phases[(voice + 2) % 3] >= 32768) {
                given = 15 - given;
            }
            sum += given * levels[voice];
        }
        samples[line] = sum / 15;
    }

    // Processor

    int status(boolean isWith16) {
        return (c ? 1 : 0) + (z ? 2 : 0) + (i ? 4 : 0) + (d ? 8 : 0) + (isWith16 ? 16 : 0) + 32
                + (v ? 64 : 0) + (n ? 128 : 0);
    }

    private void setStatus(int status) {
        c = status % 2 == 1;
        z = status / 2 % 2 == 1;
        i = status / 4 % 2 == 1;
        d = status / 8 % 2 == 1;
        v = status / 64 % 2 == 1;
        n = status / 128 % 2 == 1;
    }

    private void push(int value) {
        ram[256 + s] = value;
        s = (s + 255) % 256;
    }

    private int pull() {
        s = (s + 1) % 256;
        return ram[256 + s];
    }

    static String nameOf(int code) {
        if (code < 128) {
            return OPERATIONS.get(code / 8);
        }
        if (code >= 192 && code <= 231) {
            return OPERATIONS.get(16 + (code - 192) / 8);
        }
        return code <= 167 ? SPECIALS.get(code - 128) : "jam";
    }

    static boolean hasMode(int code) {
        return code < 128 || code >= 192 && code <= 231;
    }

    static int lengthOf(int code) {
        if (hasMode(code)) {
            return code % 8 == 3 || code % 8 == 4 || code % 8 == 5 ? 3 : 2;
        }
        if (code >= 160 && code <= 167) {
            return 2;
        }
        return code >= 157 && code <= 159 ? 3 : 1;
    }

    /** The address of a mode, without X or Y in the modes 4 to 6. */
    private int baseOf(int mode) {
        int near = peek(p + 1);
        switch (mode) {
            case 1: return near;
            case 2: return (near + x) % 256;
            case 6: return (peek(near) + 256 * peek((near + 1) % 256)) % 4096;
            case 7: return (peek((near + x) % 256) + 256 * peek((near + x + 1) % 256)) % 4096;
            default: return word(p + 1);
        }
    }

    private int addressOf(int mode) {
        int index = mode == 4 ? x : mode == 5 || mode == 6 ? y : 0;
        return (baseOf(mode) + index) % 4096;
    }

    private int targetOf() {
        int distance = peek(p + 1);
        return (p + 2 + distance - (distance > 127 ? 256 : 0) + 4096) % 4096;
    }

    private boolean isTaken(String name) {
        switch (name) {
            case "bne": return !z;
            case "beq": return z;
            case "bcc": return !c;
            case "bcs": return c;
            case "bpl": return !n;
            case "bmi": return n;
            case "bvc": return !v;
            default: return v;
        }
    }

    private int cycles() {
        int code = peek(p);
        String name = nameOf(code);
        if (hasMode(code)) {
            int mode = code % 8;
            if (mode == 0) {
                return 2;
            }
            int cycles = new int[] {2, 3, 4, 4, 4, 4, 5, 6}[mode];
            boolean isOther = addressOf(mode) / 256 != baseOf(mode) / 256;
            if (mode >= 4 && mode <= 6 && (isOther || WRITING.contains(name))) {
                cycles++;
            }
            return cycles + (CHANGING.contains(name) ? 2 : 0);
        }
        if (code >= 160 && code <= 167) {
            if (!isTaken(name)) {
                return 2;
            }
            return targetOf() / 256 == (p + 2) % 4096 / 256 ? 3 : 4;
        }
        switch (name) {
            case "pha": case "php": case "jmp": return 3;
            case "pla": case "plp": return 4;
            case "jmi": return 5;
            case "rti": case "rts": case "jsr": return 6;
            case "brk": return 7;
            default: return 2;
        }
    }

    private void goOn() {
        if (isJammed) {
            return;
        }
        if (left == 0) {
            vector = 0;
            if (isFreezing) {
                isFreezing = false;
                vector = 3834;
            } else if ((flags & registers[11]) > 0 && !i) {
                vector = 3838;
            }
            left = vector > 0 ? 7 : cycles();
        }
        left--;
        if (left > 0) {
            return;
        }
        done++;
        if (vector > 0) {
            interrupt(p, false, vector);
        } else {
            trace.add(0, p);
            execute(peek(p));
        }
    }

    private void interrupt(int from, boolean isWith16, int at) {
        push(from / 256);
        push(from % 256);
        push(status(isWith16));
        i = true;
        p = word(at);
    }

    private int judge(int result) {
        z = result == 0;
        n = result >= 128;
        return result;
    }

    private void execute(int code) {
        String name = nameOf(code);
        int next = (p + lengthOf(code)) % 4096;
        if (!hasMode(code)) {
            special(name, next);
            return;
        }
        int mode = code % 8;
        if (mode == 0) {
            if (!WRITING.contains(name)) {
                take(name, peek(p + 1));
            }
        } else if (CHANGING.contains(name)) {
            int address = addressOf(mode);
            boolean isMore = name.equals("inc") || name.equals("isc");
            int value = (load(address) + (isMore ? 1 : 255)) % 256;
            poke(address, value);
            take(name, value);
        } else if (WRITING.contains(name)) {
            int address = addressOf(mode);
            poke(address, name.equals("sta") ? a : name.equals("stx") ? x : name.equals("sty") ? y : a & x);
        } else {
            take(name, load(addressOf(mode)));
        }
        p = next;
    }

    private void take(String name, int m) {
        switch (name) {
            case "lda": a = judge(m); break;
            case "ldx": x = judge(m); break;
            case "ldy": y = judge(m); break;
            case "lax": x = a = judge(m); break;
            case "and": a = judge(a & m); break;
            case "ora": a = judge(a | m); break;
            case "eor": a = judge(a ^ m); break;
            case "inc": case "dec": judge(m); break;
            case "cmp": case "dcp": match(a, m); break;
            case "cpx": match(x, m); break;
            case "cpy": match(y, m); break;
            case "adc": add(m); break;
            case "sbc": case "isc": subtract(m); break;
            default:
                z = (a & m) == 0;
                n = m >= 128;
                v = m / 64 % 2 == 1;
                break;
        }
    }

    private void match(int one, int m) {
        c = one >= m;
        judge((one - m + 256) % 256);
    }

    /** Sets v as the binary sum does, and answers this sum. */
    private int binary(int m) {
        int sum = a + m + (c ? 1 : 0);
        v = a / 128 == m / 128 && sum % 256 / 128 != a / 128;
        return sum;
    }

    private void add(int m) {
        int carry = c ? 1 : 0;
        int sum = binary(m);
        c = sum > 255;
        if (d) {
            int low = a % 16 + m % 16 + carry;
            int high = a / 16 + m / 16;
            if (low > 9) {
                low -= 10;
                high++;
            }
            c = high > 9;
            high -= c ? 10 : 0;
            sum = 16 * high + low;
        }
        a = judge(sum % 256);
    }

    private void subtract(int m) {
        int carry = c ? 1 : 0;
        int sum = binary(255 - m);
        c = sum > 255;
        if (d) {
            int low = a % 16 - m % 16 - 1 + carry;
            int high = a / 16 - m / 16;
            if (low < 0) {
                low += 10;
                high--;
            }
            c = high >= 0;
            high += c ? 0 : 10;
            sum = 16 * high + low;
        }
        a = judge(Math.floorMod(sum, 256));
    }

    private void special(String name, int next) {
        int from = p;
        p = next;
        switch (name) {
            case "inx": x = judge((x + 1) % 256); break;
            case "dex": x = judge((x + 255) % 256); break;
            case "iny": y = judge((y + 1) % 256); break;
            case "dey": y = judge((y + 255) % 256); break;
            case "tax": x = judge(a); break;
            case "txa": a = judge(x); break;
            case "tay": y = judge(a); break;
            case "tya": a = judge(y); break;
            case "tsx": x = judge(s); break;
            case "txs": s = x; break;
            case "pha": push(a); break;
            case "pla": a = judge(pull()); break;
            case "php": push(status(true)); break;
            case "plp": setStatus(pull()); break;
            case "sec": c = true; break;
            case "clc": c = false; break;
            case "sed": d = true; break;
            case "cld": d = false; break;
            case "sei": i = true; break;
            case "cli": i = false; break;
            case "clv": v = false; break;
            case "nop": break;
            case "asl": case "lsr": case "rol": case "ror": shift(name); break;
            case "brk": interrupt((from + 1) % 4096, true, 3838); break;
            case "rti": setStatus(pull()); p = pulled(); break;
            case "rts": p = (pulled() + 1) % 4096; break;
            case "jam": isJammed = true; p = from; break;
            default: p = from; leap(name, next); break;
        }
    }

    private int pulled() {
        int low = pull();
        return (low + 256 * pull()) % 4096;
    }

    private void shift(String name) {
        int carry = c ? 1 : 0;
        boolean isLeft = name.equals("asl") || name.equals("rol");
        c = isLeft ? a >= 128 : a % 2 == 1;
        int brought = name.startsWith("ro") ? carry : 0;
        a = judge(isLeft ? (2 * a + brought) % 256 : a / 2 + 128 * brought);
    }

    private void leap(String name, int next) {
        int address = word(p + 1);
        switch (name) {
            case "jmp": p = address; break;
            case "jsr":
                push((p + 2) % 4096 / 256);
                push((p + 2) % 256);
                p = address;
                break;
            case "jmi":
                int second = address % 256 == 255 ? address - 255 : address + 1;
                p = (peek(address) + 256 * peek(second)) % 4096;
                break;
            default: p = isTaken(name) ? targetOf() : next; break;
        }
    }

    void reset() {
        a = x = y = 0;
        n = v = d = z = c = false;
        i = true;
        s = 255;
        Arrays.fill(registers, 0);
        Arrays.fill(latches, 0);
        Arrays.fill(counts, 0);
        flags = hitsOfSprites = hitsOfSolid = lineToMeet = 0;
        isFreezing = isJammed = false;
        left = 0;
        p = word(3836);
    }

    // Monitor

    String lineOf(int address) {
        int code = peek(address);
        int near = peek(address + 1);
        int far = word(address + 1);
        String text = address + " " + nameOf(code);
        if (hasMode(code)) {
            String[] operands = {" #" + near, " " + near, " " + near + ",x", " " + far, " " + far + ",x",
                " " + far + ",y", " (" + near + "),y", " (" + near + ",x)"};
            return text + operands[code % 8];
        }
        if (code >= 160 && code <= 167) {
            return text + " " + Math.floorMod(address + 2 + (near > 127 ? near - 256 : near), 4096);
        }
        if (code == 159) {
            return text + " (" + far + ")";
        }
        return code == 157 || code == 158 ? text + " " + far : text;
    }
}
