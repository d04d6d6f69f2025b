/** Every sentence on the voices that names an edge, and the promises 26, 27 and 43. */
public final class VoiceEdgesTest {
    private static final Class<IndexOutOfBoundsException> INDEX = IndexOutOfBoundsException.class;

    private VoiceEdgesTest() {
    }

    public static void main(String[] args) {
        bytesOfThePitch();
        bitsOfTheControl();
        riseAndFall();
        atFirst();
        onceInALine();
        phaseModulo();
        beyond();
        noise();
        waitGreaterThanRise();
        waitGreaterThanFall();
        waitOfTheOtherGate();
        upTo();
        downTo();
        waveNone();
        waveOne();
        waveTwo();
        waveThree();
        ring();
        ringAhead();
        whenAllAreDone();
        roundedDown();
        largestSample();
        sampleOfALine();
        noSuchLine();
        noSuchVoice();
        mean();
        Due.end("VoiceEdgesTest");
    }

    private static void set(Rasterbox box, int voice, int pitch, int control, int times) {
        int first = Boxes.VOICES + 4 * voice;
        box.poke(first, pitch % 256);
        box.poke(first + 1, pitch / 256);
        box.poke(first + 2, control);
        box.poke(first + 3, times);
    }

    /** A machine at the beginning of the line 15, with a voice of the level 15, the phase 0 and the noise 1. */
    private static Rasterbox loud(int voice) {
        Rasterbox box = Boxes.jammed();
        set(box, voice, 0, 1, 0);
        Boxes.runTo(box, 360);
        return box;
    }

    /** What a loud voice gives at the end of the line 15; the sample is just this, for the level is 15. */
    private static int given(int voice, int pitch, int control) {
        Rasterbox box = loud(voice);
        set(box, voice, pitch, control, 0);
        box.run(24);
        return box.sample(15);
    }

    private static void bytesOfThePitch() {
        Due.by("the registers 32 + 4 * v and the next one are the low and the high byte of its pitch");
        for (int v = 0; v < 3; v++) {
            Due.is("255 and 15, voice " + v, given(v, 4095, 1), 0);
            Due.is("0 and 16, voice " + v, given(v, 4096, 1), 1);
            Due.is("255 and 255, voice " + v, given(v, 65535, 1), 15);
        }
    }

    private static void bitsOfTheControl() {
        Due.by("the next one tells by its bits: 0 the gate, 1 and 2 the wave, 3 the ring");
        Due.is("the gate is off, so that the level is 14", given(0, 61440, 0), 14);
        Due.is("the gate is on", given(0, 61440, 1), 15);
        Due.is("the bits 4 to 7 tell nothing", given(0, 61440, 241), 15);
        Due.is("the wave 1", given(0, 40000, 3), 15);
        Due.is("the wave 2", given(0, 40000, 5), 1);
        Due.is("the wave 3", given(0, 40000, 7), 0);
        Due.is("the ring, with the voice 2 silent", given(0, 40000, 9), 9);
    }

    private static void riseAndFall() {
        Due.by("the next one its rise, the lowest 4 bits, and its fall, the others");
        Rasterbox rise = Boxes.jammed();
        set(rise, 0, 0, 1, 240 + 2);
        Boxes.runTo(rise, 24 * 3 - 1);
        Due.is("rise 2, behind less than 3 lines", rise.level(0), 0);
        rise.run(1);
        Due.is("rise 2, behind 3 lines", rise.level(0), 1);
        Rasterbox fall = loud(0);
        set(fall, 0, 0, 0, 32 + 15);
        fall.run(71);
        Due.is("fall 2, behind less than 3 lines", fall.level(0), 15);
        fall.run(1);
        Due.is("fall 2, behind 3 lines", fall.level(0), 14);
    }

    private static void atFirst() {
        Due.by("A voice has a phase, a level and a wait, all 0 at first, and a noise, 1 at first.");
        for (int v = 0; v < 3; v++) {
            Due.is("the level of " + v, new Rasterbox().level(v), 0);
            Due.is("the phase of " + v, given(v, 4095, 1), 0);
            Due.is("the noise of " + v, given(v, 0, 5), 1);
            Rasterbox box = Boxes.jammed();
            set(box, v, 0, 1, 1);
            Boxes.runTo(box, 24);
            Due.is("the wait of " + v + " is 1 behind a line", box.level(v), 0);
            box.run(24);
            Due.is("the wait of " + v + " is 2 behind two lines", box.level(v), 1);
        }
    }

    private static void onceInALine() {
        Due.by("Once in a line, for each voice, by rising numbers: the phase becomes itself plus the pitch");
        Rasterbox box = loud(1);
        set(box, 1, 4096, 1, 0);
        for (int line = 15; line < 30; line++) {
            box.run(23);
            Due.is("not yet in the line " + line, box.sample(line), 0);
            box.run(1);
            Due.is("in the line " + line, box.sample(line), line - 14);
        }
    }

    private static void phaseModulo() {
        Due.by("the phase becomes itself plus the pitch, modulo 65536");
        Rasterbox box = loud(0);
        set(box, 0, 65535, 1, 0);
        box.run(24);
        Due.is("65535", box.sample(15), 15);
        set(box, 0, 1, 1, 0);
        box.run(24);
        Due.is("65535 and 1 are 0", box.sample(16), 0);
        set(box, 0, 65535, 1, 0);
        box.run(24);
        set(box, 0, 4097, 1, 0);
        box.run(24);
        Due.is("65535 and 4097 are 4096", box.sample(18), 1);
        set(box, 0, 4095, 1, 0);
        box.run(24);
        Due.is("4096 and 4095 are 8191", box.sample(19), 1);
        set(box, 0, 65535, 1, 0);
        box.run(24);
        Due.is("8191 and 65535 are 8190", box.sample(20), 1);
        set(box, 0, 57345, 1, 0);
        box.run(24);
        Due.is("8190 and 57345 are 65535", box.sample(21), 15);
    }

    private static void beyond() {
        Due.by("if it went beyond 65535 by this, the noise becomes itself divided by 2 and rounded down, plus 16384 if its lowest two bits were different");
        Rasterbox box = loud(0);
        set(box, 0, 65535, 5, 0);
        box.run(24);
        Due.is("65535 is not beyond", box.sample(15), 1);
        set(box, 0, 0, 5, 0);
        box.run(24);
        Due.is("nor is staying there", box.sample(16), 1);
        set(box, 0, 1, 5, 0);
        box.run(24);
        Due.is("65536 is", box.sample(17), 0);
    }

    /** With the pitch 65535, every line but the first goes beyond. */
    private static void noise() {
        Due.by("the noise becomes itself divided by 2 and rounded down, plus 16384 if its lowest two bits were different");
        int[] behind = {
            1, 16384, 8192, 4096, 2048, 1024, 512, 256, 128, 64, 32, 16, 8, 4, 2, 16385, 24576, 12288, 6144, 3072, 1536, 768,
            384, 192, 96, 48, 24, 12, 6, 16387, 8193, 20480, 10240, 5120, 2560, 1280, 640, 320, 160, 80, 40, 20, 10, 16389, 24578};
        for (int v = 0; v < 3; v++) {
            Rasterbox box = loud(v);
            set(box, v, 65535, 5, 0);
            for (int i = 0; i < behind.length; i++) {
                box.run(24);
                Due.is("voice " + v + " behind " + i, box.sample((15 + i) % 40), behind[i] % 16);
            }
        }
    }

    private static void waitGreaterThanRise() {
        Due.by("then the wait increases by 1, and if it is greater than the rise, with the gate on, or the fall, with the gate off, it becomes 0, and the level increases by 1");
        for (int rise : new int[] {0, 1, 14, 15}) {
            Rasterbox box = Boxes.jammed();
            set(box, 2, 0, 1, rise);
            for (int level = 1; level < 4; level++) {
                Boxes.runTo(box, 24 * (rise + 1) * level - 1);
                Due.is("ahead of it, rise " + rise, box.level(2), level - 1);
                box.run(1);
                Due.is("behind it, rise " + rise, box.level(2), level);
            }
            Due.is("no other voice", box.level(0) + box.level(1), 0);
        }
    }

    private static void waitGreaterThanFall() {
        Due.by("or the fall, with the gate off, it becomes 0, and the level increases by 1 up to 15, or decreases by 1 down to 0");
        for (int fall : new int[] {0, 1, 14, 15}) {
            Rasterbox box = loud(1);
            set(box, 1, 0, 0, 16 * fall);
            for (int level = 14; level > 11; level--) {
                Boxes.runTo(box, 360 + 24 * (fall + 1) * (15 - level) - 1);
                Due.is("ahead of it, fall " + fall, box.level(1), level + 1);
                box.run(1);
                Due.is("behind it, fall " + fall, box.level(1), level);
            }
        }
    }

    private static void waitOfTheOtherGate() {
        Due.by("then the wait increases by 1, and if it is greater than the rise, with the gate on, or the fall, with the gate off");
        Rasterbox box = loud(0);
        set(box, 0, 0, 1, 15 + 48);
        box.run(24 * 10);
        box.poke(Boxes.VOICES + 2, 0);
        box.run(24);
        Due.is("11 is greater than the fall of 3", box.level(0), 14);
        box.run(24 * 3);
        Due.is("then it is 3", box.level(0), 14);
        box.poke(Boxes.VOICES + 2, 1);
        box.run(24);
        Due.is("4 is not greater than the rise of 15", box.level(0), 14);
        box.run(24 * 12);
        Due.is("16 is", box.level(0), 15);
    }

    private static void upTo() {
        Due.by("the level increases by 1 up to 15");
        Rasterbox box = Boxes.jammed();
        set(box, 0, 0, 1, 0);
        for (int line = 1; line < 20; line++) {
            Boxes.runTo(box, 24 * line);
            Due.is("behind " + line, box.level(0), line < 15 ? line : 15);
        }
    }

    private static void downTo() {
        Due.by("or decreases by 1 down to 0");
        Rasterbox box = loud(0);
        box.poke(Boxes.VOICES + 2, 0);
        for (int line = 1; line < 20; line++) {
            box.run(24);
            Due.is("behind " + line, box.level(0), line < 15 ? 15 - line : 0);
        }
        Rasterbox first = Boxes.jammed();
        Boxes.runTo(first, 24);
        Due.is("from 0", first.level(0) + first.level(1) + first.level(2), 0);
    }

    private static void waveNone() {
        Due.by("by the wave 0 its phase divided by 4096");
        int[][] cases = {{0, 0}, {4095, 0}, {4096, 1}, {8191, 1}, {61439, 14}, {61440, 15}, {65535, 15}};
        for (int[] one : cases) {
            Due.is("phase " + one[0], given(0, one[0], 1), one[1]);
        }
    }

    private static void waveOne() {
        Due.by("1 15 if its phase is 32768 or more, otherwise 0");
        int[][] cases = {{0, 0}, {32767, 0}, {32768, 15}, {65535, 15}};
        for (int[] one : cases) {
            Due.is("phase " + one[0], given(1, one[0], 3), one[1]);
        }
    }

    private static void waveTwo() {
        Due.by("2 its noise modulo 16");
        Rasterbox box = loud(2);
        set(box, 2, 65535, 5, 0);
        box.run(24 * 16);
        Due.is("8", box.sample(15 + 12), 8);
        Due.is("16385", box.sample(15 + 15), 1);
        Due.is("16", box.sample(15 + 11), 0);
    }

    private static void waveThree() {
        Due.by("3 0");
        for (int v = 0; v < 3; v++) {
            Due.is("phase 65535, voice " + v, given(v, 65535, 7), 0);
        }
    }

    private static void ring() {
        Due.by("with the ring, 15 minus this, if the phase of the voice ahead of it (2 for the voice 0) is 32768 or more");
        int[][] cases = {{0, 1}, {32767, 1}, {32768, 14}, {65535, 14}};
        for (int[] one : cases) {
            Rasterbox box = loud(1);
            set(box, 0, one[0], 0, 0);
            set(box, 1, 4096, 9, 0);
            box.run(24);
            Due.is("phase of the voice 0 " + one[0], box.sample(15), one[1]);
            Rasterbox without = loud(1);
            set(without, 0, one[0], 0, 0);
            set(without, 1, 4096, 1, 0);
            without.run(24);
            Due.is("without the ring " + one[0], without.sample(15), 1);
        }
        int[] waves = {9, 11, 13, 15};
        int[] given = {14, 15, 14, 15};
        for (int i = 0; i < 4; i++) {
            Rasterbox box = loud(1);
            set(box, 0, 40000, 0, 0);
            set(box, 1, 4096, waves[i], 0);
            box.run(24);
            Due.is("15 minus the wave " + i, box.sample(15), given[i]);
        }
    }

    private static void ringAhead() {
        Due.by("if the phase of the voice ahead of it (2 for the voice 0) is 32768 or more");
        for (int voice = 0; voice < 3; voice++) {
            for (int other = 0; other < 3; other++) {
                if (other == voice) {
                    continue;
                }
                Rasterbox box = loud(voice);
                set(box, other, 32768, 0, 0);
                set(box, voice, 0, 9, 0);
                box.run(24);
                boolean isAhead = other == (voice + 2) % 3;
                Due.is("voice " + voice + " by " + other, box.sample(15), isAhead ? 15 : 0);
            }
            Due.is("voice " + voice + " by itself", given(voice, 32768, 9), 8);
        }
    }

    private static void whenAllAreDone() {
        Due.by("When all are done, a voice gives");
        Rasterbox box = loud(0);
        set(box, 0, 0, 9, 0);
        set(box, 2, 32768, 0, 0);
        box.run(24);
        Due.is("the phase of the voice 2 in the same line", box.sample(15), 15);
        box.run(24);
        Due.is("and in the next one", box.sample(16), 0);
    }

    private static void roundedDown() {
        Due.by("this sum is divided by 15 and rounded down");
        int[][] cases = {{14, 0, 0, 0}, {15, 0, 0, 1}, {7, 7, 0, 0}, {7, 7, 1, 1}, {15, 14, 0, 1}, {15, 15, 0, 2}, {15, 15, 14, 2},
            {15, 15, 15, 3}, {0, 0, 0, 0}, {10, 10, 10, 2}};
        for (int[] one : cases) {
            Rasterbox box = Boxes.jammed();
            for (int v = 0; v < 3; v++) {
                set(box, v, 4096 * one[v], 1, 0);
            }
            box.run(22);
            Due.is(one[0] + " and " + one[1] + " and " + one[2] + ", with the level 1", box.sample(0), one[3]);
        }
    }

    private static void largestSample() {
        Due.by("The sample of the line is the sum, over all voices, of what each gives times its level");
        Rasterbox box = Boxes.jammed();
        for (int v = 0; v < 3; v++) {
            set(box, v, 0, 1, 0);
        }
        Boxes.runTo(box, 360);
        for (int v = 0; v < 3; v++) {
            set(box, v, 65535, 1, 0);
        }
        box.run(24);
        Due.is("three times 15 times 15", box.sample(15), 45);
        Rasterbox levels = Boxes.jammed();
        set(levels, 0, 61440, 1, 0);
        set(levels, 1, 61440, 1, 1);
        set(levels, 2, 61440, 1, 3);
        Boxes.runTo(levels, 96);
        // The phases are 61440, 57344, 53248 and 49152; the levels 4, 2 and 1.
        Due.is("12 times 7", levels.sample(3), 84 / 15);
    }

    private static void sampleOfALine() {
        Due.by("Returns the sample, 0 if none was made.");
        Rasterbox box = loud(0);
        set(box, 0, 0, 9, 0);
        set(box, 2, 32768, 0, 0);
        Due.is("none was made", box.sample(39), 0);
        Boxes.runTo(box, 959);
        Due.is("not in the last line", box.sample(39), 0);
        box.run(1);
        Due.is("in the last line", box.sample(39), 15);
        box.run(24);
        Due.is("the line 0 of the next frame", box.sample(0), 0);
        set(box, 2, 0, 0, 0);
        Boxes.runTo(box, 960 + 24 * 39 + 23);
        Due.is("as it was made last", box.sample(39), 15);
        box.run(1);
        Due.is("made again", box.sample(39), 0);
    }

    private static void noSuchLine() {
        Due.by("Throws `IndexOutOfBoundsException` if there is no such line");
        Rasterbox box = new Rasterbox();
        Due.is("0", box.sample(0), 0);
        Due.is("39", box.sample(39), 0);
        for (int none : new int[] {-1, 40, Integer.MIN_VALUE, Integer.MAX_VALUE}) {
            Due.fails("line " + none, INDEX, () -> box.sample(none));
        }
    }

    private static void noSuchVoice() {
        Due.by("Throws `IndexOutOfBoundsException` if there is no such voice");
        Rasterbox box = loud(2);
        Due.is("0", box.level(0), 0);
        Due.is("2", box.level(2), 15);
        for (int none : new int[] {-1, 3, Integer.MIN_VALUE, Integer.MAX_VALUE}) {
            Due.fails("voice " + none, INDEX, () -> box.level(none));
        }
    }

    private static void mean() {
        Due.by("Returns their sum divided by 40, both converted to double.");
        Due.exactly("at first", new Rasterbox().meanSample(), 0);
        Rasterbox one = Boxes.jammed();
        set(one, 0, 61440, 1, 0);
        one.run(22);
        Due.exactly("one of 1", one.meanSample(), 0.025);
        Rasterbox all = Boxes.jammed();
        for (int v = 0; v < 3; v++) {
            set(all, v, 0, 1, 0);
        }
        Boxes.runTo(all, 960);
        for (int v = 0; v < 3; v++) {
            set(all, v, 65535, 1, 0);
        }
        all.run(24);
        for (int v = 0; v < 3; v++) {
            set(all, v, 0, 1, 0);
        }
        all.run(936);
        Due.exactly("all of 45", all.meanSample(), 45);
        all.poke(Boxes.VOICES + 2, 7);
        all.run(24);
        Due.exactly("39 of 45 and one of 30", all.meanSample(), (39.0 * 45 + 30) / 40);
    }
}
