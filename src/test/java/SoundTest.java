/** Promises 26, 27 and 43: the samples, the levels of the voices, and the mean. */
public final class SoundTest {
    private SoundTest() {
    }

    public static void main(String[] args) {
        silence();
        sawtooth();
        square();
        noise();
        edges();
        noWave();
        ring();
        ringOfTheFirst();
        riseAndFall();
        threeVoices();
        once();
        mean();
        Due.end("SoundTest");
    }

    private static Rasterbox jammed() {
        Rasterbox box = new Rasterbox();
        box.poke(4000, 255);
        box.setRegister(4, 4000);
        box.step();
        return box;
    }

    private static void voice(Rasterbox box, int voice, int pitch, int control, int times) {
        int first = 3872 + 4 * voice;
        box.poke(first, pitch % 256);
        box.poke(first + 1, pitch / 256);
        box.poke(first + 2, control);
        box.poke(first + 3, times);
    }

    private static int grown(int line) {
        return line + 1 < 15 ? line + 1 : 15;
    }

    private static void silence() {
        Rasterbox box = jammed();
        box.run(958);
        for (int line = 0; line < 40; line++) {
            Due.is("silence " + line, box.sample(line), 0);
        }
    }

    private static void sawtooth() {
        Rasterbox box = jammed();
        voice(box, 0, 4096, 1, 0);
        box.run(958);
        for (int line = 0; line < 40; line++) {
            Due.is("sawtooth " + line, box.sample(line), (line + 1) % 16 * grown(line) / 15);
        }
        Due.is("the level", box.level(0), 15);
        Due.is("another level", box.level(1) + box.level(2), 0);
    }

    private static void square() {
        Rasterbox box = jammed();
        voice(box, 1, 4096, 3, 0);
        box.run(958);
        for (int line = 0; line < 40; line++) {
            Due.is("square " + line, box.sample(line), (line + 1) % 16 >= 8 ? grown(line) : 0);
        }
        Due.is("the level", box.level(1), 15);
    }

    private static void noise() {
        for (int v = 0; v < 3; v++) {
            Rasterbox box = jammed();
            voice(box, v, 32768, 5, 0);
            box.run(958);
            box.run(960);
            int noise = 1;
            for (int line = 0; line < 80; line++) {
                if (line % 2 == 1) {
                    int bits = noise % 4;
                    noise = noise / 2 + (bits == 1 || bits == 2 ? 16384 : 0);
                }
                if (line >= 40) {
                    Due.is("noise " + v + " " + line, box.sample(line - 40), noise % 16);
                }
            }
            Rasterbox still = jammed();
            voice(still, v, 1, 5, 0);
            still.run(958);
            Due.is("the noise is 1 at first " + v, still.sample(39), 1);
        }
    }

    /** The first line has the level 1, so that a sample is 1 for what gives 15, and 0 for less. */
    private static void edges() {
        int[] pitches = {32767, 32768, 65535};
        for (int pitch : pitches) {
            Rasterbox box = jammed();
            voice(box, 0, pitch, 3, 0);
            voice(box, 1, 0, 9, 0);
            box.run(22);
            Due.is("square and ring, pitch " + pitch, box.sample(0), pitch >= 32768 ? 2 : 0);
        }
        Rasterbox high = jammed();
        voice(high, 0, 65535, 1, 0);
        high.run(22);
        Due.is("a phase of 65535", high.sample(0), 1);
        Rasterbox beyond = jammed();
        voice(beyond, 0, 65535, 5, 0);
        beyond.run(22 + 24 * 14);
        Due.is("14 times beyond 65535 in 15 lines", beyond.sample(14), 2);
        Rasterbox exact = jammed();
        voice(exact, 0, 65535, 5, 240);
        exact.run(22 + 24 * 14);
        exact.poke(3872, 15);
        exact.poke(3873, 0);
        exact.run(24);
        Due.is("65536 is beyond 65535", exact.sample(15), 1);
    }

    private static void noWave() {
        Rasterbox box = jammed();
        voice(box, 0, 4096, 7, 0);
        box.run(958);
        Due.is("wave 3", box.sample(39) + box.sample(20), 0);
    }

    private static void ring() {
        Rasterbox box = jammed();
        voice(box, 0, 2048, 0, 0);
        voice(box, 1, 4096, 9, 0);
        box.run(958);
        for (int line = 0; line < 40; line++) {
            int plain = (line + 1) % 16;
            boolean isRung = (line + 1) * 2048 % 65536 >= 32768;
            Due.is("ring " + line, box.sample(line), (isRung ? 15 - plain : plain) * grown(line) / 15);
        }
    }

    private static void ringOfTheFirst() {
        Rasterbox box = jammed();
        voice(box, 0, 0, 9, 0);
        voice(box, 1, 32768, 0, 0);
        voice(box, 2, 8192, 0, 0);
        box.run(958);
        for (int line = 0; line < 40; line++) {
            boolean isRung = (line + 1) * 8192 % 65536 >= 32768;
            Due.is("ring of the voice 0 by 2 " + line, box.sample(line), isRung ? grown(line) : 0);
        }
    }

    private static void riseAndFall() {
        Rasterbox box = jammed();
        voice(box, 0, 0, 1, 3 + 16);
        box.run(94);
        Due.is("level after 4 lines", box.level(0), 1);
        box.run(71);
        Due.is("level a cycle ahead of the end of 7 lines", box.level(0), 1);
        box.run(25);
        Due.is("level after 8 lines", box.level(0), 2);
        box.run(24 * 4);
        Due.is("level after 12 lines", box.level(0), 3);
        box.poke(3874, 0);
        box.run(24);
        Due.is("falling, after a line", box.level(0), 3);
        box.run(24);
        Due.is("falling, after two lines", box.level(0), 2);
        box.run(24 * 4);
        Due.is("silent", box.level(0), 0);
        box.run(24 * 4);
        Due.is("not less than 0", box.level(0), 0);
        Rasterbox full = jammed();
        voice(full, 0, 0, 1, 240);
        full.run(958);
        Due.is("up to 15", full.level(0), 15);
        full.poke(3874, 0);
        full.run(24 * 15);
        Due.is("the fall of 15 takes 16 lines", full.level(0), 15);
        full.run(24);
        Due.is("then it is 14", full.level(0), 14);
    }

    private static void threeVoices() {
        Rasterbox box = jammed();
        for (int v = 0; v < 3; v++) {
            voice(box, v, 32768, 3, 0);
        }
        box.run(958);
        Due.is("line 0: three times 15, times 1", box.sample(0), 3);
        Due.is("line 1: no phase is high", box.sample(1), 0);
        Due.is("line 38: all", box.sample(38), 45);
        Rasterbox halves = jammed();
        voice(halves, 0, 4096 * 7, 1, 0);
        voice(halves, 1, 4096 * 7, 1, 0);
        halves.run(22);
        Due.is("the sum is divided, not each: 7 and 7", halves.sample(0), 0);
        halves.run(24);
        Due.is("14 * 2 + 14 * 2 by 15", halves.sample(1), 3);
    }

    private static void once() {
        Rasterbox box = jammed();
        voice(box, 0, 32768, 3, 0);
        box.run(21);
        Due.is("cycle", box.cycle(), 23);
        Due.is("not ahead of the column 23", box.sample(0) + box.level(0), 0);
        box.run(1);
        Due.is("in the column 23", box.sample(0), 1);
        Due.is("its level", box.level(0), 1);
        Due.is("no other line", box.sample(1), 0);
        box.run(936);
        Due.is("cycle of the next frame", box.cycle(), 960);
        Due.is("as it was made last", box.sample(0), 1);
        box.run(24);
        Due.is("made again", box.sample(0), 15);
    }

    private static void mean() {
        Rasterbox box = jammed();
        voice(box, 0, 4096, 1, 0);
        box.run(958);
        int sum = 0;
        for (int line = 0; line < 40; line++) {
            sum += (line + 1) % 16 * grown(line) / 15;
        }
        Due.exactly("the mean", box.meanSample(), (double) sum / 40.0);
        Due.is("which is no whole number", sum % 40 != 0, true);
        Rasterbox one = jammed();
        voice(one, 0, 32768, 3, 0);
        one.run(22);
        Due.exactly("one sample of 1", one.meanSample(), 0.025);
    }
}
