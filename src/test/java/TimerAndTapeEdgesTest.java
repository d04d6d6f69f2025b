/** Every sentence on timers and the tape that names an edge, and the promises 31 to 33. */
public final class TimerAndTapeEdgesTest {
    private static final Class<IllegalArgumentException> ARGUMENT = IllegalArgumentException.class;
    private static final Class<IllegalStateException> STATE = IllegalStateException.class;

    private TimerAndTapeEdgesTest() {
    }

    public static void main(String[] args) {
        firstCountsIfItRuns();
        secondCountsIfItRuns();
        secondCountsWhatTheFirstRunsOut();
        secondCountsInTheSameCycle();
        firstDoesNotRun();
        runsOutAtNone();
        longestLatch();
        latchOfThen();
        flagsOfTimers();
        otherFlagsStay();
        cyclesOfThePicture();
        mostPulses();
        motorAndPulse();
        shortestAndLongest();
        levelAndFlag();
        firstThatIsLeft();
        partOfAPulse();
        pulseLengths();
        numberOfPulses();
        addedBehindTheEnd();
        woundBack();
        levelStays();
        howManyAreLeft();
        Due.end("TimerAndTapeEdgesTest");
    }

    private static Rasterbox timers(int a, int b, int control) {
        Rasterbox box = Boxes.jammedAt(30);
        box.poke(Boxes.LATCH_A, a % 256);
        box.poke(Boxes.LATCH_A + 1, a / 256);
        box.poke(Boxes.LATCH_B, b % 256);
        box.poke(Boxes.LATCH_B + 1, b / 256);
        box.poke(Boxes.TIMERS, control);
        return box;
    }

    private static int countA(Rasterbox box) {
        return box.peek(Boxes.LATCH_A) + 256 * box.peek(Boxes.LATCH_A + 1);
    }

    private static int countB(Rasterbox box) {
        return box.peek(Boxes.LATCH_B) + 256 * box.peek(Boxes.LATCH_B + 1);
    }

    private static void firstCountsIfItRuns() {
        Due.by("In each cycle, A counts if it runs");
        Rasterbox box = timers(100, 100, 1);
        for (int i = 1; i < 4; i++) {
            box.run(1);
            Due.is("runs for " + i, countA(box), 100 - i);
        }
        box.poke(Boxes.TIMERS, 0);
        box.run(50);
        Due.is("does not run", countA(box), 97);
        Due.is("B did not run", countB(box), 0);
    }

    private static void secondCountsIfItRuns() {
        Due.by("then B, if it runs");
        Rasterbox box = timers(100, 100, 2);
        for (int i = 1; i < 4; i++) {
            box.run(1);
            Due.is("runs for " + i, countB(box), 100 - i);
        }
        box.poke(Boxes.TIMERS, 0);
        box.run(50);
        Due.is("does not run", countB(box), 97);
        Rasterbox chained = timers(0, 100, 7);
        chained.poke(Boxes.TIMERS, 5);
        chained.run(50);
        Due.is("does not run, though A runs out", countB(chained), 100);
    }

    private static void secondCountsWhatTheFirstRunsOut() {
        Due.by("if bit 2 of the register 16 is 1, A has run out in this cycle");
        Rasterbox box = timers(4, 100, 7);
        box.run(4);
        Due.is("A is 0", countA(box), 0);
        Due.is("but has not run out", countB(box), 100);
        box.run(1);
        Due.is("A has run out once", countB(box), 99);
        box.run(5 * 8);
        Due.is("and 8 times more", countB(box), 91);
        Rasterbox all = timers(0, 100, 7);
        all.run(30);
        Due.is("A runs out in each cycle", countB(all), 70);
    }

    private static void secondCountsInTheSameCycle() {
        Due.by("In each cycle, A counts if it runs, then B");
        Rasterbox box = timers(2, 0, 7);
        box.run(2);
        Due.is("neither has run out", box.peek(Boxes.FLAGS), 0);
        box.run(1);
        Due.is("both run out in one cycle", box.peek(Boxes.FLAGS), 6);
    }

    private static void firstDoesNotRun() {
        Due.by("if bit 2 of the register 16 is 1, A has run out in this cycle");
        Rasterbox box = timers(0, 5, 6);
        box.run(50);
        Due.is("A is 0 and does not run", countB(box), 5);
        Due.is("no flag", box.peek(Boxes.FLAGS), 0);
        Rasterbox once = timers(0, 5, 7);
        once.run(1);
        once.poke(Boxes.TIMERS, 6);
        once.run(50);
        Due.is("A has run out in an earlier cycle", countB(once), 4);
    }

    private static void runsOutAtNone() {
        Due.by("To count: if the count is 0, it has run out: it becomes its latch, and the flag 1 for A, 2 for B is set; otherwise it is 1 less.");
        for (int latch : new int[] {0, 1, 2, 255, 256}) {
            Rasterbox a = timers(latch, 9999, 1);
            Rasterbox b = timers(9999, latch, 2);
            if (latch > 0) {
                a.run(latch);
                b.run(latch);
            }
            Due.is("A is 0, latch " + latch, countA(a), 0);
            Due.is("B is 0, latch " + latch, countB(b), 0);
            Due.is("A has not run out, latch " + latch, a.peek(Boxes.FLAGS), 0);
            Due.is("B has not run out, latch " + latch, b.peek(Boxes.FLAGS), 0);
            a.run(1);
            b.run(1);
            Due.is("A has run out, latch " + latch, a.peek(Boxes.FLAGS), 2);
            Due.is("B has run out, latch " + latch, b.peek(Boxes.FLAGS), 4);
            Due.is("A is its latch, latch " + latch, countA(a), latch);
            Due.is("B is its latch, latch " + latch, countB(b), latch);
        }
    }

    private static void longestLatch() {
        Due.by("if the count is 0, it has run out");
        Rasterbox box = timers(65535, 65535, 3);
        for (int i = 0; i < 65; i++) {
            box.run(1000);
        }
        box.poke(Boxes.FLAGS, 1);
        box.run(535);
        Due.is("0 behind 65535 cycles", countA(box) + countB(box), 0);
        Due.is("not yet", box.peek(Boxes.FLAGS) & 6, 0);
        box.run(1);
        Due.is("behind 65536", box.peek(Boxes.FLAGS) & 6, 6);
        Due.is("65535 again", countA(box) + countB(box), 2 * 65535);
    }

    private static void latchOfThen() {
        Due.by("it becomes its latch");
        Rasterbox box = timers(3, 3, 3);
        box.run(3);
        box.poke(Boxes.LATCH_A, 200);
        box.poke(Boxes.LATCH_A + 1, 1);
        box.poke(Boxes.LATCH_B, 0);
        Due.is("0 still", countA(box) + countB(box), 0);
        box.run(1);
        Due.is("the latch of A then", countA(box), 456);
        Due.is("the latch of B then", countB(box), 0);
    }

    private static void flagsOfTimers() {
        Due.by("the flag 1 for A, 2 for B is set");
        Rasterbox box = timers(1, 3, 3);
        box.run(2);
        Due.is("A", box.peek(Boxes.FLAGS), 2);
        box.poke(Boxes.FLAGS, 2);
        box.run(1);
        Due.is("none", box.peek(Boxes.FLAGS), 0);
        box.run(1);
        Due.is("both", box.peek(Boxes.FLAGS), 6);
        box.run(1);
        Due.is("they stay", box.peek(Boxes.FLAGS), 6);
    }

    private static void otherFlagsStay() {
        Due.by("the flag 1 for A, 2 for B is set");
        for (int i = 0; i < 3; i++) {
            Rasterbox box = Boxes.jammedAt(23);
            box.poke(Boxes.LINE, 1);
            box.run(2);
            box.addPulse(1);
            box.poke(Boxes.TIMERS, i == 0 ? 1 : 0);
            box.poke(Boxes.MOTOR, i == 1 ? 1 : 0);
            box.run(1);
            box.poke(Boxes.TIMERS, i == 1 ? 1 : 0);
            box.poke(Boxes.MOTOR, i == 0 ? 1 : 0);
            box.run(1);
            Due.is("flags, order " + i, box.peek(Boxes.FLAGS), i < 2 ? 11 : 1);
            box.poke(Boxes.TIMERS, 2);
            box.run(1);
            Due.is("flags with B, order " + i, box.peek(Boxes.FLAGS), i < 2 ? 15 : 5);
        }
    }

    private static void cyclesOfThePicture() {
        Due.by("In each cycle, A counts if it runs");
        Rasterbox box = Boxes.jammedAt(96);
        box.poke(Boxes.LATCH_A, 50);
        box.poke(Boxes.TIMERS, 1);
        box.addPulse(10);
        box.addPulse(10);
        box.poke(Boxes.MOTOR, 1);
        Due.is("eight of the picture", box.run(10), 8);
        Due.is("A counts in each", countA(box), 40);
        Due.is("the tape runs in each", box.pulsesLeft(), 1);
    }

    private static void mostPulses() {
        Due.by("A tape has at most 40 pulses");
        Rasterbox box = Boxes.jammed();
        for (int i = 1; i <= 40; i++) {
            Due.is("pulse " + i, box.addPulse(1), i);
        }
        Due.fails("pulse 41", STATE, () -> box.addPulse(1));
        Due.is("40 are left", box.pulsesLeft(), 40);
        box.poke(Boxes.MOTOR, 1);
        box.run(40);
        Due.is("none is left", box.pulsesLeft(), 0);
        Due.fails("pulses that are over count", STATE, () -> box.addPulse(999));
        Due.is("all were over", box.rewind(), 40);
        Due.fails("and later too", STATE, () -> box.addPulse(999));
        box.reset();
        Due.fails("a reset keeps the tape", STATE, () -> box.addPulse(999));
    }

    private static void motorAndPulse() {
        Due.by("In each cycle with the motor on and a pulse left, the time of the first one that is left is 1 less");
        Rasterbox box = Boxes.jammedAt(30);
        box.poke(Boxes.MOTOR, 1);
        box.run(50);
        Due.is("no pulse", box.peek(Boxes.MOTOR), 1);
        Due.is("no flag without a pulse", box.peek(Boxes.FLAGS), 0);
        box.poke(Boxes.MOTOR, 0);
        box.addPulse(2);
        box.run(50);
        Due.is("no motor", box.peek(Boxes.MOTOR), 4);
        box.poke(Boxes.MOTOR, 1);
        box.run(1);
        Due.is("one cycle of two", box.peek(Boxes.MOTOR), 5);
        Due.is("no flag yet", box.peek(Boxes.FLAGS), 0);
        box.run(1);
        Due.is("two cycles of two", box.peek(Boxes.MOTOR), 3);
        Due.is("the flag", box.peek(Boxes.FLAGS), 8);
        box.poke(Boxes.FLAGS, 8);
        box.run(100);
        Due.is("no pulse is left", box.peek(Boxes.MOTOR), 3);
        Due.is("no flag any more", box.peek(Boxes.FLAGS), 0);
    }

    private static void shortestAndLongest() {
        Due.by("if it is 0 then, the pulse is over");
        for (int length : new int[] {1, 2, 255, 256, 999}) {
            Rasterbox box = Boxes.jammedAt(30);
            box.addPulse(length);
            box.poke(Boxes.MOTOR, 1);
            if (length > 1) {
                box.run(length - 1);
            }
            Due.is("not yet, " + length, box.pulsesLeft(), 1);
            box.run(1);
            Due.is("over, " + length, box.pulsesLeft(), 0);
        }
    }

    private static void levelAndFlag() {
        Due.by("the level changes from 0 to 1 or back, and the flag 3 is set");
        Rasterbox box = Boxes.jammedAt(30);
        for (int i = 0; i < 4; i++) {
            box.addPulse(3);
        }
        box.poke(Boxes.MOTOR, 1);
        for (int i = 1; i <= 4; i++) {
            box.run(2);
            Due.is("ahead of the end of " + i, box.peek(Boxes.FLAGS), 0);
            box.run(1);
            Due.is("the flag of " + i, box.peek(Boxes.FLAGS), 8);
            Due.is("the level behind " + i, box.peek(Boxes.MOTOR) / 2 % 2, i % 2);
            box.poke(Boxes.FLAGS, 8);
        }
    }

    private static void firstThatIsLeft() {
        Due.by("the time of the first one that is left is 1 less");
        Rasterbox box = Boxes.jammed();
        int[] lengths = {5, 1, 7};
        for (int length : lengths) {
            box.addPulse(length);
        }
        box.poke(Boxes.MOTOR, 1);
        int[] left = {3, 3, 3, 3, 2, 1, 1, 1, 1, 1, 1, 1, 0, 0};
        for (int i = 0; i < left.length; i++) {
            box.run(1);
            Due.is("left behind " + (i + 1), box.pulsesLeft(), left[i]);
        }
    }

    private static void partOfAPulse() {
        Due.by("In each cycle with the motor on");
        Rasterbox box = Boxes.jammed();
        box.addPulse(10);
        box.poke(Boxes.MOTOR, 1);
        box.run(6);
        box.poke(Boxes.MOTOR, 0);
        box.run(100);
        box.poke(Boxes.MOTOR, 1);
        box.run(3);
        Due.is("9 of 10", box.pulsesLeft(), 1);
        box.run(1);
        Due.is("10 of 10", box.pulsesLeft(), 0);
    }

    private static void pulseLengths() {
        Due.by("`length`: the length, 1 to 999");
        Rasterbox box = new Rasterbox();
        Due.is("1", box.addPulse(1), 1);
        Due.is("999", box.addPulse(999), 2);
        for (int wrong : new int[] {0, -1, 1000, Integer.MIN_VALUE, Integer.MAX_VALUE}) {
            Due.fails("length " + wrong, ARGUMENT, () -> box.addPulse(wrong));
        }
        Due.is("none was added", box.pulsesLeft(), 2);
        for (int i = 3; i <= 40; i++) {
            box.addPulse(1);
        }
        Due.fails("a wrong length is told first", ARGUMENT, () -> box.addPulse(0));
        Due.fails("then that there are 40", STATE, () -> box.addPulse(1));
    }

    private static void numberOfPulses() {
        Due.by("Returns the number of pulses.");
        Rasterbox box = Boxes.jammed();
        box.addPulse(1);
        box.poke(Boxes.MOTOR, 1);
        box.run(1);
        Due.is("none is left", box.pulsesLeft(), 0);
        Due.is("one that is over is a pulse of the tape", box.addPulse(1), 2);
    }

    private static void addedBehindTheEnd() {
        Due.by("Adds a pulse to the tape.");
        Rasterbox box = Boxes.jammedAt(30);
        box.addPulse(1);
        box.poke(Boxes.MOTOR, 1);
        box.run(5);
        box.addPulse(3);
        box.run(2);
        Due.is("it is whole", box.pulsesLeft(), 1);
        box.run(1);
        Due.is("it is over", box.pulsesLeft(), 0);
        Due.is("the level is back", box.peek(Boxes.MOTOR), 1);
    }

    private static void woundBack() {
        Due.by("Winds the tape back: all pulses are left, whole; the level stays.");
        Rasterbox box = Boxes.jammed();
        Due.is("no pulse", box.rewind(), 0);
        box.addPulse(5);
        box.addPulse(6);
        Due.is("none is over", box.rewind(), 0);
        box.poke(Boxes.MOTOR, 1);
        box.run(4);
        Due.is("none is over yet", box.rewind(), 0);
        box.run(4);
        Due.is("the first one was whole again", box.pulsesLeft(), 2);
        box.run(1);
        Due.is("it is over", box.pulsesLeft(), 1);
        box.run(5);
        Due.is("one was over", box.rewind(), 1);
        Due.is("all are left", box.pulsesLeft(), 2);
        box.run(10);
        Due.is("the second one was whole again", box.pulsesLeft(), 1);
        box.run(1);
        Due.is("two are over", box.rewind(), 2);
        Due.is("rewound twice", box.rewind(), 0);
    }

    private static void levelStays() {
        Due.by("the level stays");
        Rasterbox box = Boxes.jammedAt(30);
        box.addPulse(1);
        box.poke(Boxes.MOTOR, 1);
        box.run(1);
        box.poke(Boxes.FLAGS, 8);
        box.rewind();
        Due.is("1", box.peek(Boxes.MOTOR), 7);
        Due.is("no flag by it", box.peek(Boxes.FLAGS), 0);
        box.run(1);
        box.rewind();
        Due.is("0", box.peek(Boxes.MOTOR), 5);
    }

    private static void howManyAreLeft() {
        Due.by("Returns how many pulses are left.");
        Rasterbox box = Boxes.jammed();
        Due.is("none", box.pulsesLeft(), 0);
        for (int i = 1; i <= 40; i++) {
            box.addPulse(1);
            Due.is("of " + i, box.pulsesLeft(), i);
        }
        box.poke(Boxes.MOTOR, 1);
        for (int i = 39; i >= 0; i--) {
            box.run(1);
            Due.is("then " + i, box.pulsesLeft(), i);
        }
        box.run(1);
        Due.is("no less", box.pulsesLeft(), 0);
    }
}
