/** The registers 0 to 47 as poke() writes and peek() reads them (promises 2 and 5), and the timers. */
public final class RegistersTest {
    private static final int FLAGS = 3850;
    private static final int TIMERS = 3856;

    private RegistersTest() {
    }

    public static void main(String[] args) {
        lowestBits();
        lineMet();
        flagsCleared();
        latchesAndCounts();
        timerRunsOut();
        timersOfLatchNone();
        secondCountsFirst();
        secondAloneDoesNotCountTheFirst();
        startedAgain();
        longLatch();
        hitsAreNotWritten();
        Due.end("RegistersTest");
    }

    /** A machine whose processor does nothing. */
    private static Rasterbox jammed() {
        Rasterbox box = new Rasterbox();
        box.poke(4000, 255);
        box.setRegister(4, 4000);
        box.step();
        return box;
    }

    private static void lowestBits() {
        int[] kept = {
            15, 3, 31, 15, 15, 15, 15, 15, 15, 0, 0, 15, 0, 0, 0, 0,
            7, 15, 15, 15, 63, 63, 63, 63, 63, 63, 63, 63, 15, 0, 0, 0,
            255, 255, 255, 255, 255, 255, 255, 255, 255, 255, 255, 255, 1, 0, 0, 0};
        Rasterbox box = new Rasterbox();
        for (int n = 0; n < 48; n++) {
            Due.is("poke to register " + n, box.poke(3840 + n, 255), 0);
        }
        for (int n = 12; n < 16; n++) {
            kept[n] = 255;
        }
        for (int n = 0; n < 48; n++) {
            Due.is("register " + n, box.peek(3840 + n), kept[n]);
            Due.is("poke answers register " + n, box.poke(3840 + n, 0), kept[n]);
        }
        for (int n = 0; n < 48; n++) {
            boolean isCount = n >= 12 && n <= 15;
            Due.is("register " + n + " again", box.peek(3840 + n), isCount ? 255 : 0);
        }
    }

    private static void lineMet() {
        Rasterbox box = jammed();
        box.poke(FLAGS, 15);
        box.poke(3849, 3);
        Due.is("reading gives the line", box.peek(3849), 0);
        box.run(70);
        Due.is("cycle", box.cycle(), 72);
        Due.is("the line is not met yet", box.peek(FLAGS), 0);
        Due.is("line 3", box.peek(3849), 3);
        box.run(1);
        Due.is("the line is met in the column 0", box.peek(FLAGS), 1);
        box.poke(FLAGS, 1);
        box.run(23);
        Due.is("and in this one alone", box.peek(FLAGS), 0);
        box.run(864);
        Due.is("line 0 again", box.peek(3849), 0);
        Due.is("cycle of the next frame", box.cycle(), 960);
        box.poke(3849, 40);
        box.run(960);
        Due.is("a line 40 is never met", box.peek(FLAGS), 0);
        box.poke(3849, 39);
        box.run(936);
        Due.is("line 39", box.peek(3849), 39);
        Due.is("ahead of line 39", box.peek(FLAGS), 0);
        box.run(1);
        Due.is("line 39 is met", box.peek(FLAGS), 1);
    }

    private static void flagsCleared() {
        Rasterbox box = jammed();
        box.poke(TIMERS, 3);
        box.addPulse(1);
        box.poke(3884, 1);
        box.run(1);
        Due.is("all flags but that which was there", box.poke(FLAGS, 0), 15);
        Due.is("a 0 clears none", box.poke(FLAGS, 5), 15);
        Due.is("5 clears two", box.poke(FLAGS, 240), 10);
        Due.is("other bits clear none", box.poke(FLAGS, 10), 10);
        Due.is("none is left", box.peek(FLAGS), 0);
    }

    private static void latchesAndCounts() {
        Rasterbox box = jammed();
        box.poke(3852, 5);
        box.poke(3853, 1);
        box.poke(3854, 7);
        box.poke(3855, 2);
        for (int n = 12; n < 16; n++) {
            Due.is("a latch is not read " + n, box.peek(3840 + n), 0);
        }
        box.poke(TIMERS, 1);
        Due.is("A low", box.peek(3852), 5);
        Due.is("A high", box.peek(3853), 1);
        Due.is("B has not begun", box.peek(3854), 0);
        box.poke(TIMERS, 2);
        Due.is("B low", box.peek(3854), 7);
        Due.is("B high", box.peek(3855), 2);
        box.run(6);
        Due.is("A stands", box.peek(3852), 5);
        Due.is("B counts", box.peek(3854), 1);
        box.run(2);
        Due.is("B low goes round", box.peek(3854), 255);
        Due.is("B high goes down", box.peek(3855), 1);
    }

    private static void timerRunsOut() {
        Rasterbox box = jammed();
        box.poke(FLAGS, 15);
        box.poke(3852, 2);
        box.poke(TIMERS, 1);
        box.run(2);
        Due.is("the count is 0", box.peek(3852), 0);
        Due.is("it has not run out", box.peek(FLAGS), 0);
        box.poke(3852, 9);
        box.run(1);
        Due.is("it has run out", box.peek(FLAGS), 2);
        Due.is("and is the latch of now", box.peek(3852), 9);
        Rasterbox second = jammed();
        second.poke(FLAGS, 15);
        second.poke(3854, 1);
        second.poke(TIMERS, 2);
        second.run(1);
        Due.is("B is 0", second.peek(3854), 0);
        second.run(1);
        Due.is("B has run out", second.peek(FLAGS), 4);
        Due.is("B is its latch", second.peek(3854), 1);
    }

    private static void timersOfLatchNone() {
        Rasterbox box = jammed();
        box.poke(FLAGS, 15);
        box.poke(TIMERS, 3);
        box.run(1);
        Due.is("both run out in each cycle", box.peek(FLAGS), 6);
    }

    private static void secondCountsFirst() {
        Rasterbox box = jammed();
        box.poke(FLAGS, 15);
        box.poke(3852, 1);
        box.poke(3854, 1);
        box.poke(TIMERS, 7);
        int[] first = {0, 1, 0, 1, 0, 1};
        int[] second = {1, 0, 0, 1, 1, 0};
        int[] flags = {0, 2, 2, 6, 6, 6};
        for (int i = 0; i < 6; i++) {
            box.run(1);
            Due.is("A after " + (i + 1), box.peek(3852), first[i]);
            Due.is("B after " + (i + 1), box.peek(3854), second[i]);
            Due.is("flags after " + (i + 1), box.peek(FLAGS), flags[i]);
        }
    }

    private static void secondAloneDoesNotCountTheFirst() {
        Rasterbox box = jammed();
        box.poke(FLAGS, 15);
        box.poke(3854, 3);
        box.poke(TIMERS, 6);
        box.run(9);
        Due.is("B waits for A", box.peek(3854), 3);
        box.poke(TIMERS, 2);
        box.run(2);
        Due.is("B counts cycles", box.peek(3854), 1);
        Due.is("no flag", box.peek(FLAGS), 0);
    }

    private static void startedAgain() {
        Rasterbox box = jammed();
        box.poke(3852, 10);
        box.poke(TIMERS, 1);
        box.run(4);
        box.poke(TIMERS, 1);
        Due.is("a bit that stays 1", box.peek(3852), 6);
        box.poke(TIMERS, 0);
        box.run(3);
        Due.is("it stands", box.peek(3852), 6);
        box.poke(TIMERS, 1);
        Due.is("a bit that becomes 1", box.peek(3852), 10);
        Due.is("the register", box.peek(TIMERS), 1);
    }

    private static void longLatch() {
        Rasterbox box = jammed();
        box.poke(FLAGS, 15);
        box.poke(3849, 99);
        box.poke(3853, 1);
        box.poke(TIMERS, 1);
        box.run(256);
        Due.is("256 is counted down", box.peek(3852) + 256 * box.peek(3853), 0);
        Due.is("not yet", box.peek(FLAGS), 0);
        box.run(1);
        Due.is("out", box.peek(FLAGS), 2);
        Due.is("256 again", box.peek(3853), 1);
    }

    private static void hitsAreNotWritten() {
        Rasterbox box = new Rasterbox();
        box.poke(3869, 15);
        box.poke(3870, 15);
        Due.is("hits of sprites", box.peek(3869), 0);
        Due.is("hits of the solid", box.peek(3870), 0);
        box.poke(3885, 9);
        Due.is("45", box.peek(3885), 0);
        Due.is("RAM below", box.ram(3885), 0);
    }
}
