/** Promises 28 to 33: the keys, the joystick and the tape. */
public final class TapeAndKeysTest {
    private static final int FLAGS = 3850;
    private static final int MOTOR = 3884;

    private TapeAndKeysTest() {
    }

    public static void main(String[] args) {
        oneKey();
        everyKeyAlone();
        ghosts();
        longGhost();
        joystick();
        pulses();
        lengthOfOne();
        motorOff();
        rewound();
        fullTape();
        addedWhenAllAreOver();
        Due.end("TapeAndKeysTest");
    }

    private static Rasterbox jammed() {
        Rasterbox box = new Rasterbox();
        box.poke(4000, 255);
        box.setRegister(4, 4000);
        box.step();
        box.poke(FLAGS, 15);
        return box;
    }

    private static void oneKey() {
        Rasterbox box = new Rasterbox();
        Due.is("not pressed", box.key(2, 3, true), false);
        Due.is("pressed", box.key(2, 3, true), true);
        Due.is("its row", box.columns(4), 8);
        Due.is("all rows", box.columns(15), 8);
        Due.is("other rows", box.columns(11), 0);
        Due.is("no row", box.columns(0), 0);
        Due.is("nothing asked for", box.peek(3871), 0);
        box.poke(3871, 4);
        Due.is("the register asks", box.peek(3871), 8);
        box.poke(3871, 255);
        Due.is("for all rows", box.peek(3871), 8);
        Due.is("let go", box.key(2, 3, false), true);
        Due.is("let go again", box.key(2, 3, false), false);
        Due.is("nothing is seen", box.columns(15), 0);
        Due.is("the register sees nothing", box.peek(3871), 0);
    }

    private static void everyKeyAlone() {
        Rasterbox box = new Rasterbox();
        for (int row = 0; row < 4; row++) {
            for (int column = 0; column < 4; column++) {
                box.key(row, column, true);
                Due.is("key " + row + " " + column, box.columns(1 << row), 1 << column);
                Due.is("other rows " + row + " " + column, box.columns(15 - (1 << row)), 0);
                box.key(row, column, false);
            }
        }
    }

    private static void ghosts() {
        Rasterbox box = new Rasterbox();
        box.key(0, 0, true);
        box.key(0, 1, true);
        Due.is("two keys in a row", box.columns(1), 3);
        box.key(1, 1, true);
        Due.is("three keys show a ghost", box.columns(2), 3);
        Due.is("and so from the other row", box.columns(1), 3);
        Due.is("not from a row without keys", box.columns(4), 0);
        box.key(0, 1, false);
        Due.is("no ghost without the corner", box.columns(2), 2);
    }

    private static void longGhost() {
        Rasterbox box = new Rasterbox();
        box.key(3, 3, true);
        box.key(2, 3, true);
        box.key(2, 2, true);
        box.key(1, 2, true);
        box.key(1, 1, true);
        box.key(0, 1, true);
        box.key(0, 0, true);
        for (int row = 0; row < 4; row++) {
            Due.is("a chain over all rows from " + row, box.columns(1 << row), 15);
        }
        box.key(2, 2, false);
        Due.is("the chain is cut, below", box.columns(8), 8);
        Due.is("the chain is cut, above", box.columns(1), 7);
        Due.is("both parts", box.columns(9), 15);
    }

    private static void joystick() {
        Rasterbox box = new Rasterbox();
        Due.is("first", box.joystick(15), 0);
        Due.is("then", box.joystick(6), 15);
        Due.is("in the register", box.peek(3871), 96);
        box.key(1, 0, true);
        box.poke(3871, 2);
        Due.is("with a column", box.peek(3871), 97);
        Due.is("none", box.joystick(0), 6);
        Due.is("the column alone", box.peek(3871), 1);
    }

    private static void pulses() {
        Rasterbox box = jammed();
        Due.is("first pulse", box.addPulse(3), 1);
        Due.is("second pulse", box.addPulse(2), 2);
        Due.is("left", box.pulsesLeft(), 2);
        Due.is("motor off, level 0, a pulse left", box.peek(MOTOR), 4);
        box.poke(MOTOR, 255);
        Due.is("motor on", box.peek(MOTOR), 5);
        box.run(2);
        Due.is("not over yet", box.peek(MOTOR), 5);
        Due.is("no flag yet", box.peek(FLAGS), 0);
        box.run(1);
        Due.is("over, level 1", box.peek(MOTOR), 7);
        Due.is("the flag 3", box.peek(FLAGS), 8);
        Due.is("one left", box.pulsesLeft(), 1);
        box.poke(FLAGS, 8);
        box.run(1);
        Due.is("the second is not over", box.peek(FLAGS), 0);
        box.run(1);
        Due.is("level 0 again, none left", box.peek(MOTOR), 1);
        Due.is("the flag again", box.peek(FLAGS), 8);
        Due.is("none left", box.pulsesLeft(), 0);
        box.poke(FLAGS, 8);
        box.run(50);
        Due.is("nothing more", box.peek(FLAGS), 0);
        Due.is("the motor goes on", box.peek(MOTOR), 1);
    }

    private static void lengthOfOne() {
        Rasterbox box = jammed();
        box.addPulse(1);
        box.addPulse(999);
        box.poke(MOTOR, 1);
        box.run(1);
        Due.is("over in a cycle", box.pulsesLeft(), 1);
        box.run(998);
        Due.is("one is long", box.pulsesLeft(), 1);
        box.run(1);
        Due.is("and over", box.pulsesLeft(), 0);
    }

    private static void motorOff() {
        Rasterbox box = jammed();
        box.addPulse(4);
        box.poke(MOTOR, 1);
        box.run(3);
        box.poke(MOTOR, 0);
        box.run(10);
        Due.is("it stands", box.pulsesLeft(), 1);
        box.poke(MOTOR, 1);
        box.run(1);
        Due.is("and goes on where it was", box.pulsesLeft(), 0);
    }

    private static void rewound() {
        Rasterbox box = jammed();
        Due.is("an empty tape", box.rewind(), 0);
        box.addPulse(2);
        box.addPulse(5);
        box.addPulse(9);
        box.poke(MOTOR, 1);
        box.run(4);
        Due.is("one is over", box.pulsesLeft(), 2);
        Due.is("rewind", box.rewind(), 1);
        Due.is("all are left", box.pulsesLeft(), 3);
        Due.is("the level stays", box.peek(MOTOR), 7);
        Due.is("rewind again", box.rewind(), 0);
        box.run(1);
        Due.is("the first is whole", box.pulsesLeft(), 3);
        box.run(1);
        Due.is("the first is over", box.pulsesLeft(), 2);
        Due.is("the level goes on", box.peek(MOTOR), 5);
        box.run(4);
        Due.is("the second is whole too", box.pulsesLeft(), 2);
        box.rewind();
        box.run(16);
        Due.is("all over", box.pulsesLeft(), 0);
        Due.is("three were over", box.rewind(), 3);
    }

    private static void fullTape() {
        Rasterbox box = new Rasterbox();
        for (int i = 1; i <= 40; i++) {
            Due.is("pulse " + i, box.addPulse(i), i);
        }
        Due.fails("pulse 41", IllegalStateException.class, () -> box.addPulse(1));
        Due.fails("a bad pulse 41", IllegalArgumentException.class, () -> box.addPulse(0));
        Due.is("40 are left", box.pulsesLeft(), 40);
        box.poke(MOTOR, 1);
        box.run(820);
        Due.is("all over at their sum", box.pulsesLeft(), 0);
        Due.is("the level after 40", box.peek(MOTOR), 1);
        Due.fails("over pulses are pulses too", IllegalStateException.class, () -> box.addPulse(1));
    }

    private static void addedWhenAllAreOver() {
        Rasterbox box = jammed();
        box.addPulse(1);
        box.poke(MOTOR, 1);
        box.run(8);
        Due.is("the number counts those that are over", box.addPulse(3), 2);
        Due.is("it is left", box.pulsesLeft(), 1);
        box.run(2);
        Due.is("it is whole", box.pulsesLeft(), 1);
        box.run(1);
        Due.is("and over", box.pulsesLeft(), 0);
    }
}
