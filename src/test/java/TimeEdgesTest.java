/** Every sentence on cycles, lines, frames and whose cycle it is that names an edge, and the promises 16 to 20 and 41. */
public final class TimeEdgesTest {
    private static final Class<IllegalArgumentException> ARGUMENT = IllegalArgumentException.class;
    private static final int NOP = Boxes.code("nop");

    private TimeEdgesTest() {
    }

    public static void main(String[] args) {
        cyclesFromNone();
        linesAndFrames();
        lineFlagInTheFirstColumn();
        lineFlagFirst();
        whoseCycleSecond();
        pixelsThird();
        timersFourth();
        tapeFifth();
        voicesSixth();
        processorSeventh();
        numberLast();
        linesWithRows();
        modeNone();
        modesOneAndTwo();
        rowsOfSprites();
        columnsOfSprites();
        rowsOfEachSprite();
        allOtherCycles();
        everyCycleIsOfOne();
        runLengths();
        runReturns();
        stepUntilDone();
        stepAtLeastOne();
        stepAtMost();
        stepOfAJam();
        nextCycle();
        cyclesUnderWay();
        Due.end("TimeEdgesTest");
    }

    private static void cyclesFromNone() {
        Due.by("Cycles are numbered from 0.");
        Rasterbox box = new Rasterbox();
        Due.is("at first", box.cycle(), 0);
        box.run(1);
        Due.is("behind one", box.cycle(), 1);
        box.run(1000);
        Due.is("behind 1001", box.cycle(), 1001);
    }

    private static void linesAndFrames() {
        Due.by("24 cycles are a line, with the columns 0 to 23; 40 lines are a frame, with the lines 0 to 39.");
        for (int frame = 0; frame < 3; frame++) {
            Rasterbox box = Boxes.jammed();
            box.poke(Boxes.MODE, 1);
            Boxes.runTo(box, 960 * frame + 95);
            Due.is("the last column of the line 3", box.isPictures(), false);
            box.run(1);
            Due.is("the first column of the line 4", box.isPictures(), true);
            Due.is("its number", box.peek(Boxes.LINE), 4);
            Boxes.runTo(box, 960 * frame + 119);
            Due.is("the last column of the line 4", box.isPictures(), false);
            box.run(1);
            Due.is("the first column of the line 5", box.isPictures(), true);
            Boxes.runTo(box, 960 * frame + 959);
            Due.is("the last line", box.peek(Boxes.LINE), 39);
            box.run(1);
            Due.is("the first line of the next frame", box.peek(Boxes.LINE), 0);
        }
    }

    private static void lineFlagInTheFirstColumn() {
        Due.by("First, if the column is 0 and the line is that to be met, the flag 0 is set.");
        Rasterbox first = Boxes.jammedAt(24);
        first.poke(Boxes.LINE, 1);
        first.run(1);
        Due.is("in the column 0", first.peek(Boxes.FLAGS), 1);
        Rasterbox second = Boxes.jammedAt(25);
        second.poke(Boxes.LINE, 1);
        second.run(23);
        Due.is("in the columns 1 to 23", second.peek(Boxes.FLAGS), 0);
        Rasterbox last = Boxes.jammedAt(23);
        last.poke(Boxes.LINE, 0);
        last.run(1);
        Due.is("in the column 23 of the line ahead", last.peek(Boxes.FLAGS), 0);
        Rasterbox others = Boxes.jammedAt(23);
        others.poke(Boxes.TIMERS, 3);
        others.run(1);
        others.poke(Boxes.TIMERS, 0);
        others.poke(Boxes.LINE, 1);
        others.run(1);
        Due.is("the other flags stay", others.peek(Boxes.FLAGS), 7);
        Rasterbox picture = Boxes.jammedAt(96);
        picture.poke(Boxes.MODE, 1);
        picture.poke(Boxes.LINE, 4);
        Due.is("a cycle of the picture", picture.run(1), 1);
        Due.is("has it too", picture.peek(Boxes.FLAGS), 1);
    }

    private static void lineFlagFirst() {
        Due.by("First, if the column is 0 and the line is that to be met, the flag 0 is set.");
        for (int line = 1; line < 4; line++) {
            Rasterbox box = Boxes.readyAt(24, 700, 0, 0, 0, 0);
            box.poke(700, NOP);
            box.poke(Boxes.MASK, 1);
            box.poke(Boxes.LINE, line);
            box.run(1);
            Due.is("under way in the first cycle of the line 1, met is " + line, box.underWay(), line == 1 ? 6 : 1);
        }
    }

    /** A store of A whose last cycle is one that is told. */
    private static Rasterbox storing(int lastCycle, int address, int a) {
        Rasterbox box = Boxes.readyAt(lastCycle - 3, 700, a, 0, 0, 0);
        int behind = box.assemble(700, Boxes.code("sta") + 3, address);
        box.assemble(behind, Boxes.code("jmp"), behind);
        return box;
    }

    /** The byte that is read by an instruction whose last cycle is one that is told. */
    private static int loaded(Rasterbox box, int address) {
        box.assemble(700, Boxes.code("lda") + 3, address);
        box.run(4);
        Due.is("the load is done", box.underWay(), 0);
        return box.register(Boxes.A);
    }

    private static void whoseCycleSecond() {
        Due.by("Second, it is found whether the cycle is of the picture or of the processor.");
        Rasterbox late = storing(96, Boxes.MODE, 1);
        Due.is("a store in the column 0 of the line 4", late.run(4), 0);
        Due.is("is done in it", late.peek(Boxes.MODE), 1);
        Due.is("the columns 1 to 3 are of the picture", late.run(20), 3);
        Rasterbox early = storing(95, Boxes.MODE, 1);
        Due.is("a store in the column 23 of the line 3", early.run(4), 0);
        Due.is("the columns 0 to 3 are of the picture", early.run(20), 4);
    }

    private static void pixelsThird() {
        Due.by("Third, pixels are drawn, as told below.");
        Rasterbox box = storing(100, Boxes.BACKGROUND, 7);
        box.run(20);
        Due.is("drawn ahead of the store", box.pixel(0, 0) + box.pixel(1, 0), 0);
        Due.is("drawn behind the store", box.pixel(2, 0), 7);
        Due.is("again, ahead of it", box.pixelAgain(0, 0) + box.pixelAgain(1, 0), 0);
        Due.is("again, behind it", box.pixelAgain(2, 0), 7);
        for (int cycle = 99; cycle < 102; cycle++) {
            Rasterbox hit = Boxes.readyAt(cycle - 3, 700, 0, 0, 0, 0);
            hit.poke(Boxes.SPRITES_ON, 3);
            hit.poke(128, 128);
            hit.poke(136, 128);
            Due.is("hits that are read in the cycle " + cycle, loaded(hit, Boxes.HITS_OF_SPRITES), cycle < 100 ? 0 : 3);
        }
    }

    private static void timersFourth() {
        Due.by("Fourth, timers.");
        Rasterbox box = Boxes.readyAt(12, 700, 0, 0, 0, 0);
        box.poke(Boxes.LATCH_A, 9);
        box.poke(Boxes.TIMERS, 1);
        Due.is("four cycles are counted when the fourth one reads", loaded(box, Boxes.LATCH_A), 5);
        Rasterbox begun = storing(20, Boxes.TIMERS, 1);
        begun.poke(Boxes.LATCH_A, 9);
        begun.run(4);
        Due.is("the cycle of the store is not counted", begun.peek(Boxes.LATCH_A), 9);
        begun.run(1);
        Due.is("the next one is", begun.peek(Boxes.LATCH_A), 8);
        Rasterbox asking = Boxes.readyAt(12, 700, 0, 0, 0, 0);
        asking.poke(Boxes.MASK, 2);
        asking.poke(Boxes.TIMERS, 1);
        asking.run(1);
        Due.is("an interrupt begins in the cycle in which A runs out", asking.underWay(), 6);
    }

    private static void tapeFifth() {
        Due.by("Fifth, the tape.");
        Rasterbox box = Boxes.readyAt(12, 700, 0, 0, 0, 0);
        box.addPulse(4);
        box.poke(Boxes.MOTOR, 1);
        Due.is("the pulse is over when the fourth cycle reads", loaded(box, Boxes.MOTOR), 3);
        Rasterbox begun = storing(20, Boxes.MOTOR, 1);
        begun.addPulse(1);
        begun.run(4);
        Due.is("the cycle of the store moves nothing", begun.pulsesLeft(), 1);
        begun.run(1);
        Due.is("the next one does", begun.pulsesLeft(), 0);
        Rasterbox asking = Boxes.readyAt(12, 700, 0, 0, 0, 0);
        asking.poke(Boxes.MASK, 8);
        asking.addPulse(1);
        asking.poke(Boxes.MOTOR, 1);
        asking.run(1);
        Due.is("an interrupt begins in the cycle in which a pulse is over", asking.underWay(), 6);
    }

    private static void voicesSixth() {
        Due.by("Sixth, in the column 23, the voices.");
        Rasterbox box = Boxes.jammedAt(22);
        box.poke(Boxes.VOICES + 2, 1);
        box.run(1);
        Due.is("behind the column 22", box.level(0), 0);
        box.run(1);
        Due.is("behind the column 23", box.level(0), 1);
        box.run(23);
        Due.is("behind the next column 22", box.level(0), 1);
        box.run(1);
        Due.is("behind the next column 23", box.level(0), 2);
        Rasterbox early = storing(22, Boxes.VOICES + 2, 1);
        early.run(5);
        Due.is("the gate is on ahead of the column 23", early.level(0), 1);
        Rasterbox late = storing(23, Boxes.VOICES + 2, 1);
        late.run(4);
        Due.is("the gate is on behind the voices", late.level(0), 0);
        late.run(24);
        Due.is("the next line has it", late.level(0), 1);
    }

    private static void processorSeventh() {
        Due.by("Seventh, if the cycle is of the processor, this goes on.");
        Rasterbox box = Boxes.readyAt(95, 700, 0, 0, 0, 0);
        box.poke(700, NOP);
        box.poke(Boxes.MODE, 1);
        box.run(1);
        Due.is("begun", box.underWay(), 1);
        Due.is("four of the picture", box.run(4), 4);
        Due.is("in which it does not go on", box.underWay(), 1);
        Due.is("nor is done", box.done(), Boxes.readyAt(95, 700, 0, 0, 0, 0).done());
        Due.is("none of the picture", box.run(1), 0);
        Due.is("it is done", box.underWay(), 0);
        Due.is("P", box.register(Boxes.P), 701);
    }

    private static void numberLast() {
        Due.by("Then the number of the cycle increases by 1.");
        Due.is("the line that is read in the last cycle of the line 0",
                loaded(Boxes.readyAt(20, 700, 9, 0, 0, 0), Boxes.LINE), 0);
        Due.is("the line that is read in the first cycle of the line 1",
                loaded(Boxes.readyAt(21, 700, 9, 0, 0, 0), Boxes.LINE), 1);
        Due.is("the line that is read in the last cycle of a frame",
                loaded(Boxes.readyAt(956, 700, 9, 0, 0, 0), Boxes.LINE), 39);
        Due.is("the line that is read in the first cycle of the next one",
                loaded(Boxes.readyAt(957, 700, 9, 0, 0, 0), Boxes.LINE), 0);
    }

    private static void linesWithRows() {
        Due.by("A line from 4 to 35 has the row of pixels whose number is 4 less.");
        Rasterbox box = Boxes.jammed();
        box.poke(Boxes.MODE, 1);
        for (int line = 1; line < 40; line++) {
            Boxes.runTo(box, 24 * line);
            Due.is("a cycle of the picture in the line " + line, box.isPictures(), line >= 4 && line <= 35);
        }
        Rasterbox drawn = Boxes.jammed();
        drawn.poke(Boxes.MODE, 3);
        for (int line = 1; line < 40; line++) {
            Boxes.runTo(drawn, 24 * line);
            drawn.poke(Boxes.BACKGROUND, line % 16);
        }
        Boxes.runTo(drawn, 960);
        for (int y = 0; y < 32; y++) {
            Due.is("the line of the row " + y, drawn.pixel(y, y), (y + 4) % 16);
        }
    }

    private static void modeNone() {
        Due.by("in the columns 0 to 7 in the mode 0, if the row plus the scroll upwards can be divided by 8");
        for (int scroll = 0; scroll < 8; scroll++) {
            for (int row = 6; row < 10; row++) {
                Rasterbox box = Boxes.jammed();
                box.poke(Boxes.SCROLL, 4 * scroll + 3);
                Boxes.runTo(box, 24 * (row + 4) - 1);
                boolean isHis = (row + scroll) % 8 == 0;
                String what = "row " + row + " scroll " + scroll;
                Due.is("ahead of column 0, " + what, box.run(1), 0);
                Due.is("columns 0 to 6, " + what, box.run(7), isHis ? 7 : 0);
                Due.is("column 7, " + what, box.run(1), isHis ? 1 : 0);
                Due.is("column 8 on, " + what, box.run(16), 0);
            }
        }
        Rasterbox ends = Boxes.jammed();
        ends.poke(Boxes.SCROLL, 4);
        Boxes.runTo(ends, 24 * 35);
        Due.is("the row 31 with a scroll of 1", ends.run(24), 8);
        Due.is("no row 32", ends.run(96), 0);
    }

    private static void modesOneAndTwo() {
        Due.by("in the columns 0 to 3 in the modes 1 and 2");
        for (int mode = 1; mode < 4; mode++) {
            int each = mode < 3 ? 1 : 0;
            for (int line : new int[] {4, 5, 34, 35}) {
                Rasterbox box = Boxes.jammed();
                box.poke(Boxes.MODE, mode);
                box.poke(Boxes.SCROLL, 7);
                Boxes.runTo(box, 24 * line - 1);
                String what = "mode " + mode + " line " + line;
                Due.is("ahead of column 0, " + what, box.run(1), 0);
                Due.is("columns 0 to 2, " + what, box.run(3), 3 * each);
                Due.is("column 3, " + what, box.run(1), each);
                Due.is("column 4 on, " + what, box.run(20), 0);
            }
        }
    }

    private static void rowsOfSprites() {
        Due.by("if this is on and the row is among its rows: from its y on 8, or 16 if it is doubled");
        int[][] cases = {
            {0, 0, 4, 11}, {1, 0, 4, 19}, {0, 24, 28, 35}, {0, 25, 29, 35}, {1, 16, 20, 35}, {1, 17, 21, 35},
            {0, 31, 35, 35}, {1, 31, 35, 35}, {0, 10, 14, 21}, {1, 10, 14, 29}, {0, 32, 99, 0}, {1, 63, 99, 0}};
        for (int[] one : cases) {
            Rasterbox box = Boxes.jammed();
            box.poke(Boxes.MODE, 3);
            box.poke(Boxes.SPRITES_ON, 1);
            box.poke(Boxes.DOUBLED, one[0]);
            box.poke(Boxes.SPRITE_Y, one[1]);
            Boxes.runTo(box, 24);
            for (int line = 1; line < 40; line++) {
                int due = line >= one[2] && line <= one[3] ? 1 : 0;
                Due.is("y " + one[1] + " doubled " + one[0] + " line " + line, box.run(24), due);
            }
            Due.is("no line 0 of the next frame", box.run(24), 0);
        }
        Rasterbox off = Boxes.jammed();
        off.poke(Boxes.MODE, 3);
        off.poke(Boxes.DOUBLED, 15);
        off.run(900);
        Due.is("none is on", off.pictures(), 0);
    }

    private static void columnsOfSprites() {
        Due.by("in the column 20 plus the number of a sprite");
        for (int on = 0; on < 16; on++) {
            Rasterbox box = Boxes.jammed();
            box.poke(Boxes.MODE, 3);
            box.poke(Boxes.SPRITES_ON, on);
            Boxes.runTo(box, 24 * 4 + 18);
            Due.is("columns 18 and 19 by " + on, box.run(2), 0);
            for (int n = 0; n < 4; n++) {
                Due.is("is of the picture, " + on + " " + n, box.isPictures(), (on >> n & 1) == 1);
                Due.is("column of " + n + " by " + on, box.run(1), on >> n & 1);
            }
            Due.is("the next columns 0 to 19 by " + on, box.run(20), 0);
        }
    }

    private static void rowsOfEachSprite() {
        Due.by("and the row is among its rows: from its y on 8, or 16 if it is doubled");
        int[] tops = {3, 10, 20, 29};
        Rasterbox box = Boxes.jammed();
        box.poke(Boxes.MODE, 3);
        box.poke(Boxes.SPRITES_ON, 15);
        box.poke(Boxes.DOUBLED, 10);
        for (int n = 0; n < 4; n++) {
            box.poke(Boxes.SPRITE_Y + n, tops[n]);
        }
        Boxes.runTo(box, 96);
        for (int row = 0; row < 32; row++) {
            box.run(20);
            for (int n = 0; n < 4; n++) {
                int rows = n % 2 == 1 ? 16 : 8;
                Due.is("sprite " + n + " row " + row, box.run(1), row >= tops[n] && row < tops[n] + rows ? 1 : 0);
            }
        }
    }

    private static void allOtherCycles() {
        Due.by("All other cycles are of the processor.");
        int[] frames = {32, 128, 128, 0};
        for (int mode = 0; mode < 4; mode++) {
            Rasterbox box = new Rasterbox();
            box.poke(Boxes.MODE, mode);
            Due.is("a frame of the mode " + mode, box.run(960), frames[mode]);
            box.poke(Boxes.SPRITES_ON, 15);
            box.poke(Boxes.DOUBLED, 12);
            Due.is("with sprites, mode " + mode, box.run(960), frames[mode] + 8 + 8 + 16 + 16);
            Due.is("pictures, mode " + mode, box.pictures(), 2 * frames[mode] + 48);
            box.reset();
            Due.is("behind a reset, mode " + mode, box.pictures(), 2 * frames[mode] + 48);
        }
    }

    private static void everyCycleIsOfOne() {
        Due.by("each cycle is of the processor or of the picture");
        Rasterbox box = Boxes.ready(600, 0, 0, 0, 0);
        box.assemble(600, Boxes.code("jmp"), 600);
        box.poke(Boxes.MODE, 1);
        box.poke(Boxes.SPRITES_ON, 15);
        int first = box.done();
        box.run(1000);
        box.run(998);
        long his = 3L * (box.done() - first) + (3 - box.underWay()) % 3;
        Due.is("cycles of the processor and of the picture", 4 + his + box.pictures(), box.cycle());
    }

    private static void runLengths() {
        Due.by("`cycles`: the number of cycles, 1 to 1000");
        Rasterbox box = new Rasterbox();
        box.run(1);
        Due.is("1", box.cycle(), 1);
        box.run(1000);
        Due.is("1000", box.cycle(), 1001);
        for (int wrong : new int[] {0, -1, 1001, Integer.MIN_VALUE, Integer.MAX_VALUE}) {
            Due.fails("run " + wrong, ARGUMENT, () -> box.run(wrong));
        }
        Due.is("no cycle has passed", box.cycle(), 1001);
    }

    private static void runReturns() {
        Due.by("Returns how many of them are of the picture.");
        Rasterbox box = Boxes.jammed();
        box.poke(Boxes.MODE, 1);
        Due.is("none of 94", box.run(94), 0);
        Due.is("one of one", box.run(1), 1);
        Due.is("three of 23", box.run(23), 3);
        Due.is("all of four", box.run(4), 4);
        Due.is("pictures", box.pictures(), 8);
        Due.is("of 1000", box.run(1000), 4 * 30 + 4 * 3);
        Due.is("pictures then", box.pictures(), 140);
    }

    private static void stepUntilDone() {
        Due.by("Lets cycles pass until an instruction or an interrupt has been done");
        Rasterbox box = Boxes.ready(600, 0, 0, 0, 0);
        box.poke(600, NOP);
        box.assemble(601, Boxes.code("isc") + 7, 40);
        Due.is("an instruction of 2", box.step(), 2);
        Due.is("an instruction of 8", box.step(), 8);
        box.poke(Boxes.MASK, 1);
        Due.is("an interrupt", box.step(), 7);
        box.freeze();
        Due.is("a freeze", box.step(), 7);
        Due.is("done", box.done(), 5);
        Due.is("cycle", box.cycle(), 4 + 2 + 8 + 7 + 7);
    }

    private static void stepAtLeastOne() {
        Due.by("at least one, at most 200");
        Rasterbox box = Boxes.ready(600, 0, 0, 0, 0);
        box.poke(600, NOP);
        box.poke(601, NOP);
        box.run(1);
        Due.is("one cycle is left", box.step(), 1);
        Due.is("an instruction that was just done is none", box.step(), 2);
        Due.is("P", box.register(Boxes.P), 602);
    }

    private static void stepAtMost() {
        Due.by("at least one, at most 200");
        for (int column = 8; column < 24; column++) {
            Rasterbox box = Boxes.readyAt(24 * 11 + column, 700, 0, 0, 0, 0);
            box.assemble(700, Boxes.code("isc") + 7, 40);
            box.poke(Boxes.MODE, 0);
            box.poke(Boxes.SPRITES_ON, 15);
            // The sprites have the columns 20 to 23 of the line 11, the letters 0 to 7 of the line 12, which is the row 8.
            int ahead = column < 20 ? 20 - column : 0;
            int due = ahead >= 8 ? 8 : 8 + (column < 20 ? 4 : 24 - column) + 8;
            Due.is("8 cycles from the column " + column, box.step(), due);
        }
        Rasterbox slow = new Rasterbox();
        slow.poke(Boxes.SPRITES_ON, 15);
        slow.poke(Boxes.DOUBLED, 15);
        boolean isAmong = true;
        for (int i = 0; i < 500; i++) {
            int cycles = slow.step();
            isAmong = isAmong && cycles >= 1 && cycles <= 200;
        }
        Due.is("each is from 1 to 200", isAmong, true);
    }

    private static void stepOfAJam() {
        Due.by("Throws `IllegalStateException` if the processor is jammed");
        Rasterbox box = Boxes.ready(600, 0, 0, 0, 0);
        box.poke(600, Boxes.code("jam"));
        Due.is("it jams in 2 cycles", box.step(), 2);
        Due.fails("step", IllegalStateException.class, box::step);
        Due.is("no cycle has passed", box.cycle(), 6);
        box.reset();
        Due.is("behind a reset", box.step(), 2);
        Rasterbox begun = Boxes.ready(600, 0, 0, 0, 0);
        begun.poke(600, Boxes.code("jam"));
        begun.run(1);
        Due.is("it is not jammed yet", begun.step(), 1);
        Due.fails("it is now", IllegalStateException.class, begun::step);
    }

    private static void nextCycle() {
        Due.by("Returns whether the next cycle will be of the picture.");
        Rasterbox box = Boxes.jammedAt(96);
        Due.is("in the mode 0", box.isPictures(), true);
        box.poke(Boxes.MODE, 3);
        Due.is("in the mode 3", box.isPictures(), false);
        box.poke(Boxes.MODE, 1);
        Due.is("in the mode 1", box.isPictures(), true);
        box.poke(Boxes.MODE, 0);
        box.poke(Boxes.SCROLL, 4);
        Due.is("scrolled", box.isPictures(), false);
        Due.is("asking lets no cycle pass", box.cycle(), 96);
        Boxes.runTo(box, 116);
        box.poke(Boxes.SPRITES_ON, 2);
        Due.is("the sprite 0 is off", box.isPictures(), false);
        box.poke(Boxes.SPRITES_ON, 1);
        Due.is("the sprite 0 is on", box.isPictures(), true);
        box.poke(Boxes.SPRITE_Y, 1);
        Due.is("the sprite 0 is lower", box.isPictures(), false);
        Due.is("at first", new Rasterbox().isPictures(), false);
    }

    private static void cyclesUnderWay() {
        Due.by("Returns the number of cycles, 0 if nothing is.");
        Rasterbox box = Boxes.ready(600, 0, 0, 0, 0);
        Due.is("at first", new Rasterbox().underWay(), 0);
        box.assemble(600, Boxes.code("isc") + 7, 40);
        box.poke(602, Boxes.code("jam"));
        for (int left = 7; left >= 0; left--) {
            box.run(1);
            Due.is("of 8", box.underWay(), left);
        }
        box.poke(Boxes.MASK, 1);
        for (int left = 6; left >= 0; left--) {
            box.run(1);
            Due.is("of an interrupt", box.underWay(), left);
        }
        box.poke(Boxes.MASK, 0);
        box.setRegister(Boxes.P, 602);
        box.run(1);
        Due.is("of a jam", box.underWay(), 1);
        box.run(1);
        Due.is("jammed", box.underWay(), 0);
        box.run(9);
        Due.is("jammed later", box.underWay(), 0);
    }
}
