/** Every sentence on pixels and sprites that names an edge, and the promises 24, 25, 40 and 42. */
public final class PixelEdgesTest {
    private static final Class<IndexOutOfBoundsException> INDEX = IndexOutOfBoundsException.class;

    private PixelEdgesTest() {
    }

    public static void main(String[] args) {
        blackAtFirst();
        columnsOfDrawing();
        linesOfDrawing();
        moduloLeft();
        moduloUpwards();
        pagesOfScreenAndLetters();
        cellsOfLetters();
        dotsOfLetters();
        bitsOfModeOne();
        pairsOfModeTwo();
        modeThree();
        coloursOfModeTwo();
        solidInModeTwo();
        solidInModesNoneAndOne();
        coveredFromTo();
        coveredWhenDoubled();
        coveredAtTheEdges();
        bitsOfSprites();
        lowestSprite();
        colourModulo();
        behindWhatIsSolid();
        twoOrMore();
        solidHits();
        hitsStay();
        solidHitsStay();
        drawnLast();
        noSuchPixel();
        againInTheFrame();
        againInTheFrameBefore();
        againAtTheEndOfAFrame();
        againWithoutWrites();
        againBehindAReset();
        againWhileAProgramWrites();
        sum();
        share();
        Due.end("PixelEdgesTest");
    }

    /** A machine in a mode whose background is 9 and whose colours are 4, 5 and 6, with the screen 512. */
    private static Rasterbox painter(int mode) {
        Rasterbox box = Boxes.jammed();
        box.poke(Boxes.MODE, mode);
        box.poke(Boxes.SCREEN, 2);
        box.poke(Boxes.BACKGROUND, 9);
        for (int colour = 1; colour < 4; colour++) {
            box.poke(Boxes.BACKGROUND + colour, 3 + colour);
        }
        return box;
    }

    private static void frame(Rasterbox box) {
        box.run(960 - (int) (box.cycle() % 960));
    }

    private static int others(Rasterbox box) {
        return (int) (1024 * box.solidShare());
    }

    private static void blackAtFirst() {
        Due.by("The picture has 32 rows of 32 pixels, 0 at first.");
        Rasterbox box = new Rasterbox();
        for (int i = 0; i < 32; i++) {
            Due.is("diagonal " + i, box.pixel(i, i), 0);
            Due.is("other diagonal " + i, box.pixel(i, 31 - i), 0);
        }
        Due.is("all", box.sumOfPicture(), 0);
    }

    private static void columnsOfDrawing() {
        Due.by("In the columns 4 to 19 of a line with a row, the two pixels with x as twice the column minus 8, and that plus 1, are drawn, in this order.");
        for (int row : new int[] {0, 31}) {
            Rasterbox box = Boxes.jammed();
            box.poke(Boxes.MODE, 3);
            Boxes.runTo(box, 24 * (row + 4));
            for (int column = 0; column < 24; column++) {
                int x = 2 * column - 8;
                box.poke(Boxes.BACKGROUND, column % 15 + 1);
                int before = box.sumOfPicture();
                box.run(1);
                boolean isDrawing = column >= 4 && column <= 19;
                Due.is("draws in the column " + column, box.sumOfPicture() != before, isDrawing);
                if (isDrawing) {
                    Due.is("the first one of the column " + column, box.pixel(x, row), column % 15 + 1);
                    Due.is("the second one of the column " + column, box.pixel(x + 1, row), column % 15 + 1);
                }
                if (column >= 4 && column < 19) {
                    Due.is("the next one is not drawn, column " + column, box.pixel(x + 2, row), 0);
                }
            }
        }
    }

    private static void linesOfDrawing() {
        Due.by("In the columns 4 to 19 of a line with a row");
        Rasterbox box = Boxes.jammed();
        box.poke(Boxes.MODE, 3);
        box.poke(Boxes.BACKGROUND, 1);
        Boxes.runTo(box, 96);
        Due.is("the lines 0 to 3 draw nothing", box.sumOfPicture(), 0);
        Boxes.runTo(box, 960 - 96);
        int sum = box.sumOfPicture();
        Due.is("the row 31 is drawn", box.pixel(31, 31), 1);
        box.poke(Boxes.BACKGROUND, 2);
        box.run(96);
        Due.is("the lines 36 to 39 draw nothing", box.sumOfPicture(), sum);
    }

    private static void moduloLeft() {
        Due.by("Let u be x plus the scroll to the left, and v the row plus the scroll upwards, both modulo 32");
        int[][] cases = {{0, 0, 0}, {1, 0, 31}, {2, 0, 30}, {3, 0, 29}, {1, 31, 30}, {3, 31, 28}, {3, 2, 31}, {3, 3, 0}};
        for (int[] one : cases) {
            Rasterbox box = painter(1);
            box.poke(512 + one[1] / 8, 128 >> one[1] % 8);
            box.poke(Boxes.SCROLL, one[0]);
            frame(box);
            Due.is("u " + one[1] + " by " + one[0], box.pixel(one[2], 0), 4);
            Due.is("it alone, u " + one[1] + " by " + one[0], others(box), 1);
        }
    }

    private static void moduloUpwards() {
        Due.by("Let u be x plus the scroll to the left, and v the row plus the scroll upwards, both modulo 32");
        int[][] cases = {{0, 31, 31}, {1, 0, 31}, {7, 0, 25}, {7, 31, 24}, {7, 6, 31}, {7, 7, 0}, {3, 0, 29}};
        for (int[] one : cases) {
            Rasterbox box = painter(1);
            box.poke(512 + 4 * one[1], 128);
            box.poke(Boxes.SCROLL, 4 * one[0]);
            frame(box);
            Due.is("v " + one[1] + " by " + one[0], box.pixel(0, one[2]), 4);
            Due.is("it alone, v " + one[1] + " by " + one[0], others(box), 1);
        }
    }

    private static void pagesOfScreenAndLetters() {
        Due.by("let the screen be 256 times its page, the letters 256 times theirs");
        for (int page : new int[] {0, 1, 14, 15}) {
            Rasterbox screen = painter(1);
            screen.poke(Boxes.SCREEN, page);
            screen.poke(256 * page + 127, 1);
            screen.poke(256 * page + 128 + 31, 128);
            screen.poke(Boxes.SPRITES_ON, 8);
            screen.poke(Boxes.SPRITE_COLOUR, 3);
            frame(screen);
            Due.is("the last byte of the screen " + page, screen.pixel(31, 31), 4);
            Due.is("the last byte of the sprites of " + page, screen.pixel(0, 7), 6);
            Due.is("no others of " + page, others(screen), 2);
            Rasterbox letters = painter(0);
            letters.poke(Boxes.LETTERS, page);
            letters.poke(512, 31);
            letters.poke(256 * page + 255, 8);
            frame(letters);
            Due.is("the last byte of the letter 31 of " + page, letters.pixel(0, 7), 4);
            Due.is("no others by the letters " + page, others(letters), 1);
        }
    }

    private static void cellsOfLetters() {
        Due.by("In the mode 0, the letter is the byte at the screen plus 8 * (v / 8) + u / 4");
        for (int cell : new int[] {0, 1, 7, 8, 15, 24, 31}) {
            Rasterbox box = painter(0);
            box.poke(Boxes.LETTERS, 4);
            box.poke(512 + cell, 1);
            box.poke(512 + 32, 1);
            box.poke(511, 1);
            for (int v = 0; v < 8; v++) {
                box.poke(1024 + 8 + v, 15);
            }
            frame(box);
            int x = cell % 8 * 4;
            int y = cell / 8 * 8;
            Due.is("upper left of " + cell, box.pixel(x, y), 4);
            Due.is("upper right of " + cell, box.pixel(x + 3, y), 4);
            Due.is("lower left of " + cell, box.pixel(x, y + 7), 4);
            Due.is("lower right of " + cell, box.pixel(x + 3, y + 7), 4);
            Due.is("no others of " + cell, others(box), 32);
        }
    }

    private static void dotsOfLetters() {
        Due.by("the pixel is the bit 3 - u % 4 of the byte at the letters plus 8 * letter + v % 8");
        int[][] cases = {{8, 0}, {4, 1}, {2, 2}, {1, 3}};
        for (int[] one : cases) {
            for (int v : new int[] {0, 7}) {
                Rasterbox box = painter(0);
                box.poke(Boxes.LETTERS, 4);
                box.poke(512, 255);
                box.poke(1024 + 8 * 255 + v, 240 + one[0]);
                frame(box);
                Due.is("bit " + one[0] + " of " + v, box.pixel(one[1], v), 4);
                Due.is("no other by bit " + one[0] + " of " + v, others(box), 1);
            }
        }
        Rasterbox lower = painter(0);
        lower.poke(Boxes.LETTERS, 4);
        lower.poke(512 + 31, 255);
        lower.poke(1024 + 8 * 255 + 7, 1);
        frame(lower);
        Due.is("the last dot of the last letter", lower.pixel(31, 31), 4);
    }

    private static void bitsOfModeOne() {
        Due.by("In the mode 1, it is the bit 7 - u % 8 of the byte at the screen plus 4 * v + u / 8.");
        int[][] cases = {{0, 128, 0, 0}, {0, 1, 7, 0}, {1, 128, 8, 0}, {3, 1, 31, 0}, {4, 128, 0, 1}, {124, 128, 0, 31}, {127, 1, 31, 31}};
        for (int[] one : cases) {
            Rasterbox box = painter(1);
            box.poke(512 + one[0], one[1]);
            frame(box);
            Due.is("byte " + one[0] + " bit " + one[1], box.pixel(one[2], one[3]), 4);
            Due.is("no other by byte " + one[0], others(box), 1);
        }
        Rasterbox beyond = painter(1);
        beyond.poke(512 + 128, 255);
        beyond.poke(511, 255);
        frame(beyond);
        Due.is("128 bytes", others(beyond), 0);
    }

    private static void pairsOfModeTwo() {
        Due.by("In the mode 2, it is the two bits of this byte whose lower one is 6 - 2 * (u % 8 / 2).");
        int[] colours = {9, 9, 4, 4, 5, 5, 6, 6};
        for (int part : new int[] {0, 3, 124, 127}) {
            Rasterbox box = painter(2);
            box.poke(512 + part, 27);
            frame(box);
            for (int u = 0; u < 8; u++) {
                Due.is("byte " + part + " u " + u, box.pixel(part % 4 * 8 + u, part / 4), colours[u]);
            }
            Due.is("no other by byte " + part, others(box), 6);
        }
        Rasterbox odd = painter(2);
        odd.poke(512, 192);
        odd.poke(Boxes.SCROLL, 1);
        frame(odd);
        Due.is("a pair is cut by the scroll, left", odd.pixel(31, 0), 6);
        Due.is("a pair is cut by the scroll, right", odd.pixel(0, 0), 6);
        Due.is("a pair", others(odd), 2);
    }

    private static void modeThree() {
        Due.by("In the mode 3, it is 0.");
        Rasterbox box = painter(3);
        for (int i = 0; i < 160; i++) {
            box.poke(512 + i, 255);
        }
        frame(box);
        Due.is("the background", box.pixel(0, 0), 9);
        Due.is("all of it", others(box), 0);
        box.poke(Boxes.SPRITES_ON, 1);
        box.poke(Boxes.BEHIND, 1);
        frame(box);
        Due.is("nothing is solid", others(box), 64);
        Due.is("nothing solid is hit", box.peek(Boxes.HITS_OF_SOLID), 0);
    }

    private static void coloursOfModeTwo() {
        Due.by("It has the background for 0, and the colour 1 to 3 otherwise");
        Rasterbox box = painter(2);
        box.poke(512, 27);
        box.poke(Boxes.BACKGROUND, 15);
        box.poke(Boxes.BACKGROUND + 1, 0);
        box.poke(Boxes.BACKGROUND + 2, 14);
        box.poke(Boxes.BACKGROUND + 3, 1);
        frame(box);
        Due.is("0", box.pixel(0, 0), 15);
        Due.is("1", box.pixel(2, 0), 0);
        Due.is("2", box.pixel(4, 0), 14);
        Due.is("3", box.pixel(6, 0), 1);
    }

    private static void solidInModeTwo() {
        Due.by("it is solid if it is 1 in the modes 0 and 1, or 2 or 3 in the mode 2");
        for (int value = 0; value < 4; value++) {
            Rasterbox box = painter(2);
            box.poke(512, 85 * value);
            box.poke(512 + 128, 255);
            box.poke(Boxes.SPRITES_ON, 1);
            box.poke(Boxes.BEHIND, 1);
            box.poke(Boxes.SPRITE_COLOUR, 12);
            frame(box);
            Due.is("the sprite behind " + value, box.pixel(0, 0), value < 2 ? 12 : 3 + value);
            Due.is("hits of " + value, box.peek(Boxes.HITS_OF_SOLID), value < 2 ? 0 : 1);
        }
    }

    private static void solidInModesNoneAndOne() {
        Due.by("it is solid if it is 1 in the modes 0 and 1, or 2 or 3 in the mode 2");
        for (int mode = 0; mode < 2; mode++) {
            for (int value = 0; value < 2; value++) {
                Rasterbox box = painter(mode);
                box.poke(Boxes.LETTERS, 4);
                box.poke(512, mode == 0 ? 1 : 128 * value);
                box.poke(1024 + 8, 8 * value);
                box.poke(512 + 128, 128);
                box.poke(Boxes.SPRITES_ON, 1);
                box.poke(Boxes.BEHIND, 1);
                box.poke(Boxes.SPRITE_COLOUR, 12);
                frame(box);
                Due.is("mode " + mode + ", the sprite behind " + value, box.pixel(0, 0), value == 0 ? 12 : 4);
                Due.is("mode " + mode + ", hits of " + value, box.peek(Boxes.HITS_OF_SOLID), value);
            }
        }
    }

    /** A machine in the mode 3 with one full sprite of the colour 3. */
    private static Rasterbox full(int n, int x, int y, boolean isDoubled) {
        Rasterbox box = painter(3);
        box.poke(Boxes.SPRITE_COLOUR, 3);
        box.poke(Boxes.SPRITES_ON, 1 << n);
        box.poke(Boxes.DOUBLED, isDoubled ? 1 << n : 15 - (1 << n));
        box.poke(Boxes.SPRITE_X + n, x);
        box.poke(Boxes.SPRITE_Y + n, y);
        for (int q = 0; q < 8; q++) {
            box.poke(512 + 128 + 8 * n + q, 255);
        }
        frame(box);
        return box;
    }

    private static void inside(String what, Rasterbox box, int colour, int left, int top, int right, int bottom) {
        for (int y = top - 1; y <= bottom + 1; y++) {
            for (int x = left - 1; x <= right + 1; x++) {
                boolean isOn = x >= left && x <= right && y >= top && y <= bottom;
                boolean isEdge = x <= left || x >= right || y <= top || y >= bottom;
                if (isEdge && x >= 0 && x < 32 && y >= 0 && y < 32) {
                    Due.is(what + " at " + x + " " + y, box.pixel(x, y), isOn ? colour : 9);
                }
            }
        }
        Due.is(what + ", all that is covered", others(box), (right - left + 1) * (bottom - top + 1));
    }

    private static void coveredFromTo() {
        Due.by("A sprite n that is on covers a pixel if, with p as x minus its x and q as the row minus its y");
        for (int n = 0; n < 4; n++) {
            inside("sprite " + n, full(n, 10, 12, false), 3 + n, 10, 12, 17, 19);
        }
    }

    private static void coveredWhenDoubled() {
        Due.by("both divided by 2 and rounded down if it is doubled");
        for (int n = 0; n < 4; n++) {
            inside("doubled sprite " + n, full(n, 10, 12, true), 3 + n, 10, 12, 25, 27);
        }
        inside("a doubled sprite at an odd place", full(0, 9, 13, true), 3, 9, 13, 24, 28);
    }

    private static void coveredAtTheEdges() {
        Due.by("p and q are from 0 to 7");
        inside("0 0", full(0, 0, 0, false), 3, 0, 0, 7, 7);
        inside("24 24", full(0, 24, 24, false), 3, 24, 24, 31, 31);
        inside("25 26", full(0, 25, 26, false), 3, 25, 26, 31, 31);
        inside("31 31", full(0, 31, 31, false), 3, 31, 31, 31, 31);
        inside("doubled 16 16", full(0, 16, 16, true), 3, 16, 16, 31, 31);
        inside("doubled 31 17", full(0, 31, 17, true), 3, 31, 17, 31, 31);
        Due.is("x 32", others(full(0, 32, 0, false)), 0);
        Due.is("y 32", others(full(0, 0, 32, false)), 0);
        Due.is("x 63", others(full(0, 63, 0, true)), 0);
        Due.is("y 63", others(full(0, 0, 63, true)), 0);
        Due.is("x 64 is 0", others(full(0, 64, 0, false)), 64);
    }

    private static void bitsOfSprites() {
        Due.by("the bit 7 - p of the byte at the screen plus 128 + 8 * n + q is 1");
        for (int n = 0; n < 4; n++) {
            for (int p = 0; p < 8; p += 7) {
                for (int q = 0; q < 8; q += 7) {
                    Rasterbox box = painter(3);
                    box.poke(Boxes.SPRITE_COLOUR, 3);
                    box.poke(512 + 128 + 8 * n + q, 128 >> p);
                    box.poke(Boxes.SPRITES_ON, 15);
                    frame(box);
                    Due.is("sprite " + n + " dot " + p + " " + q, box.pixel(p, q), 3 + n);
                    Due.is("no other dot of " + n, others(box), 1);
                    box.poke(Boxes.DOUBLED, 15);
                    frame(box);
                    Due.is("doubled, first dot of " + n, box.pixel(2 * p, 2 * q), 3 + n);
                    Due.is("doubled, last dot of " + n, box.pixel(2 * p + 1, 2 * q + 1), 3 + n);
                    Due.is("four dots of " + n, others(box), 4);
                    box.poke(Boxes.SPRITES_ON, 15 - (1 << n));
                    frame(box);
                    Due.is("it is off, " + n, others(box), 0);
                }
            }
        }
        Rasterbox beyond = painter(3);
        beyond.poke(512 + 127, 255);
        beyond.poke(512 + 160, 255);
        beyond.poke(Boxes.SPRITES_ON, 15);
        frame(beyond);
        Due.is("32 bytes", others(beyond), 0);
    }

    /** A machine with sprites of one dot at 0 0, on the value 0 or 1 of the mode 1. */
    private static Rasterbox stacked(int on, int behind, int value) {
        Rasterbox box = painter(1);
        box.poke(512, 128 * value);
        for (int n = 0; n < 4; n++) {
            box.poke(512 + 128 + 8 * n, 128);
        }
        box.poke(Boxes.SPRITE_COLOUR, 11);
        box.poke(Boxes.SPRITES_ON, on);
        box.poke(Boxes.BEHIND, behind);
        frame(box);
        return box;
    }

    private static void lowestSprite() {
        Due.by("If sprites cover the pixel, that with the lowest number is seen");
        for (int on = 0; on < 16; on++) {
            int seen = on == 0 ? 9 : 11 + Integer.numberOfTrailingZeros(on);
            Due.is("sprites " + on, stacked(on, 0, 0).pixel(0, 0), seen);
        }
    }

    private static void colourModulo() {
        Due.by("with the colour of the register 28 plus its number, modulo 16");
        int[][] cases = {{15, 0, 15}, {15, 1, 0}, {15, 3, 2}, {13, 3, 0}, {12, 3, 15}, {0, 3, 3}};
        for (int[] one : cases) {
            Rasterbox box = painter(3);
            box.poke(512 + 128 + 8 * one[1], 128);
            box.poke(Boxes.SPRITES_ON, 15);
            box.poke(Boxes.SPRITE_COLOUR, one[0]);
            frame(box);
            Due.is("colour " + one[0] + " plus " + one[1], box.pixel(0, 0), one[2]);
        }
    }

    private static void behindWhatIsSolid() {
        Due.by("unless it is behind and the pixel is solid");
        Due.is("behind, solid", stacked(1, 1, 1).pixel(0, 0), 4);
        Due.is("behind, not solid", stacked(1, 1, 0).pixel(0, 0), 11);
        Due.is("not behind, solid", stacked(1, 14, 1).pixel(0, 0), 11);
        Due.is("the lowest is behind, the next one is not seen instead", stacked(3, 1, 1).pixel(0, 0), 4);
        Due.is("the next one is behind", stacked(3, 2, 1).pixel(0, 0), 11);
        Due.is("the lowest that covers counts", stacked(6, 1, 1).pixel(0, 0), 12);
        for (int n = 0; n < 4; n++) {
            Due.is("its own bit " + n, stacked(1 << n, 1 << n, 1).pixel(0, 0), 4);
            Due.is("the bits of the others " + n, stacked(1 << n, 15 - (1 << n), 1).pixel(0, 0), 11 + n);
        }
    }

    private static void twoOrMore() {
        Due.by("If two or more cover it, the bits of all of these are set in the register 29");
        for (int on = 0; on < 16; on++) {
            int due = Integer.bitCount(on) > 1 ? on : 0;
            Due.is("sprites " + on, stacked(on, 0, 0).peek(Boxes.HITS_OF_SPRITES), due);
            Due.is("sprites " + on + " behind", stacked(on, 15, 1).peek(Boxes.HITS_OF_SPRITES), due);
        }
        Rasterbox beside = painter(3);
        beside.poke(512 + 128, 255);
        beside.poke(512 + 136, 255);
        beside.poke(Boxes.SPRITES_ON, 3);
        beside.poke(Boxes.SPRITE_X, 8);
        frame(beside);
        Due.is("side by side", beside.peek(Boxes.HITS_OF_SPRITES), 0);
        beside.poke(Boxes.SPRITE_X, 7);
        frame(beside);
        Due.is("one pixel in common", beside.peek(Boxes.HITS_OF_SPRITES), 3);
        Rasterbox hollow = painter(3);
        hollow.poke(512 + 128, 170);
        hollow.poke(512 + 136, 85);
        hollow.poke(Boxes.SPRITES_ON, 3);
        frame(hollow);
        Due.is("dots between dots", hollow.peek(Boxes.HITS_OF_SPRITES), 0);
        int[] edges = {31, 32};
        for (int x : edges) {
            Rasterbox edge = painter(3);
            edge.poke(512 + 128, 255);
            edge.poke(512 + 136, 255);
            edge.poke(Boxes.SPRITES_ON, 3);
            edge.poke(Boxes.SPRITE_X, x);
            edge.poke(Boxes.SPRITE_X + 1, x);
            frame(edge);
            Due.is("both at " + x, edge.peek(Boxes.HITS_OF_SPRITES), x < 32 ? 3 : 0);
        }
    }

    private static void solidHits() {
        Due.by("if it is solid, those of all that cover it are set in the register 30");
        for (int on = 0; on < 16; on++) {
            Due.is("solid, sprites " + on, stacked(on, 0, 1).peek(Boxes.HITS_OF_SOLID), on);
            Due.is("solid, sprites " + on + " behind", stacked(on, 15, 1).peek(Boxes.HITS_OF_SOLID), on);
            Due.is("not solid, sprites " + on, stacked(on, 0, 0).peek(Boxes.HITS_OF_SOLID), 0);
        }
    }

    private static void hitsStay() {
        Due.by("the bits of all of these are set in the register 29");
        Rasterbox box = painter(3);
        for (int n = 0; n < 4; n++) {
            box.poke(512 + 128 + 8 * n, 128);
        }
        box.poke(Boxes.SPRITES_ON, 3);
        frame(box);
        Due.is("two", box.peek(Boxes.HITS_OF_SPRITES), 3);
        box.poke(Boxes.SPRITES_ON, 12);
        frame(box);
        Due.is("two more, in another frame", box.peek(Boxes.HITS_OF_SPRITES), 15);
        box.poke(Boxes.SPRITES_ON, 0);
        frame(box);
        Due.is("they stay", box.peek(Boxes.HITS_OF_SPRITES), 15);
    }

    private static void solidHitsStay() {
        Due.by("those of all that cover it are set in the register 30");
        Rasterbox box = painter(1);
        box.poke(512, 128);
        for (int n = 0; n < 4; n++) {
            box.poke(512 + 128 + 8 * n, 128);
        }
        int all = 0;
        for (int n : new int[] {2, 0, 3, 1}) {
            box.poke(Boxes.SPRITES_ON, 1 << n);
            frame(box);
            all |= 1 << n;
            Due.is("behind the sprite " + n, box.peek(Boxes.HITS_OF_SOLID), all);
        }
        box.poke(Boxes.SPRITES_ON, 0);
        frame(box);
        Due.is("they stay", box.peek(Boxes.HITS_OF_SOLID), 15);
        Due.is("never two at once", box.peek(Boxes.HITS_OF_SPRITES), 0);
    }

    private static void drawnLast() {
        Due.by("Returns a pixel as it was drawn last.");
        Rasterbox box = painter(3);
        frame(box);
        box.poke(Boxes.BACKGROUND, 2);
        Due.is("the frame before", box.pixel(0, 0) * 10 + box.pixel(31, 31), 99);
        Boxes.runTo(box, 960 + 96 + 5);
        Due.is("drawn again", box.pixel(1, 0), 2);
        Due.is("not yet drawn again", box.pixel(2, 0), 9);
        Due.is("the last one", box.pixel(31, 31), 9);
        frame(box);
        Due.is("the last one is drawn again", box.pixel(31, 31), 2);
    }

    private static void noSuchPixel() {
        Due.by("Throws `IndexOutOfBoundsException` if there is no such pixel");
        Rasterbox box = painter(3);
        frame(box);
        for (int none : new int[] {-1, 32, Integer.MIN_VALUE, Integer.MAX_VALUE}) {
            Due.fails("pixel x " + none, INDEX, () -> box.pixel(none, 0));
            Due.fails("pixel y " + none, INDEX, () -> box.pixel(0, none));
            Due.fails("pixelAgain x " + none, INDEX, () -> box.pixelAgain(none, 0));
            Due.fails("pixelAgain y " + none, INDEX, () -> box.pixelAgain(0, none));
        }
        for (int i = 0; i < 4; i++) {
            int x = 31 * (i % 2);
            int y = 31 * (i / 2);
            Due.is("corner " + x + " " + y, box.pixel(x, y), 9);
            Due.is("corner again " + x + " " + y, box.pixelAgain(x, y), 9);
        }
    }

    private static void againInTheFrame() {
        Due.by("Returns the same, found from what RAM and registers were at the beginning of the frame in which it was drawn last, and what was written since.");
        Rasterbox never = new Rasterbox();
        Due.is("never drawn", never.pixelAgain(0, 0) + never.pixelAgain(31, 31), 0);
        Rasterbox box = painter(1);
        Boxes.runTo(box, 100);
        Due.is("not yet drawn", box.pixelAgain(0, 0), 0);
        box.poke(512, 128);
        Due.is("written ahead of drawing, but not yet drawn", box.pixelAgain(0, 0), 0);
        box.run(1);
        Due.is("drawn", box.pixelAgain(0, 0), 4);
        box.poke(512, 0);
        box.poke(Boxes.BACKGROUND + 1, 1);
        box.poke(Boxes.MODE, 3);
        Due.is("written behind drawing", box.pixelAgain(0, 0), 4);
        Due.is("which is the same", box.pixel(0, 0), 4);
        Due.is("the other one of the cycle", box.pixelAgain(1, 0), 9);
        Due.is("the next one is not drawn", box.pixelAgain(2, 0), 0);
    }

    private static void againInTheFrameBefore() {
        Due.by("found from what RAM and registers were at the beginning of the frame in which it was drawn last");
        Rasterbox box = painter(1);
        box.poke(512, 128);
        box.poke(512 + 127, 1);
        frame(box);
        box.poke(512, 0);
        box.poke(512 + 127, 0);
        Due.is("the first one of the frame before", box.pixelAgain(0, 0), 4);
        Due.is("the last one of the frame before", box.pixelAgain(31, 31), 4);
        Boxes.runTo(box, 960 + 101);
        Due.is("the first one is drawn again", box.pixelAgain(0, 0), 9);
        Due.is("the last one is not", box.pixelAgain(31, 31), 4);
        frame(box);
        Due.is("now it is", box.pixelAgain(31, 31), 9);
        for (int i = 0; i < 3; i++) {
            frame(box);
        }
        Due.is("some frames later", box.pixelAgain(0, 0) + box.pixelAgain(31, 31), 18);
    }

    private static void againAtTheEndOfAFrame() {
        Due.by("found from what RAM and registers were at the beginning of the frame in which it was drawn last, and what was written since");
        for (int cycle = 958; cycle <= 962; cycle++) {
            Rasterbox box = painter(3);
            Boxes.runTo(box, cycle);
            box.poke(Boxes.BACKGROUND, 2);
            Due.is("drawn ahead of it, by " + cycle, box.pixelAgain(0, 0), 9);
            Boxes.runTo(box, 960 + 101);
            Due.is("drawn behind it, by " + cycle, box.pixelAgain(0, 0), 2);
            Due.is("the last one, by " + cycle, box.pixelAgain(31, 31), 9);
        }
    }

    private static void againWithoutWrites() {
        Due.by("found from what RAM and registers were at the beginning of the frame in which it was drawn last");
        Rasterbox box = new Rasterbox();
        box.poke(Boxes.BACKGROUND, 1);
        box.poke(Boxes.MODE, 3);
        box.poke(0, Boxes.code("jam"));
        for (int frame = 0; frame < 6; frame++) {
            Boxes.runTo(box, 960 * frame + 200);
            if (frame < 4) {
                box.poke(Boxes.BACKGROUND, frame + 2);
            }
            Boxes.runTo(box, 960 * (frame + 1));
            Due.is("the upper part of the frame " + frame, box.pixelAgain(0, 0), frame < 4 ? frame + 1 : 5);
            Due.is("the lower part of the frame " + frame, box.pixelAgain(31, 31), frame < 4 ? frame + 2 : 5);
        }
    }

    private static void againBehindAReset() {
        Due.by("Returns the same, found from what RAM and registers were");
        Rasterbox box = painter(1);
        box.poke(512, 255);
        Boxes.runTo(box, 102);
        box.reset();
        box.poke(Boxes.MODE, 3);
        box.poke(Boxes.BACKGROUND, 3);
        Boxes.runTo(box, 104);
        box.reset();
        Boxes.runTo(box, 106);
        int[] due = {4, 4, 4, 4, 3, 3, 3, 3, 0, 0, 0, 0};
        for (int x = 0; x < 12; x++) {
            Due.is("x " + x, box.pixel(x, 0), due[x]);
            Due.is("again, x " + x, box.pixelAgain(x, 0), due[x]);
        }
        Rasterbox scrolled = painter(1);
        scrolled.poke(512, 240);
        scrolled.poke(Boxes.SCROLL, 31);
        Boxes.runTo(scrolled, 100);
        scrolled.reset();
        scrolled.run(2);
        Due.is("all registers are 0", scrolled.pixelAgain(0, 0) + scrolled.pixelAgain(3, 0), 0);
    }

    private static void againWhileAProgramWrites() {
        Due.by("Returns the same, found from what RAM and registers were at the beginning of the frame in which it was drawn last, and what was written since.");
        Rasterbox box = Boxes.ready(600, 0, 0, 0, 0);
        int behind = box.assemble(600, Boxes.code("inc") + 3, Boxes.BACKGROUND);
        behind = box.assemble(behind, Boxes.code("inc") + 3, Boxes.BACKGROUND + 1);
        behind = box.assemble(behind, Boxes.code("inc") + 3, 512 + 41);
        behind = box.assemble(behind, Boxes.code("inc") + 3, Boxes.SPRITE_X);
        box.assemble(behind, Boxes.code("jmp"), 600);
        box.poke(Boxes.MODE, 1);
        box.poke(Boxes.SCREEN, 2);
        box.poke(Boxes.SPRITES_ON, 1);
        box.poke(Boxes.DOUBLED, 1);
        for (int q = 0; q < 8; q++) {
            box.poke(512 + 128 + q, 90 + q);
        }
        for (int i = 0; i < 40; i++) {
            box.run(251);
            for (int k = 0; k < 5; k++) {
                int x = (i * 7 + k * 11) % 32;
                int y = (i * 5 + k * 7) % 32;
                Due.is("pixel " + x + " " + y, box.pixelAgain(x, y), box.pixel(x, y));
            }
        }
    }

    private static void sum() {
        Due.by("it begins with 0, and for each pixel, row by row, becomes 31 times itself plus the pixel, as an int");
        int[][] cases = {{31, 31}, {30, 31}, {31, 30}, {0, 0}, {1, 0}, {0, 1}};
        for (int[] one : cases) {
            Rasterbox box = painter(1);
            box.poke(Boxes.BACKGROUND, 0);
            box.poke(512 + 4 * one[1] + one[0] / 8, 128 >> one[0] % 8);
            frame(box);
            int due = 4;
            for (int i = 32 * one[1] + one[0]; i < 1023; i++) {
                due *= 31;
            }
            Due.is("one dot at " + one[0] + " " + one[1], box.sumOfPicture(), due);
        }
        Due.is("at first", new Rasterbox().sumOfPicture(), 0);
        Rasterbox all = Boxes.jammed();
        all.poke(Boxes.MODE, 3);
        all.poke(Boxes.BACKGROUND, 15);
        frame(all);
        int due = 0;
        for (int i = 0; i < 1024; i++) {
            due = 31 * due + 15;
        }
        Due.is("all 15", all.sumOfPicture(), due);
    }

    private static void share() {
        Due.by("Returns the share of the pixels that are not of the background as it is now.");
        Due.exactly("at first", new Rasterbox().solidShare(), 0);
        Rasterbox black = new Rasterbox();
        black.poke(Boxes.BACKGROUND, 1);
        Due.exactly("all are 0, the background is 1", black.solidShare(), 1);
        Rasterbox box = painter(1);
        box.poke(512, 1);
        frame(box);
        Due.exactly("one of 1024", box.solidShare(), (float) 1 / (float) 1024);
        box.poke(Boxes.BACKGROUND, 4);
        Due.exactly("all but one", box.solidShare(), (float) 1023 / (float) 1024);
        box.poke(Boxes.BACKGROUND, 5);
        Due.exactly("all", box.solidShare(), 1);
    }
}
