/** Promises 16, 19, 24, 25 and 40 to 42: the picture, and whose cycle it is. */
public final class PictureTest {
    private static final int MODE = 3841;
    private static final int SCROLL = 3842;
    private static final int BACKGROUND = 3843;
    private static final int SCREEN = 3847;
    private static final int LETTERS = 3848;
    private static final int SPRITES_ON = 3857;
    private static final int DOUBLED = 3858;
    private static final int BEHIND = 3859;
    private static final int SPRITE_X = 3860;
    private static final int SPRITE_Y = 3864;
    private static final int SPRITE_COLOUR = 3868;
    private static final int HITS_OF_SPRITES = 3869;
    private static final int HITS_OF_SOLID = 3870;

    private PictureTest() {
    }

    public static void main(String[] args) {
        bits();
        pairs();
        letters();
        lettersGoRound();
        modeThree();
        cyclesOfModeNone();
        cyclesOfOtherModes();
        cyclesOfSprites();
        drawnTwoByTwo();
        writtenInACycleOfDrawing();
        picturedFromRamAlone();
        sprites();
        doubledSprites();
        spriteAtTheEdge();
        spriteBehind();
        hits();
        hitsInPairs();
        hitsAreReadAway();
        againAfterManyFrames();
        againAfterReset();
        neverDrawn();
        share();
        Due.end("PictureTest");
    }

    private static Rasterbox jammed() {
        Rasterbox box = new Rasterbox();
        box.poke(4000, 255);
        box.setRegister(4, 4000);
        box.step();
        return box;
    }

    private static void colours(Rasterbox box) {
        box.poke(BACKGROUND, 9);
        box.poke(BACKGROUND + 1, 4);
        box.poke(BACKGROUND + 2, 5);
        box.poke(BACKGROUND + 3, 6);
    }

    private static void compare(String what, Rasterbox box, int[][] want) {
        int sum = 0;
        for (int y = 0; y < 32; y++) {
            for (int x = 0; x < 32; x++) {
                sum = 31 * sum + want[y][x];
            }
        }
        Due.is(what + ": sum of the picture", box.sumOfPicture(), sum);
        for (int i = 0; i < 90; i++) {
            int x = i * 11 % 32;
            int y = i * 5 % 32;
            Due.is(what + ": pixel " + x + " " + y, box.pixel(x, y), want[y][x]);
            Due.is(what + ": pixel again " + x + " " + y, box.pixelAgain(x, y), want[y][x]);
        }
    }

    private static int dot(int u, int v) {
        return (u * 7 + v * 3 + u * v) % 5 < 2 ? 1 : 0;
    }

    private static void bits() {
        int[] scrolls = {0, 1, 3, 4, 31, 22};
        for (int scroll : scrolls) {
            Rasterbox box = jammed();
            colours(box);
            box.poke(MODE, 1);
            box.poke(SCREEN, 2);
            box.poke(SCROLL, scroll);
            for (int v = 0; v < 32; v++) {
                for (int part = 0; part < 4; part++) {
                    int bits = 0;
                    for (int u = 0; u < 8; u++) {
                        bits = 2 * bits + dot(8 * part + u, v);
                    }
                    box.poke(512 + 4 * v + part, bits);
                }
            }
            box.run(958);
            int[][] want = new int[32][32];
            for (int y = 0; y < 32; y++) {
                for (int x = 0; x < 32; x++) {
                    want[y][x] = dot((x + scroll % 4) % 32, (y + scroll / 4) % 32) == 1 ? 4 : 9;
                }
            }
            compare("bits, scroll " + scroll, box, want);
        }
    }

    private static int pair(int u, int v) {
        return (u * 5 + v * 7 + u * v) % 11 % 4;
    }

    private static void pairs() {
        int[] scrolls = {0, 2, 1, 9, 31};
        int[] colours = {9, 4, 5, 6};
        for (int scroll : scrolls) {
            Rasterbox box = jammed();
            colours(box);
            box.poke(MODE, 2);
            box.poke(SCREEN, 14);
            box.poke(SCROLL, scroll);
            for (int v = 0; v < 32; v++) {
                for (int part = 0; part < 4; part++) {
                    int bits = 0;
                    for (int u = 0; u < 4; u++) {
                        bits = 4 * bits + pair(4 * part + u, v);
                    }
                    box.poke(256 * 14 + 4 * v + part, bits);
                }
            }
            box.run(958);
            int[][] want = new int[32][32];
            for (int y = 0; y < 32; y++) {
                for (int x = 0; x < 32; x++) {
                    want[y][x] = colours[pair((x + scroll % 4) % 32 / 2, (y + scroll / 4) % 32)];
                }
            }
            compare("pairs, scroll " + scroll, box, want);
        }
    }

    /** Eight letters of 4 by 8 pixels. */
    private static int letterDot(int letter, int u, int v) {
        return (letter * 3 + u * 5 + v * 2 + letter * u) % 7 < 3 ? 1 : 0;
    }

    private static int letterOf(int cell) {
        return (cell * 3 + cell / 8) % 8;
    }

    private static void letters() {
        int[] scrolls = {0, 2, 17, 31, 28};
        for (int scroll : scrolls) {
            Rasterbox box = jammed();
            colours(box);
            box.poke(SCREEN, 3);
            box.poke(LETTERS, 4);
            box.poke(SCROLL, scroll);
            for (int cell = 0; cell < 32; cell++) {
                box.poke(768 + cell, 100 + letterOf(cell));
            }
            for (int letter = 0; letter < 8; letter++) {
                for (int v = 0; v < 8; v++) {
                    int bits = 240;
                    for (int u = 0; u < 4; u++) {
                        bits += letterDot(letter, u, v) << 3 - u;
                    }
                    box.poke(1024 + 8 * (100 + letter) + v, bits);
                }
            }
            box.run(958);
            int[][] want = new int[32][32];
            for (int y = 0; y < 32; y++) {
                for (int x = 0; x < 32; x++) {
                    int u = (x + scroll % 4) % 32;
                    int v = (y + scroll / 4) % 32;
                    int cell = 8 * (v / 8) + u / 4;
                    want[y][x] = letterDot(letterOf(cell), u % 4, v % 8) == 1 ? 4 : 9;
                }
            }
            compare("letters, scroll " + scroll, box, want);
        }
    }

    private static void lettersGoRound() {
        Rasterbox box = jammed();
        colours(box);
        box.poke(SCREEN, 3);
        box.poke(LETTERS, 15);
        box.poke(768, 40);
        box.poke((3840 + 8 * 40) % 4096, 8);
        box.run(958);
        Due.is("letters behind the last address", box.pixel(0, 0), 4);
        Due.is("its next pixel", box.pixel(1, 0), 9);
        Due.is("registers are no RAM for the picture", box.pixel(4, 1), 9);
    }

    private static void modeThree() {
        Rasterbox box = jammed();
        colours(box);
        box.poke(MODE, 3);
        for (int i = 0; i < 128; i++) {
            box.poke(i, 255);
        }
        box.run(958);
        compare("mode 3", box, filled(9));
        Due.is("no cycle is of the picture", box.pictures(), 0);
    }

    private static int[][] filled(int colour) {
        int[][] all = new int[32][32];
        for (int y = 0; y < 32; y++) {
            for (int x = 0; x < 32; x++) {
                all[y][x] = colour;
            }
        }
        return all;
    }

    private static void cyclesOfModeNone() {
        for (int row = 0; row < 32; row++) {
            Rasterbox box = new Rasterbox();
            int wanted = row % 8 == 0 ? 1 : 0;
            Due.is("lines 0 to 3", box.run(96), 0);
            if (row > 0) {
                Due.is("rows ahead of " + row, box.run(24 * row), 8 * ((row + 7) / 8));
            }
            for (int column = 0; column < 8; column++) {
                Due.is("is of the picture " + row + " " + column, box.isPictures(), wanted == 1);
                Due.is("run of one " + row + " " + column, box.run(1), wanted);
            }
            Due.is("no more " + row, box.isPictures(), false);
            Due.is("the rest " + row, box.run(16), 0);
        }
        for (int scroll = 0; scroll < 8; scroll++) {
            Rasterbox scrolled = new Rasterbox();
            scrolled.poke(SCROLL, 4 * scroll + 3);
            scrolled.run(96 + 24 * ((8 - scroll) % 8));
            Due.is("first row of letters, scroll " + scroll, scrolled.isPictures(), true);
            Due.is("rows ahead of it have none", scrolled.pictures(), 0);
            scrolled.run(960 - (int) scrolled.cycle());
            Due.is("in a frame", scrolled.pictures(), 32);
            scrolled.run(960);
            Due.is("in two frames", scrolled.pictures(), 64);
        }
    }

    private static void cyclesOfOtherModes() {
        for (int mode = 1; mode <= 3; mode++) {
            Rasterbox box = new Rasterbox();
            box.poke(MODE, mode);
            box.run(96);
            for (int column = 0; column < 24; column++) {
                boolean isOfPicture = mode < 3 && column < 4;
                Due.is("mode " + mode + " column " + column, box.isPictures(), isOfPicture);
                Due.is("mode " + mode + " run " + column, box.run(1), isOfPicture ? 1 : 0);
            }
            Due.is("mode " + mode + " all other lines", box.run(840), mode < 3 ? 124 : 0);
            Due.is("mode " + mode + " a frame", box.pictures(), mode < 3 ? 128 : 0);
        }
        Rasterbox last = new Rasterbox();
        last.poke(MODE, 1);
        last.run(24 * 35);
        Due.is("line 35", last.isPictures(), true);
        last.run(24);
        Due.is("line 36", last.isPictures(), false);
    }

    private static void cyclesOfSprites() {
        for (int sprite = 0; sprite < 4; sprite++) {
            Rasterbox box = new Rasterbox();
            box.poke(MODE, 3);
            box.poke(SPRITES_ON, 1 << sprite);
            box.poke(SPRITE_Y + sprite, 10);
            box.run(24 * 14 + 20 + sprite - 1);
            Due.is("ahead of it " + sprite, box.isPictures(), false);
            box.run(1);
            Due.is("its column " + sprite, box.isPictures(), true);
            Due.is("none before " + sprite, box.pictures(), 0);
            box.run(1);
            Due.is("behind it " + sprite, box.isPictures(), false);
            box.run(960 - (int) box.cycle());
            Due.is("eight rows " + sprite, box.pictures(), 8);
            box.poke(DOUBLED, 1 << sprite);
            Due.is("sixteen rows " + sprite, box.run(960), 16);
            box.poke(SPRITE_Y + sprite, 20);
            Due.is("twelve rows " + sprite, box.run(960), 12);
            box.poke(DOUBLED, 15 - (1 << sprite));
            Due.is("eight rows again " + sprite, box.run(960), 8);
            box.poke(SPRITE_Y + sprite, 32);
            Due.is("below the picture " + sprite, box.run(960), 0);
            box.poke(SPRITES_ON, 15 - (1 << sprite));
            box.poke(SPRITE_Y + sprite, 0);
            Due.is("the other three " + sprite, box.run(960), 3 * 16);
        }
    }

    private static void drawnTwoByTwo() {
        Rasterbox box = jammed();
        box.poke(MODE, 3);
        box.poke(BACKGROUND, 1);
        box.run(98);
        Due.is("cycle", box.cycle(), 100);
        Due.is("nothing is drawn yet", box.pixel(0, 0), 0);
        box.poke(BACKGROUND, 2);
        box.run(1);
        box.poke(BACKGROUND, 3);
        box.run(1);
        box.poke(BACKGROUND, 4);
        box.poke(BACKGROUND, 5);
        box.run(13);
        box.poke(BACKGROUND, 6);
        box.run(1);
        box.poke(BACKGROUND, 7);
        box.run(4);
        box.poke(BACKGROUND, 8);
        int[] want = {2, 2, 3, 3, 5, 5, 5, 5};
        for (int x = 0; x < 8; x++) {
            Due.is("pixel " + x, box.pixel(x, 0), want[x]);
            Due.is("pixel again " + x, box.pixelAgain(x, 0), want[x]);
        }
        Due.is("pixel 29", box.pixel(29, 0), 5);
        Due.is("pixel 30", box.pixel(30, 0), 6);
        Due.is("pixel 31", box.pixel(31, 0), 6);
        Due.is("pixel 31 again", box.pixelAgain(31, 0), 6);
        Due.is("the next row", box.pixel(0, 1), 0);
        Due.is("the next row again", box.pixelAgain(0, 1), 0);
        box.run(5);
        Due.is("pixel 1 of the next row", box.pixel(1, 1), 8);
        Due.is("pixel 2 of the next row", box.pixel(2, 1), 0);
    }

    private static void writtenInACycleOfDrawing() {
        Rasterbox box = new Rasterbox();
        box.poke(MODE, 3);
        box.assemble(512, 0, 7);
        box.assemble(514, 27, BACKGROUND);
        box.poke(517, 255);
        box.run(95);
        for (int i = 0; i < 9 && box.underWay() > 0; i++) {
            box.run(1);
        }
        box.setRegister(4, 512);
        int behind = (int) box.cycle() + 6;
        box.step();
        box.step();
        Due.is("the store ends here", box.cycle(), behind);
        box.run(30);
        int first = 2 * (behind - 1 - 100);
        Due.is("drawn in the cycle of the store", box.pixel(first + 1, 0), 0);
        Due.is("drawn behind it", box.pixel(first + 2, 0), 7);
        Due.is("the same again", box.pixelAgain(first + 1, 0), 0);
        Due.is("and behind it", box.pixelAgain(first + 2, 0), 7);
    }

    private static void picturedFromRamAlone() {
        Rasterbox box = jammed();
        colours(box);
        box.poke(MODE, 1);
        box.poke(SCREEN, 12);
        box.pokeRom(0, 255);
        box.poke(3840, 1);
        box.run(958);
        Due.is("not from the ROM", box.pixel(0, 0), 9);
        Due.is("nor again", box.pixelAgain(0, 0), 9);
        box.poke(3072, 128);
        box.run(960);
        Due.is("from the RAM below", box.pixel(0, 0), 4);
        Due.is("and again", box.pixelAgain(0, 0), 4);
        Due.is("one bit", box.pixel(1, 0), 9);
    }

    private static int shape(int sprite, int p, int q) {
        return (sprite + 3 * p + 5 * q + p * q) % 4 != 0 ? 1 : 0;
    }

    private static void shapes(Rasterbox box, int screen) {
        for (int n = 0; n < 4; n++) {
            for (int q = 0; q < 8; q++) {
                int bits = 0;
                for (int p = 0; p < 8; p++) {
                    bits = 2 * bits + shape(n, p, q);
                }
                box.poke(256 * screen + 128 + 8 * n + q, bits);
            }
        }
    }

    private static boolean covers(int n, int x, int y, int atX, int atY, boolean isDoubled) {
        int wide = isDoubled ? 16 : 8;
        boolean isInside = x >= atX && x < atX + wide && y >= atY && y < atY + wide;
        int size = isDoubled ? 2 : 1;
        return isInside && shape(n, (x - atX) / size, (y - atY) / size) == 1;
    }

    private static void spritePicture(String what, int on, int doubled, int colour, int[] xs, int[] ys) {
        Rasterbox box = jammed();
        box.poke(MODE, 3);
        box.poke(BACKGROUND, 9);
        box.poke(SCREEN, 5);
        shapes(box, 5);
        box.poke(SPRITES_ON, on);
        box.poke(DOUBLED, doubled);
        box.poke(SPRITE_COLOUR, colour);
        for (int n = 0; n < 4; n++) {
            box.poke(SPRITE_X + n, xs[n]);
            box.poke(SPRITE_Y + n, ys[n]);
        }
        box.run(958);
        int together = 0;
        int[][] want = filled(9);
        for (int y = 0; y < 32; y++) {
            for (int x = 0; x < 32; x++) {
                int here = 0;
                for (int n = 3; n >= 0; n--) {
                    boolean isOn = (on >> n & 1) == 1;
                    if (isOn && covers(n, x, y, xs[n], ys[n], (doubled >> n & 1) == 1)) {
                        want[y][x] = (colour + n) % 16;
                        here |= 1 << n;
                    }
                }
                together |= Integer.bitCount(here) > 1 ? here : 0;
            }
        }
        compare(what, box, want);
        Due.is(what + ": hits of sprites", box.peek(HITS_OF_SPRITES), together);
        Due.is(what + ": hits of the solid", box.peek(HITS_OF_SOLID), 0);
    }

    private static void sprites() {
        spritePicture("one sprite", 1, 0, 3, new int[] {5, 0, 0, 0}, new int[] {7, 0, 0, 0});
        spritePicture("four apart", 15, 0, 0, new int[] {0, 9, 20, 24}, new int[] {0, 12, 1, 24});
        spritePicture("over one another", 15, 0, 14, new int[] {4, 7, 9, 11}, new int[] {4, 5, 8, 6});
        spritePicture("two on", 10, 0, 13, new int[] {4, 7, 9, 11}, new int[] {4, 5, 8, 6});
        spritePicture("none on", 0, 15, 13, new int[] {4, 7, 9, 11}, new int[] {4, 5, 8, 6});
    }

    private static void doubledSprites() {
        spritePicture("doubled", 15, 15, 1, new int[] {0, 15, 3, 16}, new int[] {0, 1, 16, 15});
        spritePicture("some doubled", 15, 6, 1, new int[] {3, 5, 8, 2}, new int[] {3, 9, 10, 20});
    }

    private static void spriteAtTheEdge() {
        spritePicture("at the edge", 15, 8, 2, new int[] {31, 32, 28, 25}, new int[] {0, 5, 31, 25});
        spritePicture("outside", 15, 2, 2, new int[] {63, 40, 0, 5}, new int[] {0, 5, 32, 63});
    }

    /** In the mode 1 the left half of the picture is solid, and a sprite lies over both halves. */
    private static Rasterbox halves() {
        Rasterbox box = jammed();
        colours(box);
        box.poke(MODE, 1);
        for (int v = 0; v < 32; v++) {
            box.poke(4 * v, 255);
            box.poke(4 * v + 1, 255);
        }
        for (int q = 0; q < 32; q++) {
            box.poke(128 + q, 255);
        }
        box.poke(SPRITE_COLOUR, 12);
        return box;
    }

    private static void spriteBehind() {
        Rasterbox box = halves();
        box.poke(SPRITES_ON, 3);
        box.poke(SPRITE_X, 12);
        box.poke(SPRITE_Y, 10);
        box.poke(SPRITE_X + 1, 14);
        box.poke(SPRITE_Y + 1, 10);
        box.run(958);
        Due.is("ahead of the solid", box.pixel(12, 10), 12);
        Due.is("the lowest number", box.pixel(15, 10), 12);
        Due.is("the other one", box.pixel(21, 10), 13);
        box.poke(BEHIND, 1);
        box.run(960);
        Due.is("behind the solid", box.pixel(12, 10), 4);
        Due.is("the one behind hides the other one", box.pixel(15, 10), 4);
        Due.is("ahead of the background", box.pixel(16, 10), 12);
        Due.is("again, behind the solid", box.pixelAgain(15, 10), 4);
        Due.is("again, ahead of the background", box.pixelAgain(16, 10), 12);
        box.poke(BEHIND, 2);
        box.run(960);
        Due.is("the other one is behind", box.pixel(15, 10), 12);
        box.poke(SPRITES_ON, 2);
        box.run(960);
        Due.is("alone and behind", box.pixel(15, 10), 4);
        Due.is("alone, not on the solid", box.pixel(16, 10), 13);
    }

    private static void hits() {
        Rasterbox box = halves();
        box.poke(SPRITES_ON, 1);
        box.poke(SPRITE_X, 16);
        box.poke(SPRITE_Y, 8);
        box.run(958);
        Due.is("beside the solid", box.peek(HITS_OF_SOLID), 0);
        box.poke(SPRITE_X, 15);
        box.run(960);
        Due.is("on the solid", box.peek(HITS_OF_SOLID), 1);
        Due.is("one sprite hits no other", box.peek(HITS_OF_SPRITES), 0);
        box.poke(SPRITES_ON, 10);
        box.poke(SPRITE_X + 1, 20);
        box.poke(SPRITE_X + 3, 27);
        box.run(960);
        Due.is("two hit one another", box.peek(HITS_OF_SPRITES), 10);
        Due.is("hits stay", box.peek(HITS_OF_SOLID), 1);
        box.poke(SPRITE_X + 3, 28);
        box.poke(SPRITES_ON, 8);
        box.poke(BEHIND, 8);
        box.poke(SPRITE_X + 3, 3);
        box.run(960);
        Due.is("one behind hits too", box.peek(HITS_OF_SOLID), 9);
        Due.is("hits of sprites stay", box.peek(HITS_OF_SPRITES), 10);
        box.reset();
        Due.is("a reset clears them", box.peek(HITS_OF_SOLID) + box.peek(HITS_OF_SPRITES), 0);
    }

    private static void hitsInPairs() {
        for (int value = 0; value < 4; value++) {
            Rasterbox box = jammed();
            box.poke(MODE, 2);
            box.poke(4 * 20 + 1, 85 * value);
            box.poke(SPRITES_ON, 4);
            box.poke(SPRITE_X + 2, 8);
            box.poke(SPRITE_Y + 2, 20);
            box.poke(128 + 16, 255);
            box.run(958);
            Due.is("the value " + value + " is solid", box.peek(HITS_OF_SOLID), value >= 2 ? 4 : 0);
        }
    }

    private static void hitsAreReadAway() {
        Rasterbox box = new Rasterbox();
        box.poke(MODE, 1);
        box.poke(SPRITES_ON, 3);
        box.poke(128, 255);
        box.poke(136, 255);
        box.poke(0, 255);
        box.assemble(700, 157, 700);
        box.setRegister(4, 700);
        box.run(300);
        box.poke(SPRITES_ON, 0);
        box.step();
        int behind = box.assemble(600, 27, HITS_OF_SOLID);
        behind = box.assemble(behind, 3, HITS_OF_SPRITES);
        box.assemble(behind, 115, HITS_OF_SOLID);
        box.setRegister(4, 600);
        Due.is("the hits", box.peek(HITS_OF_SPRITES) + 16 * box.peek(HITS_OF_SOLID), 51);
        Due.is("peek has no effect", box.peek(HITS_OF_SPRITES) + 16 * box.peek(HITS_OF_SOLID), 51);
        box.step();
        Due.is("a store does not read", box.peek(HITS_OF_SOLID), 3);
        box.step();
        Due.is("hits of sprites were read", box.register(0), 3);
        Due.is("and are 0", box.peek(HITS_OF_SPRITES), 0);
        Due.is("the others stay", box.peek(HITS_OF_SOLID), 3);
        box.step();
        Due.is("inc has read the others", box.status() & 2, 0);
        Due.is("which are 0 then", box.peek(HITS_OF_SOLID), 0);
    }

    private static void againAfterManyFrames() {
        Rasterbox box = jammed();
        box.poke(MODE, 1);
        box.poke(BACKGROUND, 1);
        for (int frame = 0; frame < 4; frame++) {
            for (int part = 0; part < 10; part++) {
                box.poke(BACKGROUND, (frame + part) % 16);
                box.poke(BACKGROUND + 1, (frame * 3 + part * 5) % 16);
                box.poke(4 * (part * 3 % 32), frame * 37 % 256);
                box.run(101);
                int x = (frame * 7 + part * 3) % 32;
                for (int y = 1; y < 32; y += 10) {
                    Due.is("frame " + frame + " part " + part, box.pixelAgain(x % 8, y), box.pixel(x % 8, y));
                }
            }
        }
    }

    private static void againAfterReset() {
        Rasterbox box = jammed();
        box.poke(MODE, 3);
        box.poke(BACKGROUND, 7);
        box.run(500);
        box.reset();
        Due.is("the picture stays", box.pixel(3, 10), 7);
        Due.is("the picture stays, again", box.pixelAgain(3, 10), 7);
        box.run(460);
        Due.is("below the reset", box.pixel(3, 30), 0);
        Due.is("below the reset, again", box.pixelAgain(3, 30), 0);
        Due.is("above the reset, again", box.pixelAgain(3, 10), 7);
        box.run(960);
        Due.is("a frame later", box.pixel(3, 10), 0);
        Due.is("a frame later, again", box.pixelAgain(3, 10), 0);
    }

    private static void neverDrawn() {
        Rasterbox box = new Rasterbox();
        box.poke(BACKGROUND, 3);
        Due.is("not drawn", box.pixel(31, 31), 0);
        Due.is("not drawn, again", box.pixelAgain(31, 31), 0);
        box.run(300);
        Due.is("not drawn yet", box.pixel(31, 31), 0);
        Due.is("not drawn yet, again", box.pixelAgain(31, 31), 0);
        Due.is("drawn", box.pixelAgain(0, 0), 3);
    }

    private static void share() {
        Rasterbox box = jammed();
        box.poke(MODE, 3);
        Due.exactly("all of the background", box.solidShare(), 0);
        box.poke(BACKGROUND, 1);
        Due.exactly("as it is now", box.solidShare(), 1);
        box.run(99);
        Due.exactly("two pixels are drawn", box.solidShare(), (float) 1022 / (float) 1024);
        box.run(859);
        Due.exactly("all", box.solidShare(), 0);
        box.poke(MODE, 1);
        box.poke(BACKGROUND + 1, 1);
        box.poke(0, 255);
        box.run(960);
        Due.exactly("solid, but as the background", box.solidShare(), 0);
        box.poke(BACKGROUND + 1, 2);
        box.run(960);
        Due.exactly("eight pixels", box.solidShare(), 0.0078125);
        Due.is("a sum", box.sumOfPicture() != 0, true);
    }
}
