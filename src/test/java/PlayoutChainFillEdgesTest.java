/**
 * The sentences that name a boundary: promises 27 to 30, and the level that a gap is filled by.
 * The last value that is allowed and the first that is not, nothing there yet and no room left, each exception.
 */
public final class PlayoutChainFillEdgesTest extends ChainChecks {
    public static void main(String[] args) {
        fillGapAndLevel();
        fillChoices();
        fillByFewest();
        fillByDeviation();
        fillByLowerNumber();
        fillOfToday();
        levelAheadOfTheGap();
        fillAt();
        deviation();
        end("PlayoutChainFillEdgesTest");
    }

    private static void gapIsRefused(int gap, int level) {
        refuses(ARGUMENT, () -> x.fill(gap, level));
        refuses(ARGUMENT, () -> x.fillByTrying(gap, level));
        refuses(ARGUMENT, () -> x.fillAt(gap, level, 0));
        refuses(ARGUMENT, () -> x.deviation(gap, level));
    }

    private static void fillGapAndLevel() {
        sentence("promises 27 to 30: a gap from 1");
        piece(1, -20);
        filledBy(1, -20, 0);
        is(x.deviation(1, -20), 0f);
        gapIsRefused(0, -20);
        gapIsRefused(-1, -20);
        gapIsRefused(MIN, -20);
        sentence("promises 27 to 30: a gap to 3600");
        for (int i = 0; i < 5; i++) {
            piece(900, -20);
        }
        filledBy(3600, -20, 0, 1, 2, 3);
        is(x.deviation(3600, -20), 0f);
        gapIsRefused(3601, -20);
        gapIsRefused(4500, -20);
        gapIsRefused(MAX, -20);
        sentence("promises 27 to 30: a level from -60");
        piece(10, -20);
        filledBy(10, -60, 0);
        is(x.deviation(10, -60), 40f);
        gapIsRefused(10, -61);
        gapIsRefused(10, MIN);
        sentence("promises 27 to 30: a level to 0");
        piece(10, -20);
        filledBy(10, 0, 0);
        is(x.deviation(10, 0), 20f);
        gapIsRefused(10, 1);
        gapIsRefused(10, MAX);
        sentence("promises 27 to 30: no such choice, without pieces");
        notFilled(1, -20);
        notFilled(3600, -20);
        programme(10);
        notFilled(10, -20);
        sentence("promises 27 to 30: IllegalArgumentException is listed ahead of NoSuchElementException");
        piece(10, -20);
        gapIsRefused(0, -20);
        gapIsRefused(3601, -20);
        gapIsRefused(11, -61);
        gapIsRefused(11, 1);
        refuses(ARGUMENT, () -> x.fillAt(10, 1, 1));
        refuses(ARGUMENT, () -> x.fillAt(10, -61, -1));
        refuses(ARGUMENT, () -> x.fillAt(0, -20, -1));
    }

    private static void fillChoices() {
        sentence("promise 27: lengths that add up exactly, not to one second more or less");
        piece(10, -20);
        notFilled(9, -20);
        filledBy(10, -20, 0);
        notFilled(11, -20);
        sentence("promise 27: different pieces, none of them twice");
        piece(10, -20);
        notFilled(20, -20);
        piece(10, -20);
        filledBy(20, -20, 0, 1);
        notFilled(30, -20);
        sentence("promise 27: all 8 pieces, and not a second more");
        for (int i = 0; i < 8; i++) {
            piece(1 << i, -20);
        }
        filledBy(255, -20, 0, 1, 2, 3, 4, 5, 6, 7);
        filledBy(254, -20, 1, 2, 3, 4, 5, 6, 7);
        filledBy(129, -20, 0, 7);
        notFilled(256, -20);
        sentence("promise 27: all pieces are longer than the gap");
        piece(10, -20);
        piece(900, -20);
        notFilled(9, -20);
        sentence("promise 27: all pieces together are shorter than the longest gap");
        for (int i = 0; i < 8; i++) {
            piece(449 + i % 2, -20);
        }
        notFilled(3600, -20);
        filledBy(3596, -20, 0, 1, 2, 3, 4, 5, 6, 7);
        sentence("promise 27: a gap for which there is no choice is slate as a whole");
        programme(100);
        piece(10, -20);
        append(0, 'p', 11);
        is(onAir(), "-1@0+11 0@11+100 -1@111+3489");
        sentence("promise 27: in the order of their numbers");
        piece(30, -20);
        programme(10);
        piece(10, -20);
        piece(20, -20);
        filledBy(60, -20, 0, 2, 3);
        append(1, 'p', 60);
        is(onAir(), "0@0+30 2@30+10 3@40+20 1@60+10 -1@70+3530");
        sentence("promise 27: a piece fills one gap after another");
        programme(100);
        piece(10, -20);
        append(0, 'p', 10);
        append(0, 'p', 120);
        is(onAir(), "1@0+10 0@10+100 1@110+10 0@120+100 -1@220+3380");
    }

    private static void fillByFewest() {
        sentence("promise 27: one piece, not two");
        piece(10, -20);
        piece(20, -20);
        piece(30, -60);
        filledBy(30, -20, 2);
        sentence("promise 27: two pieces, not three");
        piece(10, -20);
        piece(20, -20);
        piece(30, -20);
        piece(25, -60);
        piece(35, -60);
        filledBy(60, -20, 3, 4);
        sentence("promise 27: seven pieces, not eight");
        for (int i = 0; i < 7; i++) {
            piece(100, -20);
        }
        piece(100, -60);
        filledBy(700, -20, 0, 1, 2, 3, 4, 5, 6);
        filledBy(700, -60, 0, 1, 2, 3, 4, 5, 7);
        filledBy(800, -20, 0, 1, 2, 3, 4, 5, 6, 7);
        sentence("promise 27: fewer pieces of the higher numbers");
        piece(1, -20);
        piece(2, -20);
        piece(3, -20);
        piece(4, -20);
        piece(5, -20);
        piece(7, -20);
        piece(8, -20);
        piece(15, -20);
        filledBy(15, -20, 7);
        filledBy(22, -20, 5, 7);
        filledBy(30, -20, 5, 6, 7);
        filledBy(45, -20, 0, 1, 2, 3, 4, 5, 6, 7);
    }

    private static void fillByDeviation() {
        sentence("promise 30: the least deviation, above and below the level");
        piece(10, -30);
        piece(10, -22);
        piece(10, -17);
        filledBy(10, -20, 1);
        filledBy(10, -19, 2);
        filledBy(10, -26, 0);
        filledBy(10, -25, 1);
        sentence("promise 30: the absolute value of the deviation");
        piece(10, -10);
        is(x.deviation(10, -25), 15f);
        is(x.deviation(10, -5), 5f);
        is(x.deviation(10, -10), 0f);
        sentence("promise 30: divided by the length of the gap");
        piece(7, -13);
        piece(3, -19);
        is(x.deviation(10, -15), Math.abs((-13f * 7f - 19f * 3f) / 10f + 15f));
        is(x.deviation(10, -14), Math.abs((-13f * 7f - 19f * 3f) / 10f + 14f));
        sentence("promise 30: found in float, in which these two differ and -25 / 3 is nearer to -8 than -23 / 3");
        piece(2, -8);
        piece(1, -7);
        piece(1, -9);
        filledBy(3, -8, 0, 2);
        is(x.deviation(3, -8), Math.abs(-25f / 3f + 8f));
        sentence("promise 30: found in float when the air is filled");
        piece(2, -8);
        piece(1, -7);
        piece(1, -9);
        x.addProgramme(10, -8, 9, 0, 999);
        append(3, 'f', 0);
        append(3, 'p', 13);
        is(onAir(), "3@0+10 0@10+2 2@12+1 3@13+10 -1@23+3577");
        sentence("promise 30: the length weighs the level");
        piece(90, -20);
        piece(10, -40);
        piece(10, -20);
        piece(90, -40);
        filledBy(100, -22, 0, 1);
        filledBy(100, -38, 2, 3);
        filledBy(100, -20, 0, 2);
    }

    private static void fillByLowerNumber() {
        sentence("promise 29: the lower number, of one piece");
        piece(10, -20);
        piece(10, -20);
        filledBy(10, -20, 0);
        sentence("promise 29: the lower number, of as much above the level as below it");
        piece(10, -21);
        piece(10, -19);
        filledBy(10, -20, 0);
        sentence("promise 29: the lower number, of as much below the level as above it");
        piece(10, -19);
        piece(10, -21);
        filledBy(10, -20, 0);
        sentence("promise 29: the lower number, where the first piece differs");
        piece(20, -20);
        piece(10, -20);
        piece(40, -20);
        piece(30, -20);
        filledBy(50, -20, 0, 3);
        sentence("promise 29: the lower number, where the second piece differs");
        piece(10, -20);
        piece(20, -20);
        piece(20, -20);
        filledBy(30, -20, 0, 1);
        sentence("promise 29: the lower number, where the last piece differs");
        piece(10, -20);
        piece(11, -20);
        piece(20, -20);
        piece(20, -20);
        filledBy(41, -20, 0, 1, 2);
        sentence("promise 29: the first of 70 choices, more of which there cannot be");
        for (int i = 0; i < 8; i++) {
            piece(900, -20);
        }
        filledBy(3600, -20, 0, 1, 2, 3);
        sentence("promise 30: the last of 70 choices, more of which there cannot be");
        for (int i = 0; i < 8; i++) {
            piece(900, i < 4 ? -60 : 0);
        }
        filledBy(3600, 0, 4, 5, 6, 7);
        filledBy(3600, -60, 0, 1, 2, 3);
        is(x.deviation(3600, 0), 0f);
        is(x.deviation(3600, -60), 0f);
        sentence("promise 29: the lower number first, although the others are higher");
        piece(10, -20);
        piece(20, -20);
        piece(25, -20);
        piece(30, -20);
        piece(35, -20);
        piece(45, -20);
        filledBy(55, -20, 0, 5);
    }

    private static void fillOfToday() {
        sentence("promise 27: a piece on its first and on its last day, and not beside them");
        x.addPiece(10, -20, 1, 2);
        notFilled(10, -20);
        x.air();
        filledBy(10, -20, 0);
        x.air();
        filledBy(10, -20, 0);
        x.air();
        notFilled(10, -20);
        sentence("promise 27: a piece of the day 0 alone, in the air");
        programme(100);
        x.addPiece(10, -20, 0, 0);
        append(0, 'p', 10);
        is(onAir(), "1@0+10 0@10+100 -1@110+3490");
        x.air();
        is(onAir(), "-1@0+10 0@10+100 -1@110+3490");
        sentence("promise 27: a piece that is added fills at once");
        programme(100);
        append(0, 'p', 10);
        is(x.airAt(0), -1);
        piece(10, -20);
        is(x.airAt(0), 1);
        filledBy(10, -20, 1);
        sentence("promise 27: a piece that is not of today is in no choice");
        x.addPiece(10, -20, 1, 999);
        x.addPiece(10, -20, 0, 999);
        x.addPiece(20, -20, 1, 999);
        filledBy(10, -20, 1);
        notFilled(20, -20);
        x.air();
        filledBy(10, -20, 0);
        filledBy(20, -20, 2);
    }

    private static void levelAheadOfTheGap() {
        sentence("promise 16: the level is -23 if there is no event ahead, not -24");
        programme(100);
        piece(10, -20);
        piece(10, -26);
        append(0, 'p', 10);
        is(x.spanClip(0), 1);
        sentence("promise 16: the level is -23 if there is no event ahead, not -22");
        programme(100);
        piece(10, -19);
        piece(10, -26);
        append(0, 'p', 10);
        is(x.spanClip(0), 2);
        sentence("promise 16: the level is -23 if the events ahead are barred");
        x.addProgramme(100, -60, 0, 0, 999);
        programme(100);
        piece(10, -60);
        piece(10, -23);
        append(0, 'f', 0);
        append(1, 'p', 10);
        is(x.spanClip(0), 3);
        sentence("promise 16: the level of the event ahead");
        x.addProgramme(100, -60, 9, 0, 999);
        piece(10, -23);
        piece(10, -60);
        append(0, 'f', 0);
        append(0, 'p', 110);
        is(x.spanClip(1), 2);
        sentence("promise 16: the level of the latest event ahead, not of the first");
        x.addProgramme(100, -60, 9, 0, 999);
        x.addProgramme(100, -10, 9, 0, 999);
        piece(10, -60);
        piece(10, -10);
        append(0, 'f', 0);
        append(1, 'f', 0);
        append(0, 'p', 210);
        is(x.spanClip(2), 3);
        sentence("promise 16: an event that is not joined is not the latest one");
        x.addProgramme(100, -60, 9, 0, 999);
        x.addProgramme(100, -10, 9, 0, 999);
        piece(10, -10);
        piece(10, -60);
        append(0, 'f', 0);
        append(1, 'j', 0);
        append(0, 'p', 110);
        is(x.spanClip(1), 3);
        sentence("promise 16: an event that joins is the latest one");
        x.addProgramme(100, -60, 9, 0, 999);
        x.addProgramme(100, -10, 9, 0, 999);
        piece(10, -60);
        piece(10, -10);
        append(0, 'f', 0);
        append(1, 'j', 1);
        append(0, 'p', 111);
        is(x.spanClip(2), 3);
        sentence("promise 16: an event that is cut away is not the latest one");
        x.addProgramme(100, -60, 9, 0, 999);
        x.addProgramme(100, -10, 9, 0, 999);
        x.addProgramme(100, -35, 9, 0, 999);
        piece(10, -10);
        piece(10, -35);
        append(0, 'f', 0);
        append(1, 'f', 0);
        append(2, 'c', 100);
        append(0, 'p', 210);
        is(fates(), "axaa");
        is(x.spanClip(2), 4);
        sentence("promise 16: an event behind the gap in the list is not ahead of it");
        x.addProgramme(100, -60, 9, 0, 999);
        x.addProgramme(100, -10, 9, 0, 999);
        piece(10, -10);
        piece(10, -60);
        append(0, 'f', 0);
        append(1, 'p', 110);
        append(1, 'f', 0);
        is(x.spanClip(1), 3);
        sentence("promise 16: a piece is no event whose level counts");
        x.addProgramme(100, -60, 9, 0, 999);
        piece(10, -23);
        piece(20, -60);
        piece(20, -23);
        append(0, 'p', 10);
        append(0, 'p', 130);
        is(onAir(), "1@0+10 0@10+100 2@110+20 0@130+100 -1@230+3370");
        sentence("promise 16: the level of the latest event ahead of the rest of the day");
        x.addProgramme(900, -60, 9, 0, 999);
        piece(900, -23);
        piece(900, -60);
        append(0, 'f', 0);
        append(0, 'f', 0);
        append(0, 'f', 0);
        is(x.spanClip(3), 2);
        sentence("promise 16: an event that is cut away behind the rest of the day's start is not the latest one");
        x.addProgramme(900, -60, 9, 0, 999);
        x.addProgramme(899, -10, 9, 0, 999);
        piece(1, -10);
        piece(1, -60);
        for (int i = 0; i < 4; i++) {
            append(0, 'f', 0);
        }
        append(1, 'f', 0);
        append(0, 'c', 2699);
        is(fates(), "aacxxa");
        is(x.spanClip(x.spans() - 1), 3);
    }

    private static void fillAt() {
        sentence("promise 29: no such piece");
        piece(10, -20);
        piece(20, -20);
        is(x.fillAt(30, -20, 0), 0);
        is(x.fillAt(30, -20, 1), 1);
        refuses(NONE, () -> x.fillAt(30, -20, 2));
        refuses(NONE, () -> x.fillAt(30, -20, -1));
        refuses(NONE, () -> x.fillAt(30, -20, MIN));
        refuses(NONE, () -> x.fillAt(30, -20, MAX));
        refuses(NONE, () -> x.fillAt(10, -20, 1));
        sentence("promise 29: the last of 8 pieces");
        for (int i = 0; i < 8; i++) {
            piece(10, -20);
        }
        is(x.fillAt(80, -20, 7), 7);
        refuses(NONE, () -> x.fillAt(80, -20, 8));
        sentence("promise 29: no such choice");
        piece(10, -20);
        refuses(NONE, () -> x.fillAt(11, -20, 0));
        refuses(NONE, () -> x.fillAt(11, -20, -1));
        sentence("promise 29: the number of the clip, not the one among the pieces");
        programme(10);
        x.addPiece(10, -20, 1, 1);
        programme(10);
        piece(10, -20);
        is(x.fillAt(10, -20, 0), 3);
    }

    private static void deviation() {
        sentence("promise 30: no such choice");
        refuses(NONE, () -> x.deviation(10, -20));
        piece(10, -20);
        is(x.deviation(10, -20), 0f);
        refuses(NONE, () -> x.deviation(9, -20));
        refuses(NONE, () -> x.deviation(11, -20));
        refuses(NONE, () -> x.deviation(20, -20));
        sentence("promise 30: the greatest deviations");
        piece(10, -60);
        piece(20, 0);
        is(x.deviation(10, 0), 60f);
        is(x.deviation(20, -60), 60f);
        sentence("promise 30: of the choice that fills the gap, not of another one");
        piece(10, -20);
        piece(20, -20);
        piece(30, -60);
        is(x.deviation(30, -20), 40f);
    }
}
