/**
 * The sentences that name a boundary: promises 1 to 5, a new object and its clips.
 * The last value that is allowed and the first that is not, nothing there yet and no room left, each exception.
 */
public final class PlayoutChainClipEdgesTest extends ChainChecks {
    public static void main(String[] args) {
        newObject();
        addProgramme();
        addPiece();
        plays();
        addPlays();
        end("PlayoutChainClipEdgesTest");
    }

    private static void newObject() {
        sentence("promise 1: without clips");
        refuses(INDEX, () -> x.plays(0));
        refuses(INDEX, () -> x.addPlays(0, 1));
        refuses(INDEX, () -> x.insert(0, 0, 'f', 0));
        refuses(INDEX, () -> x.aired(0));
        is(programme(10), 0);
        sentence("promise 1: without events");
        is(x.events(), 0);
        programme(10);
        refuses(INDEX, () -> x.remove(0));
        refuses(INDEX, () -> x.move(0, 0));
        refuses(INDEX, () -> x.setOverrun(0, 0));
        refuses(INDEX, () -> x.attach(0, 's', 0, 1));
        refuses(INDEX, () -> x.programme(0));
        refuses(INDEX, () -> x.fate(0));
        refuses(INDEX, () -> x.startOf(0));
        refuses(INDEX, () -> x.endOf(0));
        refuses(INDEX, () -> x.secondaryStart(0, 0));
        sentence("promise 1: on the day 0");
        is(x.today(), 0);
        sentence("promise 1: no day was aired");
        is(x.entries(), 0);
        refuses(INDEX, () -> x.entryClip(0));
        refuses(INDEX, () -> x.entryStart(0));
        refuses(NONE, () -> x.apart());
        sentence("promise 1: all of the air is slate");
        is(onAir(), "-1@0+3600");
        is(x.slate(), 3600);
        is(x.airAt(0), -1);
        is(x.airBySeconds(0), -1);
        is(x.airAt(3599), -1);
        is(x.airBySeconds(3599), -1);
        is(x.showing(0), 0);
        is(x.showing(3599), 0);
        refuses(NONE, () -> x.meanLevel());
        refuses(NONE, () -> x.meanLevelBits());
        sentence("promise 1: no piece fills a gap");
        notFilled(1, -23);
        notFilled(3600, -23);
        sentence("promise 1: an object has nothing of another one");
        PlayoutChain other = new PlayoutChain();
        programme(100);
        append(0, 'f', 0);
        x.air();
        is(other.events(), 0);
        is(other.today(), 0);
        is(other.entries(), 0);
        is(other.slate(), 3600);
        is(other.addPiece(10, -20, 0, 0), 0);
    }

    private static void addProgramme() {
        sentence("promise 2: numbers 0 to n - 1 in the order in which they were added");
        is(programme(10), 0);
        is(piece(10, -20), 1);
        is(programme(10), 2);
        is(piece(20, -20), 3);
        is(x.plays(2), 99);
        refuses(UNSUPPORTED, () -> x.plays(1));
        refuses(UNSUPPORTED, () -> x.plays(3));
        refuses(INDEX, () -> x.plays(4));
        sentence("promise 2: at most 12 clips, all of them programmes");
        for (int i = 0; i < 12; i++) {
            is(programme(10 + i), i);
        }
        refuses(STATE, () -> x.addProgramme(10, -20, 1, 0, 999));
        append(11, 'f', 0);
        is(x.endOf(0), 21);
        sentence("promise 2: at most 12 clips, 8 of them pieces");
        for (int i = 0; i < 8; i++) {
            is(piece(10, -20), i);
        }
        for (int i = 8; i < 12; i++) {
            is(programme(10), i);
        }
        refuses(STATE, () -> x.addProgramme(10, -20, 1, 0, 999));
        sentence("promise 2: a length from 1");
        is(x.addProgramme(1, -20, 1, 0, 999), 0);
        append(0, 'f', 0);
        is(x.endOf(0), 1);
        refuses(ARGUMENT, () -> x.addProgramme(0, -20, 1, 0, 999));
        refuses(ARGUMENT, () -> x.addProgramme(-1, -20, 1, 0, 999));
        refuses(ARGUMENT, () -> x.addProgramme(MIN, -20, 1, 0, 999));
        sentence("promise 2: a length to 900");
        is(x.addProgramme(900, -20, 1, 0, 999), 0);
        append(0, 'f', 0);
        is(x.endOf(0), 900);
        refuses(ARGUMENT, () -> x.addProgramme(901, -20, 1, 0, 999));
        refuses(ARGUMENT, () -> x.addProgramme(MAX, -20, 1, 0, 999));
        sentence("promise 2: a level from -60");
        is(x.addProgramme(10, -60, 1, 0, 999), 0);
        append(0, 'f', 0);
        is(x.meanLevel(), -60f);
        refuses(ARGUMENT, () -> x.addProgramme(10, -61, 1, 0, 999));
        refuses(ARGUMENT, () -> x.addProgramme(10, MIN, 1, 0, 999));
        sentence("promise 2: a level to 0");
        is(x.addProgramme(10, 0, 1, 0, 999), 0);
        append(0, 'f', 0);
        is(x.meanLevel(), 0f);
        refuses(ARGUMENT, () -> x.addProgramme(10, 1, 1, 0, 999));
        refuses(ARGUMENT, () -> x.addProgramme(10, MAX, 1, 0, 999));
        sentence("promise 2: a first day from 0");
        is(x.addProgramme(10, -20, 1, 0, 5), 0);
        refuses(ARGUMENT, () -> x.addProgramme(10, -20, 1, -1, 5));
        refuses(ARGUMENT, () -> x.addProgramme(10, -20, 1, MIN, 5));
        sentence("promise 2: a first day to 999");
        is(x.addProgramme(10, -20, 1, 999, 999), 0);
        refuses(ARGUMENT, () -> x.addProgramme(10, -20, 1, 1000, 1000));
        refuses(ARGUMENT, () -> x.addProgramme(10, -20, 1, 1000, 999));
        sentence("promise 2: a last day from 0");
        is(x.addProgramme(10, -20, 1, 0, 0), 0);
        refuses(ARGUMENT, () -> x.addProgramme(10, -20, 1, -1, -1));
        refuses(ARGUMENT, () -> x.addProgramme(10, -20, 1, 0, -1));
        sentence("promise 2: a last day to 999");
        is(x.addProgramme(10, -20, 1, 5, 999), 0);
        refuses(ARGUMENT, () -> x.addProgramme(10, -20, 1, 5, 1000));
        refuses(ARGUMENT, () -> x.addProgramme(10, -20, 1, 5, MAX));
        sentence("promise 2: the last day is ahead of the first one");
        is(x.addProgramme(10, -20, 1, 5, 5), 0);
        refuses(ARGUMENT, () -> x.addProgramme(10, -20, 1, 5, 4));
        refuses(ARGUMENT, () -> x.addProgramme(10, -20, 1, 999, 0));
        sentence("promise 2: the plays are between 0 and 99");
        is(x.addProgramme(10, -20, 0, 0, 999), 0);
        is(x.addProgramme(10, -20, 99, 0, 999), 1);
        is(x.plays(0), 0);
        is(x.plays(1), 99);
        refuses(ARGUMENT, () -> x.addProgramme(10, -20, -1, 0, 999));
        refuses(ARGUMENT, () -> x.addProgramme(10, -20, 100, 0, 999));
        refuses(ARGUMENT, () -> x.addProgramme(10, -20, MIN, 0, 999));
        refuses(ARGUMENT, () -> x.addProgramme(10, -20, MAX, 0, 999));
        sentence("promise 2: IllegalArgumentException is listed ahead of IllegalStateException");
        for (int i = 0; i < 12; i++) {
            programme(10);
        }
        refuses(ARGUMENT, () -> x.addProgramme(0, -20, 1, 0, 999));
        refuses(ARGUMENT, () -> x.addProgramme(901, -20, 1, 0, 999));
        refuses(ARGUMENT, () -> x.addProgramme(10, -61, 1, 0, 999));
        refuses(ARGUMENT, () -> x.addProgramme(10, 1, 1, 0, 999));
        refuses(ARGUMENT, () -> x.addProgramme(10, -20, -1, 0, 999));
        refuses(ARGUMENT, () -> x.addProgramme(10, -20, 100, 0, 999));
        refuses(ARGUMENT, () -> x.addProgramme(10, -20, 1, -1, 999));
        refuses(ARGUMENT, () -> x.addProgramme(10, -20, 1, 0, 1000));
        refuses(ARGUMENT, () -> x.addProgramme(10, -20, 1, 6, 5));
    }

    private static void addPiece() {
        sentence("promise 3: at most 8 pieces");
        for (int i = 0; i < 8; i++) {
            is(piece(10 + i, -20), i);
        }
        refuses(STATE, () -> x.addPiece(10, -20, 0, 999));
        filledBy(17, -20, 7);
        is(programme(10), 8);
        refuses(STATE, () -> x.addPiece(10, -20, 0, 999));
        sentence("promise 3: programmes are not counted as pieces");
        for (int i = 0; i < 4; i++) {
            is(programme(10), i);
        }
        for (int i = 4; i < 12; i++) {
            is(piece(10 + i, -20), i);
        }
        filledBy(21, -20, 11);
        refuses(STATE, () -> x.addPiece(10, -20, 0, 999));
        sentence("promise 3: pieces whose days are over are counted as pieces");
        for (int i = 0; i < 8; i++) {
            is(x.addPiece(10, -20, 0, 0), i);
        }
        x.air();
        refuses(STATE, () -> x.addPiece(10, -20, 0, 999));
        sentence("promise 3: at most 12 clips");
        for (int i = 0; i < 11; i++) {
            programme(10);
        }
        is(piece(10, -20), 11);
        refuses(STATE, () -> x.addPiece(10, -20, 0, 999));
        refuses(STATE, () -> x.addProgramme(10, -20, 1, 0, 999));
        sentence("promise 3: a length from 1");
        is(x.addPiece(1, -20, 0, 999), 0);
        filledBy(1, -20, 0);
        refuses(ARGUMENT, () -> x.addPiece(0, -20, 0, 999));
        refuses(ARGUMENT, () -> x.addPiece(-1, -20, 0, 999));
        refuses(ARGUMENT, () -> x.addPiece(MIN, -20, 0, 999));
        sentence("promise 3: a length to 900");
        is(x.addPiece(900, -20, 0, 999), 0);
        filledBy(900, -20, 0);
        refuses(ARGUMENT, () -> x.addPiece(901, -20, 0, 999));
        refuses(ARGUMENT, () -> x.addPiece(MAX, -20, 0, 999));
        sentence("promise 3: a level from -60");
        is(x.addPiece(10, -60, 0, 999), 0);
        is(x.deviation(10, 0), 60f);
        refuses(ARGUMENT, () -> x.addPiece(10, -61, 0, 999));
        refuses(ARGUMENT, () -> x.addPiece(10, MIN, 0, 999));
        sentence("promise 3: a level to 0");
        is(x.addPiece(10, 0, 0, 999), 0);
        is(x.deviation(10, -60), 60f);
        refuses(ARGUMENT, () -> x.addPiece(10, 1, 0, 999));
        refuses(ARGUMENT, () -> x.addPiece(10, MAX, 0, 999));
        sentence("promise 3: a first day from 0");
        is(x.addPiece(10, -20, 0, 5), 0);
        refuses(ARGUMENT, () -> x.addPiece(10, -20, -1, 5));
        refuses(ARGUMENT, () -> x.addPiece(10, -20, MIN, 5));
        sentence("promise 3: a first day to 999");
        is(x.addPiece(10, -20, 999, 999), 0);
        refuses(ARGUMENT, () -> x.addPiece(10, -20, 1000, 1000));
        refuses(ARGUMENT, () -> x.addPiece(10, -20, 1000, 999));
        sentence("promise 3: a last day from 0");
        is(x.addPiece(10, -20, 0, 0), 0);
        refuses(ARGUMENT, () -> x.addPiece(10, -20, -1, -1));
        refuses(ARGUMENT, () -> x.addPiece(10, -20, 0, -1));
        sentence("promise 3: a last day to 999");
        is(x.addPiece(10, -20, 5, 999), 0);
        refuses(ARGUMENT, () -> x.addPiece(10, -20, 5, 1000));
        refuses(ARGUMENT, () -> x.addPiece(10, -20, 5, MAX));
        sentence("promise 3: the last day is ahead of the first one");
        is(x.addPiece(10, -20, 5, 5), 0);
        refuses(ARGUMENT, () -> x.addPiece(10, -20, 5, 4));
        refuses(ARGUMENT, () -> x.addPiece(10, -20, 999, 0));
        addPieceOrder("promise 3: IllegalArgumentException is listed ahead of that for 12 clips", 12, 0);
        addPieceOrder("promise 3: IllegalArgumentException is listed ahead of that for 8 pieces", 0, 8);
    }

    private static void addPieceOrder(String text, int programmes, int pieces) {
        sentence(text);
        for (int i = 0; i < programmes; i++) {
            programme(10);
        }
        for (int i = 0; i < pieces; i++) {
            piece(10, -20);
        }
        refuses(ARGUMENT, () -> x.addPiece(0, -20, 0, 999));
        refuses(ARGUMENT, () -> x.addPiece(901, -20, 0, 999));
        refuses(ARGUMENT, () -> x.addPiece(10, -61, 0, 999));
        refuses(ARGUMENT, () -> x.addPiece(10, 1, 0, 999));
        refuses(ARGUMENT, () -> x.addPiece(10, -20, -1, 999));
        refuses(ARGUMENT, () -> x.addPiece(10, -20, 0, 1000));
        refuses(ARGUMENT, () -> x.addPiece(10, -20, 6, 5));
    }

    private static void plays() {
        sentence("promise 4: no such clip");
        refuses(INDEX, () -> x.plays(0));
        x.addProgramme(10, -20, 3, 0, 999);
        x.addProgramme(10, -20, 4, 0, 999);
        is(x.plays(0), 3);
        is(x.plays(1), 4);
        refuses(INDEX, () -> x.plays(2));
        refuses(INDEX, () -> x.plays(-1));
        refuses(INDEX, () -> x.plays(MIN));
        refuses(INDEX, () -> x.plays(MAX));
        sentence("promise 4: the clip 11 of 12");
        for (int i = 0; i < 12; i++) {
            x.addProgramme(10, -20, i, 0, 999);
        }
        is(x.plays(11), 11);
        refuses(INDEX, () -> x.plays(12));
        sentence("promise 4: a piece");
        piece(10, -20);
        refuses(UNSUPPORTED, () -> x.plays(0));
        sentence("promise 4: the plays that are left, none at the end");
        x.addProgramme(10, -20, 2, 0, 999);
        append(0, 'f', 0);
        x.air();
        is(x.plays(0), 1);
        x.air();
        is(x.plays(0), 0);
        x.air();
        is(x.plays(0), 0);
    }

    private static void addPlays() {
        sentence("promise 5: no such clip");
        refuses(INDEX, () -> x.addPlays(0, 1));
        x.addProgramme(10, -20, 3, 0, 999);
        refuses(INDEX, () -> x.addPlays(1, 1));
        refuses(INDEX, () -> x.addPlays(-1, 1));
        refuses(INDEX, () -> x.addPlays(MIN, 1));
        refuses(INDEX, () -> x.addPlays(MAX, 1));
        sentence("promise 5: a piece");
        piece(10, -20);
        refuses(UNSUPPORTED, () -> x.addPlays(0, 1));
        sentence("promise 5: the plays are between 1 and 99");
        x.addProgramme(10, -20, 0, 0, 999);
        is(x.addPlays(0, 1), 1);
        is(x.addPlays(0, 99), 100);
        is(x.plays(0), 100);
        refuses(ARGUMENT, () -> x.addPlays(0, 0));
        refuses(ARGUMENT, () -> x.addPlays(0, -1));
        refuses(ARGUMENT, () -> x.addPlays(0, 100));
        refuses(ARGUMENT, () -> x.addPlays(0, MIN));
        refuses(ARGUMENT, () -> x.addPlays(0, MAX));
        sentence("promise 5: no bound is named for the plays that are left");
        x.addProgramme(10, -20, 99, 0, 999);
        is(x.addPlays(0, 99), 198);
        is(x.addPlays(0, 99), 297);
        sentence("promise 5: IndexOutOfBoundsException is listed ahead of IllegalArgumentException");
        programme(10);
        refuses(INDEX, () -> x.addPlays(1, 0));
        refuses(INDEX, () -> x.addPlays(-1, 100));
        sentence("promise 5: UnsupportedOperationException is listed ahead of IllegalArgumentException");
        piece(10, -20);
        refuses(UNSUPPORTED, () -> x.addPlays(0, 0));
        refuses(UNSUPPORTED, () -> x.addPlays(0, 100));
    }
}
