/**
 * The sentences that name a boundary: promises 16 to 26, the air and its secondary events.
 * The last value that is allowed and the first that is not, nothing there yet and no room left, each exception.
 */
public final class PlayoutChainAirEdgesTest extends ChainChecks {
    public static void main(String[] args) {
        spans();
        airAtAndAirBySeconds();
        slate();
        showing();
        hangingOnTheStart();
        hangingOnTheEnd();
        secondaryStart();
        meanLevel();
        end("PlayoutChainAirEdgesTest");
    }

    private static void spans() {
        sentence("promise 16: one span without an event");
        is(x.spans(), 1);
        sentence("promise 16: a span for each piece, each event and each slate");
        programme(100);
        piece(30, -20);
        piece(20, -20);
        append(0, 'p', 50);
        append(0, 'f', 0);
        append(0, 'p', 251);
        is(x.spans(), 7);
        is(onAir(), "1@0+30 2@30+20 0@50+100 0@150+100 -1@250+1 0@251+100 -1@351+3249");
        sentence("promise 16: the most spans");
        for (int i = 0; i < 8; i++) {
            piece(i + 1, -20);
        }
        programme(1);
        for (int i = 0; i < 12; i++) {
            append(8, 'p', 36 + 37 * i);
        }
        is(x.spans(), 12 * 9 + 1);
        is(x.spanClip(12 * 9), -1);
        is(x.spanStart(12 * 9), 12 * 37);
        is(x.spanLength(12 * 9), 3600 - 12 * 37);
        is(x.spanClip(12 * 9 - 1), 8);
        is(x.spanClip(12 * 9 - 2), 7);
        is(x.spanLength(12 * 9 - 2), 8);
        refuses(INDEX, () -> x.spanClip(12 * 9 + 1));
        sentence("promise 16: the most spans, with pieces to the end of the day");
        int lengths = 0;
        for (int i = 0; i < 7; i++) {
            piece(i + 1, -20);
            lengths += i + 1;
        }
        piece(90, -20);
        lengths += 90;
        programme(166);
        for (int i = 0; i < 12; i++) {
            append(8, 'p', lengths + (lengths + 166) * i);
        }
        x.setOverrun(11, 3600 - lengths - 12 * (lengths + 166));
        is(x.spans(), 13 * 8 + 12);
        is(x.spanClip(13 * 8 + 11), 7);
        is(x.spanStart(13 * 8 + 11), 3510);
        is(x.slate(), 0);
        is(x.air(), 13 * 8 + 12);
        is(x.entryStart(13 * 8 + 11), 3510);
        sentence("promise 17: no such span");
        is(x.spanClip(0), -1);
        refuses(INDEX, () -> x.spanClip(1));
        refuses(INDEX, () -> x.spanClip(-1));
        refuses(INDEX, () -> x.spanClip(MIN));
        refuses(INDEX, () -> x.spanClip(MAX));
        sentence("promise 18: no such span");
        is(x.spanStart(0), 0);
        refuses(INDEX, () -> x.spanStart(1));
        refuses(INDEX, () -> x.spanStart(-1));
        refuses(INDEX, () -> x.spanStart(MIN));
        refuses(INDEX, () -> x.spanStart(MAX));
        sentence("promise 19: no such span");
        is(x.spanLength(0), 3600);
        refuses(INDEX, () -> x.spanLength(1));
        refuses(INDEX, () -> x.spanLength(-1));
        refuses(INDEX, () -> x.spanLength(MIN));
        refuses(INDEX, () -> x.spanLength(MAX));
        sentence("promises 17 to 19: no span is left of what was cut away");
        programme(100);
        append(0, 'f', 0);
        append(0, 'f', 0);
        append(0, 'f', 0);
        append(0, 'c', 100);
        is(x.spans(), 3);
        refuses(INDEX, () -> x.spanClip(3));
        refuses(INDEX, () -> x.spanStart(3));
        refuses(INDEX, () -> x.spanLength(3));
    }

    private static void onAirAt(int second, int due) {
        is(x.airAt(second), due);
        is(x.airBySeconds(second), due);
    }

    private static void airAtAndAirBySeconds() {
        sentence("promises 20 and 21: the first and the last second of each span");
        programme(100);
        piece(30, -20);
        programme(1);
        append(0, 'p', 30);
        append(2, 'f', 0);
        append(2, 'p', 140);
        append(0, 'c', 3500);
        onAirAt(0, 1);
        onAirAt(1, 1);
        onAirAt(29, 1);
        onAirAt(30, 0);
        onAirAt(129, 0);
        onAirAt(130, 2);
        onAirAt(131, -1);
        onAirAt(139, -1);
        onAirAt(140, 2);
        onAirAt(141, -1);
        onAirAt(3499, -1);
        onAirAt(3500, 0);
        onAirAt(3599, 0);
        sentence("promises 20 and 21: a clip at the second 0 and the second 3599 alone");
        programme(1);
        append(0, 'f', 0);
        append(0, 'p', 3599);
        onAirAt(0, 0);
        onAirAt(1, -1);
        onAirAt(3598, -1);
        onAirAt(3599, 0);
        sentence("promises 20 and 21: spans of one second");
        for (int i = 0; i < 8; i++) {
            piece(1, -20);
        }
        programme(1);
        append(8, 'p', 8);
        append(8, 'f', 0);
        for (int i = 0; i < 8; i++) {
            onAirAt(i, i);
        }
        onAirAt(8, 8);
        onAirAt(9, 8);
        onAirAt(10, -1);
        sentence("promise 20: the second is between 0 and 3599");
        is(x.airAt(0), -1);
        is(x.airAt(3599), -1);
        refuses(ARGUMENT, () -> x.airAt(-1));
        refuses(ARGUMENT, () -> x.airAt(3600));
        refuses(ARGUMENT, () -> x.airAt(MIN));
        refuses(ARGUMENT, () -> x.airAt(MAX));
        sentence("promise 21: the second is between 0 and 3599");
        is(x.airBySeconds(0), -1);
        is(x.airBySeconds(3599), -1);
        refuses(ARGUMENT, () -> x.airBySeconds(-1));
        refuses(ARGUMENT, () -> x.airBySeconds(3600));
        refuses(ARGUMENT, () -> x.airBySeconds(MIN));
        refuses(ARGUMENT, () -> x.airBySeconds(MAX));
    }

    private static void slate() {
        sentence("promise 22: all of the air is slate");
        is(x.slate(), 3600);
        sentence("promise 22: there is no slate");
        programme(900);
        for (int i = 0; i < 4; i++) {
            append(0, 'f', 0);
        }
        is(x.slate(), 0);
        sentence("promise 22: there is slate for one second, at the start of the day");
        programme(900);
        append(0, 'p', 1);
        append(0, 'f', 0);
        append(0, 'f', 0);
        append(0, 'f', 0);
        is(x.slate(), 1);
        sentence("promise 22: all slates together, and no pieces");
        programme(900);
        piece(40, -20);
        append(0, 'p', 30);
        append(0, 'p', 970);
        append(0, 'p', 1920);
        is(onAir(), "-1@0+30 0@30+900 1@930+40 0@970+900 -1@1870+50 0@1920+900 -1@2820+780");
        is(x.slate(), 30 + 50 + 780);
        sentence("promise 22: slate that is cut is told as it is left");
        programme(900);
        append(0, 'p', 100);
        append(0, 'c', 40);
        append(0, 'f', 0);
        append(0, 'f', 0);
        append(0, 'f', 0);
        is(x.slate(), 40);
    }

    private static void showing() {
        sentence("promise 23: the second is between 0 and 3599");
        is(x.showing(0), 0);
        is(x.showing(3599), 0);
        refuses(ARGUMENT, () -> x.showing(-1));
        refuses(ARGUMENT, () -> x.showing(3600));
        refuses(ARGUMENT, () -> x.showing(MIN));
        refuses(ARGUMENT, () -> x.showing(MAX));
        sentence("promise 23: at the second 0 and at the second 3599");
        programme(10);
        append(0, 'f', 0);
        append(0, 'c', 3590);
        x.attach(0, 's', 0, 1);
        x.attach(1, 'e', 1, 1);
        is(x.showing(0), 1);
        is(x.showing(1), 0);
        is(x.showing(3598), 0);
        is(x.showing(3599), 1);
        sentence("promise 23: none, one, two and three secondary events at a second");
        programme(10);
        append(0, 'f', 0);
        is(x.showing(5), 0);
        x.attach(0, 's', 5, 1);
        is(x.showing(5), 1);
        x.attach(0, 'e', 5, 1);
        is(x.showing(5), 2);
        x.attach(0, 's', 0, 6);
        is(x.showing(5), 3);
        sentence("promise 23: nothing shows of an event that is barred, cut away or not joined");
        programme(10);
        x.addProgramme(10, -20, 0, 0, 999);
        append(0, 'f', 0);
        append(0, 'c', 0);
        append(0, 'j', 0);
        append(1, 'f', 0);
        x.attach(0, 's', 0, 900);
        x.attach(2, 's', 0, 900);
        x.attach(2, 'e', 900, 900);
        x.attach(3, 's', 0, 900);
        x.attach(3, 'e', 900, 900);
        is(fates(), "xaxr");
        for (int second = 0; second <= 21; second++) {
            is(x.showing(second), 0);
        }
    }

    /** The secondary event shows from the one second to the one ahead of the other, and not beside them. */
    private static void showsFromUntil(int from, int until) {
        is(x.secondaryStart(0, 0), from);
        is(x.showing(from), 1);
        is(x.showing(until - 1), 1);
        is(x.showing(until), 0);
        if (from > 0) {
            is(x.showing(from - 1), 0);
        }
    }

    private static void doesNotShow() {
        refuses(NONE, () -> x.secondaryStart(0, 0));
        for (int second = 45; second < 65; second++) {
            is(x.showing(second), 0);
        }
    }

    private static void tenSecondsFrom50(String text, char side, int offset, int length) {
        sentence(text);
        programme(10);
        append(0, 'p', 50);
        x.attach(0, side, offset, length);
    }

    private static void hangingOnTheStart() {
        tenSecondsFrom50("promise 24: on the start, the offset 0", 's', 0, 1);
        showsFromUntil(50, 51);
        tenSecondsFrom50("promise 24: on the start, to the end of the event exactly", 's', 3, 7);
        showsFromUntil(53, 60);
        tenSecondsFrom50("promise 24: on the start, one second ahead of the end of the event", 's', 3, 6);
        showsFromUntil(53, 59);
        tenSecondsFrom50("promise 24: on the start, never behind the end of the event", 's', 3, 8);
        showsFromUntil(53, 60);
        tenSecondsFrom50("promise 24: on the start, the last second of the event", 's', 9, 900);
        showsFromUntil(59, 60);
        tenSecondsFrom50("promise 24: on the start, at the end of the event it does not show", 's', 10, 900);
        doesNotShow();
        tenSecondsFrom50("promise 24: on the start, behind the end of the event it does not show", 's', 900, 900);
        doesNotShow();
        tenSecondsFrom50("promise 24: on the start, all of the event", 's', 0, 900);
        showsFromUntil(50, 60);
        tenSecondsFrom50("promise 24: on the start of what is aired of an event that joins", 's', 2, 900);
        programme(900);
        x.insert(0, 1, 'f', 0);
        x.insert(1, 0, 'j', 895);
        x.attach(1, 's', 1, 2);
        is(x.startOf(1), 900);
        is(x.secondaryStart(1, 0), 901);
        is(x.showing(900), 0);
        is(x.showing(901), 1);
        is(x.showing(902), 1);
        is(x.showing(903), 0);
        tenSecondsFrom50("promise 24: on the start, never in what was cut away of the event", 's', 5, 5);
        append(0, 'c', 57);
        showsFromUntil(55, 57);
        tenSecondsFrom50("promise 24: on the start, in what was cut away of the event alone", 's', 5, 5);
        append(0, 'c', 55);
        doesNotShow();
        tenSecondsFrom50("promise 24: on the start, in the overrun", 's', 10, 5);
        x.setOverrun(0, 3);
        showsFromUntil(60, 63);
    }

    private static void hangingOnTheEnd() {
        tenSecondsFrom50("promise 24: on the end, the offset 0 does not show", 'e', 0, 900);
        doesNotShow();
        tenSecondsFrom50("promise 24: on the end, the last second of the event", 'e', 1, 1);
        showsFromUntil(59, 60);
        tenSecondsFrom50("promise 24: on the end, never behind the end of the event", 'e', 1, 900);
        showsFromUntil(59, 60);
        tenSecondsFrom50("promise 24: on the end, its length is over ahead of the end", 'e', 7, 6);
        showsFromUntil(53, 59);
        tenSecondsFrom50("promise 24: on the end, from the start of the event exactly", 'e', 10, 1);
        showsFromUntil(50, 51);
        tenSecondsFrom50("promise 24: on the end, never ahead of the start of the event", 'e', 11, 3);
        showsFromUntil(50, 52);
        tenSecondsFrom50("promise 24: on the end, one second of it is behind the start of the event", 'e', 14, 5);
        showsFromUntil(50, 51);
        tenSecondsFrom50("promise 24: on the end, over at the start of the event it does not show", 'e', 14, 4);
        doesNotShow();
        tenSecondsFrom50("promise 24: on the end, over ahead of the start of the event it does not show", 'e', 900, 1);
        doesNotShow();
        tenSecondsFrom50("promise 24: on the end, cut at both sides", 'e', 15, 900);
        showsFromUntil(50, 60);
        tenSecondsFrom50("promise 24: on the end, ahead of the second 0", 'e', 900, 850);
        doesNotShow();
        tenSecondsFrom50("promise 24: on the end, from ahead of the second 0 into the event", 'e', 900, 895);
        showsFromUntil(50, 55);
        tenSecondsFrom50("promise 24: on the end of what is aired of an event that is cut", 'e', 2, 1);
        append(0, 'c', 57);
        showsFromUntil(55, 56);
        tenSecondsFrom50("promise 24: on the end of the overrun", 'e', 2, 900);
        x.setOverrun(0, 4);
        showsFromUntil(62, 64);
        sentence("promise 24: on the end that the second 3600 makes");
        programme(10);
        append(0, 'p', 3595);
        x.attach(0, 'e', 2, 900);
        is(x.secondaryStart(0, 0), 3598);
        is(x.showing(3597), 0);
        is(x.showing(3598), 1);
        is(x.showing(3599), 1);
    }

    private static void secondaryStart() {
        sentence("promise 24: no such event");
        programme(10);
        refuses(INDEX, () -> x.secondaryStart(0, 0));
        append(0, 'f', 0);
        x.attach(0, 's', 0, 1);
        refuses(INDEX, () -> x.secondaryStart(1, 0));
        refuses(INDEX, () -> x.secondaryStart(-1, 0));
        refuses(INDEX, () -> x.secondaryStart(MIN, 0));
        refuses(INDEX, () -> x.secondaryStart(MAX, 0));
        sentence("promise 24: no such secondary event");
        programme(10);
        append(0, 'f', 0);
        append(0, 'f', 0);
        x.attach(1, 's', 0, 1);
        x.attach(1, 's', 0, 1);
        refuses(INDEX, () -> x.secondaryStart(0, 0));
        x.attach(0, 's', 3, 1);
        is(x.secondaryStart(0, 0), 3);
        refuses(INDEX, () -> x.secondaryStart(0, 1));
        refuses(INDEX, () -> x.secondaryStart(0, -1));
        refuses(INDEX, () -> x.secondaryStart(0, MIN));
        refuses(INDEX, () -> x.secondaryStart(0, MAX));
        sentence("promise 24: counted from 0 in the order in which they were hung on it");
        programme(10);
        append(0, 'f', 0);
        x.attach(0, 's', 7, 1);
        x.attach(0, 'e', 9, 1);
        x.attach(0, 's', 4, 1);
        is(x.secondaryStart(0, 0), 7);
        is(x.secondaryStart(0, 1), 1);
        is(x.secondaryStart(0, 2), 4);
        refuses(INDEX, () -> x.secondaryStart(0, 3));
        sentence("promise 24: a secondary event of an event that is not aired does not show");
        programme(10);
        x.addProgramme(10, -20, 0, 0, 999);
        append(0, 'f', 0);
        append(0, 'c', 0);
        append(0, 'j', 0);
        append(1, 'f', 0);
        x.attach(0, 's', 0, 900);
        x.attach(2, 'e', 900, 900);
        x.attach(3, 'e', 900, 900);
        refuses(NONE, () -> x.secondaryStart(0, 0));
        refuses(NONE, () -> x.secondaryStart(2, 0));
        refuses(NONE, () -> x.secondaryStart(3, 0));
        refuses(INDEX, () -> x.secondaryStart(0, 1));
        refuses(INDEX, () -> x.secondaryStart(3, -1));
    }

    private static void meanIs(float due) {
        is(x.meanLevel(), due);
        is(x.meanLevelBits(), Float.floatToIntBits(due));
    }

    private static void meanLevel() {
        sentence("promises 25 and 26: all of the air is slate, with an event that is barred");
        x.addProgramme(10, -20, 0, 0, 999);
        append(0, 'f', 0);
        refuses(NONE, () -> x.meanLevel());
        refuses(NONE, () -> x.meanLevelBits());
        sentence("promises 25 and 26: one second of the air is not slate");
        x.addProgramme(10, -37, 1, 0, 999);
        append(0, 'p', 3599);
        meanIs(-37f);
        sentence("promises 25 and 26: pieces alone");
        for (int i = 0; i < 4; i++) {
            piece(900, -20 - i);
        }
        meanIs((-20f * 900f - 21f * 900f - 22f * 900f - 23f * 900f) / 3600f);
        sentence("promises 25 and 26: the level 0 is not slate");
        x.addProgramme(10, 0, 1, 0, 999);
        append(0, 'f', 0);
        meanIs(0f);
        is(x.meanLevelBits(), 0);
        sentence("promises 25 and 26: the level -60");
        x.addProgramme(900, -60, 9, 0, 999);
        for (int i = 0; i < 4; i++) {
            append(0, 'f', 0);
        }
        meanIs(-60f);
        sentence("promises 25 and 26: the mean nearest to 0");
        x.addProgramme(900, 0, 9, 0, 999);
        x.addProgramme(1, -1, 9, 0, 999);
        for (int i = 0; i < 4; i++) {
            append(0, 'f', 0);
        }
        append(1, 'c', 3599);
        meanIs(-1f / 3600f);
        sentence("promises 25 and 26: the mean nearest to -60");
        x.addProgramme(900, -60, 9, 0, 999);
        x.addProgramme(1, -59, 9, 0, 999);
        for (int i = 0; i < 4; i++) {
            append(0, 'f', 0);
        }
        append(1, 'c', 3599);
        meanIs((-60f * 3599f - 59f) / 3600f);
        sentence("promises 25 and 26: means at and beside the powers of two");
        for (int level : new int[] {-1, -2, -3, -4, -7, -8, -15, -16, -17, -31, -32, -33}) {
            x = new RecordedChain();
            x.addProgramme(900, level, 9, 0, 999);
            x.addProgramme(1, level + 1, 9, 0, 999);
            append(0, 'f', 0);
            meanIs((float) level);
            append(1, 'f', 0);
            meanIs((level * 900f + (level + 1f)) / 901f);
        }
        sentence("promises 25 and 26: slate is left out of the lengths");
        x.addProgramme(10, -10, 9, 0, 999);
        x.addProgramme(20, -31, 9, 0, 999);
        append(0, 'f', 0);
        append(1, 'p', 2000);
        meanIs((-10f * 10f - 31f * 20f) / 30f);
        sentence("promises 25 and 26: the length is that which is aired");
        x.addProgramme(10, -10, 9, 0, 999);
        x.addProgramme(20, -31, 9, 0, 999);
        append(0, 'f', 0);
        append(1, 'c', 3);
        x.setOverrun(1, 1);
        meanIs((-10f * 3f - 31f * 21f) / 24f);
    }
}
