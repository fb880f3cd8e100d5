/**
 * The sentences that name a boundary: the 512 calls, and promises 31 to 37, days and log.
 * The last value that is allowed and the first that is not, nothing there yet and no room left, each exception.
 */
public final class PlayoutChainDayEdgesTest extends ChainChecks {
    public static void main(String[] args) {
        calls();
        air();
        log();
        apart();
        aired();
        end("PlayoutChainDayEdgesTest");
    }

    private static void calls() {
        sentence("what it is: an object is used for at most 512 calls, the last of them, aired");
        x.addProgramme(7, -20, 99, 0, 999);
        x.addPlays(0, 99);
        x.addPlays(0, 99);
        x.addPlays(0, 99);
        x.addPlays(0, 99);
        x.addPlays(0, 99);
        x.insert(0, 0, 'f', 0);
        int days = 0;
        while (x.callsMade() < RecordedChain.MOST_CALLS - 1) {
            x.air();
            days++;
        }
        is(x.aired(0), 7L * days);
        sentence("what it is: an object is used for at most 512 calls, the last of them, air");
        x.addProgramme(900, -20, 0, 511, 999);
        while (x.callsMade() < RecordedChain.MOST_CALLS - 1) {
            x.air();
        }
        is(x.air(), 1);
        sentence("what it is: an object is used for at most 512 calls, the last of them, today");
        while (x.callsMade() < RecordedChain.MOST_CALLS - 1) {
            x.air();
        }
        is(x.today(), RecordedChain.MOST_CALLS - 1);
    }

    private static void air() {
        sentence("promise 31: the number of entries of an empty day");
        is(x.air(), 1);
        is(x.entries(), 1);
        sentence("promise 31: the number of entries");
        programme(100);
        append(0, 'f', 0);
        append(0, 'p', 300);
        is(x.air(), 4);
        is(x.entries(), 4);
        sentence("promise 31: each event that is not barred takes a play, whether it is aired or not");
        x.addProgramme(100, -20, 5, 0, 999);
        append(0, 'f', 0);
        append(0, 'j', 0);
        append(0, 'c', 50);
        append(0, 'p', 3599);
        append(0, 'f', 0);
        is(fates(), "cxacx");
        x.air();
        is(x.plays(0), 0);
        sentence("promise 31: an event that is barred takes no play");
        x.addProgramme(100, -20, 2, 0, 999);
        x.addProgramme(100, -20, 5, 1, 999);
        append(0, 'f', 0);
        append(0, 'f', 0);
        append(0, 'f', 0);
        append(1, 'f', 0);
        is(fates(), "aarr");
        x.air();
        is(x.plays(0), 0);
        is(x.plays(1), 5);
        x.air();
        is(x.plays(0), 0);
        is(x.plays(1), 4);
        sentence("promise 31: a programme without an event keeps its plays");
        x.addProgramme(100, -20, 5, 0, 999);
        x.air();
        is(x.plays(0), 5);
        sentence("promise 31: all overruns become 0, of events that are barred or not aired too");
        x.addProgramme(100, -20, 4, 0, 999);
        append(0, 'f', 0);
        append(0, 'f', 0);
        append(0, 'j', 0);
        append(0, 'p', 3599);
        append(0, 'f', 0);
        for (int i = 0; i < 5; i++) {
            x.setOverrun(i, 90 - i);
        }
        is(fates(), "aaxcr");
        x.air();
        for (int i = 0; i < 5; i++) {
            is(x.setOverrun(i, 0), 0);
        }
        sentence("promise 31: first the log, then the overruns");
        programme(100);
        append(0, 'f', 0);
        append(0, 'f', 0);
        x.setOverrun(0, 5);
        x.air();
        is(x.entryStart(1), 105);
        is(x.startOf(1), 100);
        sentence("promise 31: first the log, then the plays");
        x.addProgramme(100, -20, 1, 0, 999);
        append(0, 'f', 0);
        x.air();
        is(x.entryClip(0), 0);
        is(x.spanClip(0), -1);
        sentence("promise 31: first the log, then the next day");
        x.addProgramme(100, -20, 9, 0, 0);
        x.addPiece(10, -20, 0, 0);
        append(0, 'p', 10);
        is(x.air(), 3);
        is(x.entryClip(0), 1);
        is(x.entryClip(1), 0);
        is(onAir(), "-1@0+3600");
        sentence("promise 31: the list stays");
        threeEvents();
        x.air();
        is(x.events(), 3);
        is(onAir(), "0@0+100 1@100+200 2@300+300 -1@600+3000");
        sentence("promise 31: the day 999 lies behind the 512 calls, so no day within them is refused");
        while (x.callsMade() < RecordedChain.MOST_CALLS) {
            is(x.air(), 1);
        }
        sentence("promise 32: the day 0 at first, and the next day after each");
        is(x.today(), 0);
        x.air();
        is(x.today(), 1);
        x.air();
        is(x.today(), 2);
    }

    private static void log() {
        sentence("promise 33: 0 entries if no day was aired");
        programme(100);
        append(0, 'f', 0);
        is(x.entries(), 0);
        is(x.spans(), 2);
        is(x.entries(), 0);
        sentence("promise 33: the entries of the day that was aired last");
        programme(100);
        append(0, 'f', 0);
        append(0, 'f', 0);
        x.air();
        is(x.entries(), 3);
        x.remove(1);
        is(x.entries(), 3);
        x.air();
        is(x.entries(), 2);
        x.remove(0);
        x.air();
        is(x.entries(), 1);
        append(0, 'p', 5);
        is(x.entries(), 1);
        x.air();
        is(x.entries(), 3);
        sentence("promise 34: no such entry");
        programme(100);
        refuses(INDEX, () -> x.entryClip(0));
        append(0, 'f', 0);
        refuses(INDEX, () -> x.entryClip(0));
        x.air();
        is(x.entryClip(0), 0);
        is(x.entryClip(1), -1);
        refuses(INDEX, () -> x.entryClip(2));
        refuses(INDEX, () -> x.entryClip(-1));
        refuses(INDEX, () -> x.entryClip(MIN));
        refuses(INDEX, () -> x.entryClip(MAX));
        sentence("promise 35: no such entry");
        programme(100);
        refuses(INDEX, () -> x.entryStart(0));
        append(0, 'f', 0);
        refuses(INDEX, () -> x.entryStart(0));
        x.air();
        is(x.entryStart(0), 0);
        is(x.entryStart(1), 100);
        refuses(INDEX, () -> x.entryStart(2));
        refuses(INDEX, () -> x.entryStart(-1));
        refuses(INDEX, () -> x.entryStart(MIN));
        refuses(INDEX, () -> x.entryStart(MAX));
        sentence("promises 34 and 35: no entry is left of a longer day before");
        programme(100);
        append(0, 'f', 0);
        append(0, 'f', 0);
        x.air();
        is(x.entryStart(2), 200);
        clearList();
        x.air();
        is(x.entryClip(0), -1);
        is(x.entryStart(0), 0);
        refuses(INDEX, () -> x.entryClip(1));
        refuses(INDEX, () -> x.entryStart(1));
        sentence("promises 34 and 35: later changes leave the log as it is");
        programme(100);
        piece(10, -20);
        append(0, 'p', 10);
        x.air();
        x.setOverrun(0, 50);
        append(0, 'c', 0);
        is(x.entries(), 3);
        is(x.entryClip(0), 1);
        is(x.entryClip(1), 0);
        is(x.entryStart(1), 10);
        is(x.entryStart(2), 110);
    }

    private static void apart() {
        sentence("promise 36: no day was aired");
        refuses(NONE, () -> x.apart());
        programme(100);
        append(0, 'f', 0);
        refuses(NONE, () -> x.apart());
        x.air();
        is(x.apart(), 0);
        sentence("promise 36: none, one and all of the seconds");
        programme(900);
        programme(1);
        x.air();
        is(x.apart(), 0);
        append(1, 'p', 3599);
        is(x.apart(), 1);
        x.remove(0);
        append(1, 'f', 0);
        is(x.apart(), 1);
        x.remove(0);
        for (int i = 0; i < 4; i++) {
            append(0, 'f', 0);
        }
        is(x.apart(), 3600);
        sentence("promise 36: slate where a clip was, and a clip where slate was");
        programme(100);
        append(0, 'f', 0);
        x.air();
        x.remove(0);
        is(x.apart(), 100);
        append(0, 'p', 99);
        is(x.apart(), 99 + 99);
        sentence("promise 36: another clip at the same seconds");
        programme(100);
        programme(100);
        append(0, 'f', 0);
        x.air();
        x.remove(0);
        append(1, 'f', 0);
        is(x.apart(), 100);
        sentence("promise 36: the same clip in other spans is not another one");
        programme(100);
        programme(50);
        append(0, 'f', 0);
        x.air();
        append(0, 'c', 50);
        is(x.air(), 3);
        is(x.apart(), 0);
        x.remove(1);
        is(x.apart(), 50);
        x.setOverrun(0, 50);
        is(x.apart(), 0);
        sentence("promise 36: by the log of the day before, not of an earlier one");
        programme(100);
        append(0, 'f', 0);
        x.air();
        x.remove(0);
        x.air();
        is(x.apart(), 0);
        sentence("promise 36: the overruns of the day that was aired are over");
        programme(100);
        append(0, 'f', 0);
        x.setOverrun(0, 7);
        x.air();
        is(x.apart(), 7);
    }

    private static void aired() {
        sentence("promise 37: no such clip");
        refuses(INDEX, () -> x.aired(0));
        programme(100);
        piece(10, -20);
        is(x.aired(0), 0L);
        is(x.aired(1), 0L);
        refuses(INDEX, () -> x.aired(2));
        refuses(INDEX, () -> x.aired(-1));
        refuses(INDEX, () -> x.aired(MIN));
        refuses(INDEX, () -> x.aired(MAX));
        sentence("promise 37: the clip 11 of 12");
        for (int i = 0; i < 12; i++) {
            programme(10 + i);
        }
        append(11, 'f', 0);
        x.air();
        is(x.aired(11), 21L);
        is(x.aired(10), 0L);
        refuses(INDEX, () -> x.aired(12));
        sentence("promise 37: nothing was aired of what is laid out alone");
        programme(100);
        append(0, 'f', 0);
        is(x.spans(), 2);
        is(x.aired(0), 0L);
        sentence("promise 37: on all days, as long as it was on air");
        programme(900);
        piece(10, -20);
        append(0, 'p', 10);
        append(0, 'c', 3599);
        x.air();
        is(x.aired(0), 901L);
        is(x.aired(1), 10L);
        x.setOverrun(0, 900);
        x.air();
        is(x.aired(0), 901L + 1801L);
        is(x.aired(1), 20L);
        clearList();
        x.air();
        is(x.aired(0), 901L + 1801L);
        is(x.aired(1), 20L);
        sentence("promise 37: all seconds of a day");
        programme(900);
        for (int i = 0; i < 5; i++) {
            append(0, 'f', 0);
        }
        x.air();
        is(x.aired(0), 3600L);
        x.air();
        is(x.aired(0), 7200L);
    }
}
