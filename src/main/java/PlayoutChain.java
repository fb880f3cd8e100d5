import java.util.ArrayList;
import java.util.Arrays;
import java.util.NoSuchElementException;

/**
 * A broadcast automation: a list of events makes a day's air, its gaps are filled by short pieces, secondary
 * events hang on others, and what went out is kept in a log.
 */
public final class PlayoutChain {
    private static final int DAY_SECONDS = 3600;
    private static final int LAST_DAY = 999;
    private static final int LOWEST_LEVEL = -60;
    private static final int LEVEL_WITHOUT_EVENT = -23;
    private static final int MOST_SECONDS = 900;
    private static final int MOST_PLAYS = 99;
    private static final int MOST_CLIPS = 12;
    private static final int MOST_PIECES = 8;
    private static final int MOST_EVENTS = 12;
    private static final int MOST_SECONDARIES = 3;

    /** Every event may have a gap ahead of it, and one more may end the day. */
    private static final int MOST_SPANS = MOST_EVENTS + (MOST_EVENTS + 1) * MOST_PIECES;

    /** No more than this many choices have the same number of pieces: 4 of 8. */
    private static final int MOST_EQUAL_CHOICES = 70;

    private static final int SLATE = -1;
    private static final int NO_CHOICE = 0;

    private static final char FOLLOWS = 'f';
    private static final char CUTS = 'c';
    private static final char PUSHED = 'p';
    private static final char JOINS = 'j';
    private static final char AT_START = 's';
    private static final char AT_END = 'e';

    private final ArrayList<Clip> clips;
    private final ArrayList<Event> list;
    private final Timeline onAir;
    private final Timeline log;
    private final Filler filler;
    private int day;
    private boolean laidOut;
    private boolean logged;

    public PlayoutChain() {
        clips = new ArrayList<>();
        list = new ArrayList<>();
        onAir = new Timeline();
        log = new Timeline();
        filler = new Filler();
        day = 0;
        laidOut = false;
        logged = false;
    }

    // Clips.

    public int addProgramme(int length, int level, int plays, int first, int last)
            throws IllegalArgumentException, IllegalStateException {
        checkClipValues(length, level, first, last);
        if (plays < 0 || plays > MOST_PLAYS) {
            throw new IllegalArgumentException("the plays are not between 0 and 99");
        }
        checkRoomForClip();
        int number = clips.size();
        clips.add(new Clip(number, false, length, level, plays, first, last));
        return number;
    }

    public int addPiece(int length, int level, int first, int last)
            throws IllegalArgumentException, IllegalStateException {
        checkClipValues(length, level, first, last);
        checkRoomForClip();
        if (numberOfPieces() >= MOST_PIECES) {
            throw new IllegalStateException("there are 8 pieces");
        }
        int number = clips.size();
        clips.add(new Clip(number, true, length, level, 0, first, last));
        filler.takePieces(clips, day);
        laidOut = false;
        return number;
    }

    public int plays(int clip) throws IndexOutOfBoundsException, UnsupportedOperationException {
        return programmeNumbered(clip).playsLeft;
    }

    public int addPlays(int clip, int plays)
            throws IndexOutOfBoundsException, UnsupportedOperationException, IllegalArgumentException {
        Clip programme = programmeNumbered(clip);
        if (plays < 1 || plays > MOST_PLAYS) {
            throw new IllegalArgumentException("the plays are not between 1 and 99");
        }
        programme.playsLeft += plays;
        laidOut = false;
        return programme.playsLeft;
    }

    // The list.

    public int insert(int position, int clip, char mode, int start)
            throws IndexOutOfBoundsException, UnsupportedOperationException, IllegalArgumentException,
            IllegalStateException {
        if (position < 0 || position > list.size()) {
            throw new IndexOutOfBoundsException("no such position");
        }
        Clip programme = programmeNumbered(clip);
        if (mode != FOLLOWS && mode != CUTS && mode != PUSHED && mode != JOINS) {
            throw new IllegalArgumentException("no such mode");
        }
        if (mode != FOLLOWS && (start < 0 || start >= DAY_SECONDS)) {
            throw new IllegalArgumentException("the start is not between 0 and 3599");
        }
        if (list.size() >= MOST_EVENTS) {
            throw new IllegalStateException("there are 12 events");
        }
        list.add(position, new Event(programme, mode, start));
        laidOut = false;
        return list.size();
    }

    public int remove(int position) throws IndexOutOfBoundsException {
        checkPosition(position);
        list.remove(position);
        laidOut = false;
        return list.size();
    }

    public int move(int position, int to) throws IndexOutOfBoundsException {
        checkPosition(position);
        checkPosition(to);
        Event event = list.remove(position);
        list.add(to, event);
        laidOut = false;
        return Math.abs(to - position);
    }

    public int setOverrun(int position, int seconds) throws IndexOutOfBoundsException, IllegalArgumentException {
        Event event = eventAt(position);
        if (seconds < 0 || seconds > MOST_SECONDS) {
            throw new IllegalArgumentException("the overrun is not between 0 and 900");
        }
        int before = event.overrun;
        event.overrun = seconds;
        laidOut = false;
        return before;
    }

    public int attach(int position, char side, int offset, int length)
            throws IndexOutOfBoundsException, IllegalArgumentException, IllegalStateException {
        Event event = eventAt(position);
        if (side != AT_START && side != AT_END) {
            throw new IllegalArgumentException("no such side");
        }
        if (offset < 0 || offset > MOST_SECONDS) {
            throw new IllegalArgumentException("the offset is not between 0 and 900");
        }
        if (length < 1 || length > MOST_SECONDS) {
            throw new IllegalArgumentException("the length is not between 1 and 900");
        }
        if (event.secondaries.size() >= MOST_SECONDARIES) {
            throw new IllegalStateException("the event has 3 secondary events");
        }
        event.secondaries.add(new Secondary(side, offset, length));
        return event.secondaries.size();
    }

    public int events() {
        return list.size();
    }

    public int programme(int position) throws IndexOutOfBoundsException {
        return eventAt(position).clip.number;
    }

    // The air.

    public char fate(int position) throws IndexOutOfBoundsException {
        layOut();
        Event event = eventAt(position);
        if (event.barred) {
            return 'r';
        }
        if (!event.isOnAir()) {
            return 'x';
        }
        if (event.airEnd < event.wholeEnd) {
            return 'c';
        }
        return event.joined ? 'j' : 'a';
    }

    public int startOf(int position) throws IndexOutOfBoundsException, NoSuchElementException {
        layOut();
        return eventOnAir(position).airStart;
    }

    public int endOf(int position) throws IndexOutOfBoundsException, NoSuchElementException {
        layOut();
        return eventOnAir(position).airEnd;
    }

    public int spans() {
        layOut();
        return onAir.count;
    }

    public int spanClip(int index) throws IndexOutOfBoundsException {
        layOut();
        checkSpan(index);
        return onAir.clipIn(index);
    }

    public int spanStart(int index) throws IndexOutOfBoundsException {
        layOut();
        checkSpan(index);
        return onAir.startIn(index);
    }

    public int spanLength(int index) throws IndexOutOfBoundsException {
        layOut();
        checkSpan(index);
        return onAir.lengthIn(index);
    }

    public int airAt(int second) throws IllegalArgumentException {
        checkSecond(second);
        layOut();
        return onAir.clipFromSpans(second);
    }

    public int airBySeconds(int second) throws IllegalArgumentException {
        checkSecond(second);
        layOut();
        return onAir.clipFromSeconds(second);
    }

    public int slate() {
        layOut();
        int seconds = 0;
        for (int i = 0; i < onAir.count; i++) {
            if (onAir.clipIn(i) == SLATE) {
                seconds += onAir.lengthIn(i);
            }
        }
        return seconds;
    }

    public int showing(int second) throws IllegalArgumentException {
        checkSecond(second);
        layOut();
        int number = 0;
        for (int i = 0; i < list.size(); i++) {
            number += list.get(i).secondariesAt(second);
        }
        return number;
    }

    public int secondaryStart(int position, int index) throws IndexOutOfBoundsException, NoSuchElementException {
        Event event = eventAt(position);
        if (index < 0 || index >= event.secondaries.size()) {
            throw new IndexOutOfBoundsException("no such secondary event");
        }
        Secondary secondary = event.secondaries.get(index);
        layOut();
        int from = secondary.showsFrom(event.airStart, event.airEnd);
        if (from >= secondary.showsUntil(event.airStart, event.airEnd)) {
            throw new NoSuchElementException("the secondary event does not show");
        }
        return from;
    }

    public float meanLevel() throws NoSuchElementException {
        layOut();
        return meanOfSpans();
    }

    public int meanLevelBits() throws NoSuchElementException {
        layOut();
        return bitsOf(meanOfSpans());
    }

    // Fill.

    public int fill(int gap, int level) throws IllegalArgumentException, NoSuchElementException {
        return Integer.bitCount(choiceFor(gap, level));
    }

    public int fillByTrying(int gap, int level) throws IllegalArgumentException, NoSuchElementException {
        checkGap(gap, level);
        int pieces = filler.fewestByTrying(gap);
        if (pieces < 1) {
            throw new NoSuchElementException("no pieces fill the gap");
        }
        return pieces;
    }

    public int fillAt(int gap, int level, int index) throws IllegalArgumentException, NoSuchElementException {
        int choice = choiceFor(gap, level);
        int ahead = 0;
        for (int i = 0; i < filler.count; i++) {
            if (filler.isIn(choice, i)) {
                if (ahead == index) {
                    return filler.numberOf(i);
                }
                ahead++;
            }
        }
        throw new NoSuchElementException("no such piece");
    }

    public float deviation(int gap, int level) throws IllegalArgumentException, NoSuchElementException {
        return filler.deviationOf(choiceFor(gap, level), gap, level);
    }

    // Days and log.

    public int air() throws IllegalStateException {
        if (day >= LAST_DAY) {
            throw new IllegalStateException("today is the last day");
        }
        layOut();
        log.takeFrom(onAir);
        logged = true;
        countSecondsAired();
        endEvents();
        day++;
        filler.takePieces(clips, day);
        laidOut = false;
        return log.count;
    }

    public int today() {
        return day;
    }

    public int entries() {
        return log.count;
    }

    public int entryClip(int entry) throws IndexOutOfBoundsException {
        checkEntry(entry);
        return log.clipIn(entry);
    }

    public int entryStart(int entry) throws IndexOutOfBoundsException {
        checkEntry(entry);
        return log.startIn(entry);
    }

    public int apart() throws NoSuchElementException {
        if (!logged) {
            throw new NoSuchElementException("no day was aired");
        }
        layOut();
        return onAir.secondsApartFrom(log);
    }

    public long aired(int clip) throws IndexOutOfBoundsException {
        checkClipNumber(clip);
        return clips.get(clip).secondsAired;
    }

    // What the calls refuse.

    private static void checkClipValues(int length, int level, int first, int last) {
        if (length < 1 || length > MOST_SECONDS) {
            throw new IllegalArgumentException("the length is not between 1 and 900");
        }
        if (level < LOWEST_LEVEL || level > 0) {
            throw new IllegalArgumentException("the level is not between -60 and 0");
        }
        if (first < 0 || last > LAST_DAY || last < first) {
            throw new IllegalArgumentException("the days are not in order between 0 and 999");
        }
    }

    private void checkRoomForClip() {
        if (clips.size() >= MOST_CLIPS) {
            throw new IllegalStateException("there are 12 clips");
        }
    }

    private void checkClipNumber(int number) {
        if (number < 0 || number >= clips.size()) {
            throw new IndexOutOfBoundsException("no such clip");
        }
    }

    private void checkPosition(int position) {
        if (position < 0 || position >= list.size()) {
            throw new IndexOutOfBoundsException("no such event");
        }
    }

    private void checkSpan(int index) {
        if (index < 0 || index >= onAir.count) {
            throw new IndexOutOfBoundsException("no such span");
        }
    }

    private void checkEntry(int entry) {
        if (entry < 0 || entry >= log.count) {
            throw new IndexOutOfBoundsException("no such entry");
        }
    }

    private static void checkSecond(int second) {
        if (second < 0 || second >= DAY_SECONDS) {
            throw new IllegalArgumentException("the second is not between 0 and 3599");
        }
    }

    private static void checkGap(int gap, int level) {
        if (gap < 1 || gap > DAY_SECONDS) {
            throw new IllegalArgumentException("the gap is not between 1 and 3600");
        }
        if (level < LOWEST_LEVEL || level > 0) {
            throw new IllegalArgumentException("the level is not between -60 and 0");
        }
    }

    private Clip programmeNumbered(int number) {
        checkClipNumber(number);
        Clip clip = clips.get(number);
        if (clip.piece) {
            throw new UnsupportedOperationException("the clip is a piece");
        }
        return clip;
    }

    private Event eventAt(int position) {
        checkPosition(position);
        return list.get(position);
    }

    private Event eventOnAir(int position) {
        Event event = eventAt(position);
        if (!event.isOnAir()) {
            throw new NoSuchElementException("nothing of the event is aired");
        }
        return event;
    }

    private int choiceFor(int gap, int level) {
        checkGap(gap, level);
        int choice = filler.chooseBySums(gap, level);
        if (choice == NO_CHOICE) {
            throw new NoSuchElementException("no pieces fill the gap");
        }
        return choice;
    }

    private int numberOfPieces() {
        int number = 0;
        for (int i = 0; i < clips.size(); i++) {
            if (clips.get(i).piece) {
                number++;
            }
        }
        return number;
    }

    // The layout.

    private void layOut() {
        if (laidOut) {
            return;
        }
        clearAir();
        int time = 0;
        for (int i = 0; i < list.size(); i++) {
            Event event = list.get(i);
            event.barred = isBarred(i, event.clip);
            if (!event.barred) {
                time = layEvent(i, event, time);
            }
        }
        cutAt(DAY_SECONDS);
        if (time < DAY_SECONDS) {
            layGap(time, DAY_SECONDS, levelAhead(list.size()));
        }
        laidOut = true;
    }

    private void clearAir() {
        onAir.clear();
        for (int i = 0; i < list.size(); i++) {
            list.get(i).takeOffAir();
        }
    }

    private boolean isBarred(int position, Clip clip) {
        if (!clip.hasDay(day)) {
            return true;
        }
        int taken = 0;
        for (int i = 0; i < position && i < list.size(); i++) {
            Event other = list.get(i);
            if (!other.barred && other.clip.number == clip.number) {
                taken++;
            }
        }
        return taken >= clip.playsLeft;
    }

    /** Returns the time at which the layout goes on. */
    private int layEvent(int position, Event event, int time) {
        int length = event.clip.length + event.overrun;
        int start = time;
        int end = time + length;
        if (event.mode != FOLLOWS && event.fixedStart > time) {
            layGap(time, event.fixedStart, levelAhead(position));
            start = event.fixedStart;
            end = start + length;
        } else if (event.mode == CUTS) {
            cutAt(event.fixedStart);
            start = event.fixedStart;
            end = start + length;
        } else if (event.mode == JOINS) {
            end = event.fixedStart + length;
        }
        if (end <= start) {
            return time;
        }
        event.putOnAir(start, end);
        onAir.add(event.clip.number, start, end);
        return end;
    }

    private void layGap(int from, int to, int level) {
        int choice = filler.chooseBySums(to - from, level);
        if (choice == NO_CHOICE) {
            onAir.add(SLATE, from, to);
            return;
        }
        int time = from;
        for (int i = 0; i < filler.count; i++) {
            if (filler.isIn(choice, i)) {
                int end = time + filler.lengthOf(i);
                onAir.add(filler.numberOf(i), time, end);
                time = end;
            }
        }
    }

    /** The level of the latest event ahead of the position that is still on air. */
    private int levelAhead(int position) {
        for (int i = Math.min(position, list.size()) - 1; i >= 0; i--) {
            Event event = list.get(i);
            if (event.isOnAir()) {
                return event.clip.level;
            }
        }
        return LEVEL_WITHOUT_EVENT;
    }

    private void cutAt(int second) {
        onAir.cutAt(second);
        for (int i = 0; i < list.size(); i++) {
            list.get(i).cutAt(second);
        }
    }

    // The end of a day.

    private void countSecondsAired() {
        for (int i = 0; i < log.count; i++) {
            int number = log.clipIn(i);
            if (number >= 0 && number < clips.size()) {
                clips.get(number).secondsAired += log.lengthIn(i);
            }
        }
    }

    private void endEvents() {
        for (int i = 0; i < list.size(); i++) {
            Event event = list.get(i);
            if (!event.barred) {
                event.clip.playsLeft--;
            }
            event.overrun = 0;
        }
    }

    // The mean level.

    private float meanOfSpans() {
        float sum = 0f;
        int seconds = 0;
        for (int i = 0; i < onAir.count; i++) {
            int number = onAir.clipIn(i);
            if (number >= 0 && number < clips.size()) {
                int length = onAir.lengthIn(i);
                sum += (float) (clips.get(number).level * length);
                seconds += length;
            }
        }
        if (seconds < 1) {
            throw new NoSuchElementException("all of the air is slate");
        }
        return sum / (float) seconds;
    }

    /**
     * The bits of a float that is zero or of a size between 1/3600 and 60, as a mean level is: its size is brought
     * between 1 and 2 by halving and doubling, which loses nothing.
     */
    private static int bitsOf(float value) {
        if (value == 0f) {
            return 0;
        }
        float size = value < 0f ? -value : value;
        int exponent = 127;
        for (int step = 0; step < 127 && size >= 2f; step++) {
            size = size / 2f;
            exponent++;
        }
        for (int step = 0; step < 126 && size < 1f; step++) {
            size = size * 2f;
            exponent--;
        }
        int fraction = (int) ((size - 1f) * 8388608f);
        int sign = value < 0f ? 1 : 0;
        return sign << 31 | exponent << 23 | fraction;
    }

    /** A programme, or a piece for filling; a piece has no plays. */
    private static final class Clip {
        final int number;
        final boolean piece;
        final int length;
        final int level;
        final int firstDay;
        final int lastDay;
        int playsLeft;
        long secondsAired;

        Clip(int number, boolean piece, int length, int level, int playsLeft, int firstDay, int lastDay) {
            this.number = number;
            this.piece = piece;
            this.length = length;
            this.level = level;
            this.playsLeft = playsLeft;
            this.firstDay = firstDay;
            this.lastDay = lastDay;
            this.secondsAired = 0;
        }

        boolean hasDay(int day) {
            return firstDay <= day && day <= lastDay;
        }
    }

    /** An event of the list, and what the layout has made of it. */
    private static final class Event {
        final Clip clip;
        final char mode;
        final int fixedStart;
        final ArrayList<Secondary> secondaries;
        int overrun;
        boolean barred;
        boolean joined;
        int airStart;
        int airEnd;
        int wholeEnd;

        Event(Clip clip, char mode, int fixedStart) {
            this.clip = clip;
            this.mode = mode;
            this.fixedStart = fixedStart;
            this.secondaries = new ArrayList<>();
            this.overrun = 0;
            this.barred = false;
            this.joined = false;
            this.airStart = 0;
            this.airEnd = 0;
            this.wholeEnd = 0;
        }

        void takeOffAir() {
            airStart = 0;
            airEnd = 0;
            wholeEnd = 0;
            joined = false;
        }

        void putOnAir(int start, int end) {
            airStart = start;
            airEnd = end;
            wholeEnd = end;
            joined = mode == JOINS && fixedStart < start;
        }

        void cutAt(int second) {
            airEnd = Math.min(airEnd, second);
        }

        boolean isOnAir() {
            return airStart < airEnd;
        }

        int secondariesAt(int second) {
            int number = 0;
            for (int i = 0; i < secondaries.size(); i++) {
                Secondary secondary = secondaries.get(i);
                if (secondary.showsFrom(airStart, airEnd) <= second
                        && second < secondary.showsUntil(airStart, airEnd)) {
                    number++;
                }
            }
            return number;
        }
    }

    /** A secondary event; it shows if the second from which it does is ahead of that until which it does. */
    private static final class Secondary {
        final char side;
        final int offset;
        final int length;

        Secondary(char side, int offset, int length) {
            this.side = side;
            this.offset = offset;
            this.length = length;
        }

        int showsFrom(int airStart, int airEnd) {
            return Math.max(uncutStart(airStart, airEnd), airStart);
        }

        int showsUntil(int airStart, int airEnd) {
            return Math.min(uncutStart(airStart, airEnd) + length, airEnd);
        }

        private int uncutStart(int airStart, int airEnd) {
            return side == AT_START ? airStart + offset : airEnd - offset;
        }
    }

    /** Spans in the order of their starts, each one from the end of the one ahead of it. */
    private static final class Timeline {
        private final int[] spanClips;
        private final int[] spanStarts;
        private final int[] spanEnds;
        int count;

        Timeline() {
            spanClips = new int[MOST_SPANS];
            spanStarts = new int[MOST_SPANS];
            spanEnds = new int[MOST_SPANS];
            count = 0;
        }

        void clear() {
            count = 0;
        }

        void add(int clip, int start, int end) {
            if (count < 0 || count >= MOST_SPANS) {
                return;
            }
            spanClips[count] = clip;
            spanStarts[count] = start;
            spanEnds[count] = end;
            count++;
        }

        void cutAt(int second) {
            while (count > 0 && startIn(count - 1) >= second) {
                count--;
            }
            if (has(count - 1) && spanEnds[count - 1] > second) {
                spanEnds[count - 1] = second;
            }
        }

        void takeFrom(Timeline other) {
            clear();
            for (int i = 0; i < other.count; i++) {
                add(other.clipIn(i), other.startIn(i), other.endIn(i));
            }
        }

        boolean has(int index) {
            return index >= 0 && index < count && index < MOST_SPANS;
        }

        int clipIn(int index) {
            return has(index) ? spanClips[index] : SLATE;
        }

        int startIn(int index) {
            return has(index) ? spanStarts[index] : 0;
        }

        int endIn(int index) {
            return has(index) ? spanEnds[index] : 0;
        }

        int lengthIn(int index) {
            return endIn(index) - startIn(index);
        }

        int clipFromSpans(int second) {
            for (int i = 0; i < count; i++) {
                if (startIn(i) <= second && second < endIn(i)) {
                    return clipIn(i);
                }
            }
            return SLATE;
        }

        int clipFromSeconds(int second) {
            int index = 0;
            for (int now = 1; now <= second; now++) {
                if (now == endIn(index)) {
                    index++;
                }
            }
            return clipIn(index);
        }

        int secondsApartFrom(Timeline other) {
            int seconds = 0;
            int mine = 0;
            int theirs = 0;
            while (mine < count && theirs < other.count) {
                int from = Math.max(startIn(mine), other.startIn(theirs));
                int to = Math.min(endIn(mine), other.endIn(theirs));
                if (from < to && clipIn(mine) != other.clipIn(theirs)) {
                    seconds += to - from;
                }
                if (endIn(mine) <= to) {
                    mine++;
                } else {
                    theirs++;
                }
            }
            return seconds;
        }
    }

    /**
     * Chooses pieces that fill a gap. A choice is a number whose bits tell its pieces; the piece with the lowest
     * number has the highest bit, so that of two choices of as many pieces the greater number comes first.
     */
    private static final class Filler {
        private static final int UNREACHED = MOST_PIECES + 1;

        private final int[] numbers;
        private final int[] lengths;
        private final int[] levels;
        int count;

        /** Of the pieces from i on, the fewest whose lengths add up to a sum. */
        private final byte[][] fewest;
        private boolean addedUp;

        /** Choices that are being put together, and the seconds that each leaves to be filled. */
        private final int[] choices;
        private final int[] rests;
        private final int[] longerChoices;
        private final int[] longerRests;
        private int kept;

        Filler() {
            numbers = new int[MOST_PIECES];
            lengths = new int[MOST_PIECES];
            levels = new int[MOST_PIECES];
            count = 0;
            fewest = new byte[MOST_PIECES + 1][DAY_SECONDS + 1];
            addedUp = false;
            choices = new int[MOST_EQUAL_CHOICES];
            rests = new int[MOST_EQUAL_CHOICES];
            longerChoices = new int[MOST_EQUAL_CHOICES];
            longerRests = new int[MOST_EQUAL_CHOICES];
            kept = 0;
        }

        /** Takes the pieces of whose days this is one; the sums are kept if these are the same as before. */
        void takePieces(ArrayList<Clip> clips, int day) {
            int taken = 0;
            boolean same = true;
            for (int i = 0; i < clips.size() && taken < MOST_PIECES; i++) {
                Clip clip = clips.get(i);
                if (clip.piece && clip.hasDay(day)) {
                    same = same && taken < count && numbers[taken] == clip.number;
                    numbers[taken] = clip.number;
                    lengths[taken] = clip.length;
                    levels[taken] = clip.level;
                    taken++;
                }
            }
            addedUp = addedUp && same && taken == count;
            count = taken;
        }

        boolean isIn(int choice, int index) {
            return (choice >> (MOST_PIECES - 1 - index) & 1) == 1;
        }

        int numberOf(int index) {
            return index >= 0 && index < count && index < MOST_PIECES ? numbers[index] : SLATE;
        }

        int lengthOf(int index) {
            return index >= 0 && index < count && index < MOST_PIECES ? lengths[index] : 0;
        }

        private int levelOf(int index) {
            return index >= 0 && index < count && index < MOST_PIECES ? levels[index] : 0;
        }

        float deviationOf(int choice, int gap, int level) {
            if (gap < 1) {
                return 0f;
            }
            float sum = 0f;
            for (int i = 0; i < count; i++) {
                if (isIn(choice, i)) {
                    sum += (float) (levelOf(i) * lengthOf(i));
                }
            }
            float difference = sum / (float) gap - (float) level;
            return difference < 0f ? -difference : difference;
        }

        /** Returns NO_CHOICE if no pieces fill the gap. */
        int chooseBySums(int gap, int level) {
            if (gap < 1 || gap > DAY_SECONDS) {
                return NO_CHOICE;
            }
            if (!addedUp) {
                addUp();
            }
            if (fewest[0][gap] == UNREACHED) {
                return NO_CHOICE;
            }
            collectChoices(gap);
            int best = NO_CHOICE;
            float least = 0f;
            for (int i = 0; i < kept && i < MOST_EQUAL_CHOICES; i++) {
                float deviation = deviationOf(choices[i], gap, level);
                if (best == NO_CHOICE || deviation < least) {
                    best = choices[i];
                    least = deviation;
                }
            }
            return best;
        }

        private void addUp() {
            for (int i = MOST_PIECES; i >= 0; i--) {
                if (i >= count) {
                    Arrays.fill(fewest[i], (byte) UNREACHED);
                    fewest[i][0] = 0;
                } else {
                    addPieceToSums(i, lengthOf(i));
                }
            }
            addedUp = true;
        }

        private void addPieceToSums(int index, int length) {
            if (index < 0 || index >= MOST_PIECES || length < 0) {
                return;
            }
            for (int sum = 0; sum <= DAY_SECONDS; sum++) {
                byte few = fewest[index + 1][sum];
                if (sum >= length && fewest[index + 1][sum - length] + 1 < few) {
                    few = (byte) (fewest[index + 1][sum - length] + 1);
                }
                fewest[index][sum] = few;
            }
        }

        /** Leaves all choices of the fewest pieces in the row of choices, in their order. */
        private void collectChoices(int gap) {
            choices[0] = NO_CHOICE;
            rests[0] = gap;
            kept = 1;
            for (int i = 0; i < count && i < MOST_PIECES; i++) {
                int open = kept;
                kept = 0;
                for (int j = 0; j < open && j < MOST_EQUAL_CHOICES; j++) {
                    int rest = rests[j];
                    int needed = fewestFor(i, rest);
                    if (fewestFor(i + 1, rest - lengthOf(i)) == needed - 1) {
                        keepLonger(choices[j] | 1 << (MOST_PIECES - 1 - i), rest - lengthOf(i));
                    }
                    if (fewestFor(i + 1, rest) == needed) {
                        keepLonger(choices[j], rest);
                    }
                }
                takeLonger();
            }
        }

        private void keepLonger(int choice, int rest) {
            if (kept >= 0 && kept < MOST_EQUAL_CHOICES) {
                longerChoices[kept] = choice;
                longerRests[kept] = rest;
                kept++;
            }
        }

        private void takeLonger() {
            for (int i = 0; i < kept && i < MOST_EQUAL_CHOICES; i++) {
                choices[i] = longerChoices[i];
                rests[i] = longerRests[i];
            }
        }

        private int fewestFor(int index, int sum) {
            if (index < 0 || index > MOST_PIECES || sum < 0 || sum > DAY_SECONDS) {
                return UNREACHED;
            }
            return fewest[index][sum];
        }

        private int secondsIn(int choice) {
            int seconds = 0;
            for (int i = 0; i < count; i++) {
                if (isIn(choice, i)) {
                    seconds += lengthOf(i);
                }
            }
            return seconds;
        }

        /** Returns 0 if no pieces fill the gap. */
        int fewestByTrying(int gap) {
            int few = 0;
            for (int i = 1; i < 1 << count; i++) {
                int choice = i << (MOST_PIECES - count);
                int pieces = Integer.bitCount(choice);
                if (secondsIn(choice) == gap && (few == 0 || pieces < few)) {
                    few = pieces;
                }
            }
            return few;
        }
    }
}
