import java.util.ArrayList;
import java.util.List;
import java.util.NoSuchElementException;
import java.util.Random;
import java.util.function.Supplier;

/**
 * Runs of calls that are drawn by a fixed seed, each answered by PlayoutChain and by a model that is written another
 * way: it lays the list out second by second and tries every set of pieces.
 */
public final class PlayoutChainModelTest {
    private static final int RUNS = 6000;
    private static final int CALLS = 512;
    private static final int MOST_SHOWN = 20;

    private static int wrong = 0;
    private static long asked = 0;

    public static void main(String[] args) {
        for (int run = 0; run < RUNS && wrong < MOST_SHOWN; run++) {
            new Run(run).go();
        }
        System.out.println("PlayoutChainModelTest: " + (asked - wrong) + " passed, " + wrong + " failed");
        if (wrong != 0) {
            System.exit(1);
        }
    }

    private static String answer(Supplier<Object> call) {
        try {
            return String.valueOf(call.get());
        } catch (IllegalArgumentException | IllegalStateException | IndexOutOfBoundsException
                | UnsupportedOperationException | NoSuchElementException e) {
            return "throws." + e.getClass().getName() + (thrownByTheLibrary(e) ? " by the library" : "");
        }
    }

    private static boolean thrownByTheLibrary(RuntimeException e) {
        StackTraceElement[] frames = e.getStackTrace();
        return frames.length > 0 && !frames[0].getClassName().startsWith("PlayoutChain");
    }

    private static final class Run {
        private final int number;
        private final Random random;
        private final PlayoutChain chain = new PlayoutChain();
        private final Model model = new Model();
        private final int grain;
        private final int dayRange;
        private final List<String> told = new ArrayList<>();

        Run(int number) {
            this.number = number;
            this.random = new Random(number * 7919L + 17);
            this.grain = new int[] {1, 5, 10, 20, 60, 100}[random.nextInt(6)];
            this.dayRange = random.nextBoolean() ? 999 : 1 + random.nextInt(6);
        }

        void go() {
            for (int i = 0; i < CALLS && wrong < MOST_SHOWN; i++) {
                if (random.nextInt(i < 40 ? 2 : 5) == 0) {
                    change();
                } else {
                    ask();
                }
            }
        }

        private void compare(String call, Supplier<Object> ours, Supplier<Object> due) {
            asked++;
            told.add(call);
            String got = answer(ours);
            String want = answer(due);
            if (!got.equals(want)) {
                wrong++;
                System.out.println("run " + number + ": " + call + " answered " + got + ", due is " + want + ", after "
                        + told.subList(Math.max(0, told.size() - 30), told.size()));
            }
        }

        private int upTo(int most) {
            return random.nextInt(most + 1);
        }

        private int near(int low, int high) {
            switch (random.nextInt(14)) {
                case 0: return low;
                case 1: return high;
                case 2: return random.nextInt(3) == 0 ? low - 1 : low + 1;
                case 3: return random.nextInt(3) == 0 ? high + 1 : high - 1;
                default: return low + random.nextInt(high - low + 1);
            }
        }

        private int grained(int low, int high) {
            if (random.nextInt(8) == 0) {
                return near(low, high);
            }
            int value = upTo(random.nextInt(3) == 0 ? high : Math.min(high, grain * 12)) / grain * grain;
            return Math.max(low, value);
        }

        private void change() {
            switch (random.nextInt(20)) {
                case 0: case 1: addProgramme(); break;
                case 2: case 3: case 4: addPiece(); break;
                case 5: addPlays(); break;
                case 6: case 7: case 8: case 9: case 10: case 11: insert(); break;
                case 12: remove(); break;
                case 13: move(); break;
                case 14: case 15: setOverrun(); break;
                case 16: case 17: attach(); break;
                default: compare("air()", () -> chain.air(), () -> model.air());
            }
        }

        private void addProgramme() {
            int length = grained(1, 900);
            int level = near(-60, 0);
            int plays = random.nextInt(3) == 0 ? near(0, 99) : upTo(4);
            int first = random.nextInt(4) == 0 ? near(0, dayRange) : 0;
            int last = random.nextInt(4) == 0 ? near(0, dayRange) : near(dayRange, 999);
            compare("addProgramme(" + length + "," + level + "," + plays + "," + first + "," + last + ")",
                    () -> chain.addProgramme(length, level, plays, first, last),
                    () -> model.addProgramme(length, level, plays, first, last));
        }

        private void addPiece() {
            int length = random.nextInt(6) == 0 ? near(1, 900) : grain * (1 + upTo(8));
            int level = random.nextBoolean() ? near(-60, 0) : -20 - 3 * upTo(2);
            int first = random.nextInt(5) == 0 ? near(0, dayRange) : 0;
            int last = random.nextInt(5) == 0 ? near(0, dayRange) : near(dayRange, 999);
            compare("addPiece(" + length + "," + level + "," + first + "," + last + ")",
                    () -> chain.addPiece(length, level, first, last),
                    () -> model.addPiece(length, level, first, last));
        }

        private int clip() {
            int count = model.clips.size();
            return random.nextInt(12) == 0 ? upTo(count + 1) - 1 : upTo(Math.max(0, count - 1));
        }

        private int position() {
            int count = model.list.size();
            return random.nextInt(12) == 0 ? upTo(count + 1) - 1 : upTo(Math.max(0, count - 1));
        }

        private void addPlays() {
            int clip = clip();
            int plays = random.nextInt(3) == 0 ? near(1, 99) : 1 + upTo(3);
            compare("addPlays(" + clip + "," + plays + ")", () -> chain.addPlays(clip, plays),
                    () -> model.addPlays(clip, plays));
        }

        private void insert() {
            int position = random.nextInt(12) == 0 ? upTo(model.list.size() + 2) - 1 : upTo(model.list.size());
            int clip = clip();
            char mode = random.nextInt(25) == 0 ? (char) (97 + upTo(25)) : "ffcpj".charAt(random.nextInt(5));
            int start = random.nextInt(3) == 0 ? near(0, 3599) : grained(0, 3599);
            compare("insert(" + position + "," + clip + "," + mode + "," + start + ")",
                    () -> chain.insert(position, clip, mode, start), () -> model.insert(position, clip, mode, start));
        }

        private void remove() {
            int position = position();
            compare("remove(" + position + ")", () -> chain.remove(position), () -> model.remove(position));
        }

        private void move() {
            int position = position();
            int to = position();
            compare("move(" + position + "," + to + ")", () -> chain.move(position, to),
                    () -> model.move(position, to));
        }

        private void setOverrun() {
            int position = position();
            int seconds = grained(0, 900);
            compare("setOverrun(" + position + "," + seconds + ")", () -> chain.setOverrun(position, seconds),
                    () -> model.setOverrun(position, seconds));
        }

        private void attach() {
            int position = position();
            char side = random.nextInt(20) == 0 ? (char) (97 + upTo(25)) : random.nextBoolean() ? 's' : 'e';
            int offset = grained(0, 900);
            int length = grained(1, 900);
            compare("attach(" + position + "," + side + "," + offset + "," + length + ")",
                    () -> chain.attach(position, side, offset, length),
                    () -> model.attach(position, side, offset, length));
        }

        private int second() {
            if (random.nextBoolean() && !model.list.isEmpty()) {
                Event event = model.list.get(random.nextInt(model.list.size()));
                return event.start + upTo(40) - 20;
            }
            return random.nextInt(3) == 0 ? grained(0, 3599) : near(0, 3599);
        }

        private int index(int count) {
            return random.nextInt(12) == 0 ? upTo(count + 1) - 1 : upTo(Math.max(0, count - 1));
        }

        private int gap() {
            int sum = 0;
            for (Clip clip : model.clips) {
                if (clip.piece && random.nextBoolean()) {
                    sum += clip.length;
                }
            }
            return random.nextInt(3) == 0 ? near(1, 3600) : sum;
        }

        private void ask() {
            if (random.nextInt(4) == 0) {
                askFill();
            } else if (random.nextInt(3) == 0) {
                askDays();
            } else {
                askAir();
            }
        }

        private void askFill() {
            int gap = gap();
            int level = near(-60, 0);
            int index = upTo(5) - (random.nextInt(6) == 0 ? 1 : 0);
            switch (random.nextInt(4)) {
                case 0:
                    compare("fill(" + gap + "," + level + ")", () -> chain.fill(gap, level),
                            () -> model.fill(gap, level).size());
                    break;
                case 1:
                    compare("fillByTrying(" + gap + "," + level + ")", () -> chain.fillByTrying(gap, level),
                            () -> model.fill(gap, level).size());
                    break;
                case 2:
                    compare("fillAt(" + gap + "," + level + "," + index + ")",
                            () -> chain.fillAt(gap, level, index), () -> model.fillAt(gap, level, index));
                    break;
                default:
                    compare("deviation(" + gap + "," + level + ")", () -> chain.deviation(gap, level),
                            () -> model.deviation(model.fill(gap, level), gap, level));
            }
        }

        private void askDays() {
            int clip = clip();
            int entry = index(model.log.size());
            switch (random.nextInt(8)) {
                case 0: compare("today()", () -> chain.today(), () -> model.today); break;
                case 1: compare("entries()", () -> chain.entries(), () -> model.log.size()); break;
                case 2: compare("entryClip(" + entry + ")", () -> chain.entryClip(entry),
                        () -> model.span(model.log, entry).clip); break;
                case 3: compare("entryStart(" + entry + ")", () -> chain.entryStart(entry),
                        () -> model.span(model.log, entry).start); break;
                case 4: case 5: compare("apart()", () -> chain.apart(), () -> model.apart()); break;
                case 6: compare("aired(" + clip + ")", () -> chain.aired(clip), () -> model.clip(clip).aired); break;
                default: compare("plays(" + clip + ")", () -> chain.plays(clip), () -> model.programmeClip(clip).plays);
            }
        }

        private void askAir() {
            int position = position();
            int second = second();
            int span = index(model.layOut().spans.size());
            int secondary = upTo(random.nextInt(6) == 0 ? 4 : 3) - 1;
            switch (random.nextInt(17)) {
                case 0: compare("events()", () -> chain.events(), () -> model.list.size()); break;
                case 1: compare("programme(" + position + ")", () -> chain.programme(position),
                        () -> model.event(position).clip); break;
                case 2: case 3: compare("fate(" + position + ")", () -> chain.fate(position),
                        () -> model.fate(position)); break;
                case 4: compare("startOf(" + position + ")", () -> chain.startOf(position),
                        () -> model.startOf(position)); break;
                case 5: compare("endOf(" + position + ")", () -> chain.endOf(position),
                        () -> model.endOf(position)); break;
                case 6: compare("spans()", () -> chain.spans(), () -> model.layOut().spans.size()); break;
                case 7: compare("spanClip(" + span + ")", () -> chain.spanClip(span),
                        () -> model.span(model.layOut().spans, span).clip); break;
                case 8: compare("spanStart(" + span + ")", () -> chain.spanStart(span),
                        () -> model.span(model.layOut().spans, span).start); break;
                case 9: compare("spanLength(" + span + ")", () -> chain.spanLength(span),
                        () -> model.span(model.layOut().spans, span).length); break;
                case 10: compare("airAt(" + second + ")", () -> chain.airAt(second), () -> model.airAt(second)); break;
                case 11: compare("airBySeconds(" + second + ")", () -> chain.airBySeconds(second),
                        () -> model.airAt(second)); break;
                case 12: compare("slate()", () -> chain.slate(), () -> model.slate()); break;
                case 13: compare("showing(" + second + ")", () -> chain.showing(second),
                        () -> model.showing(second)); break;
                case 14: compare("secondaryStart(" + position + "," + secondary + ")",
                        () -> chain.secondaryStart(position, secondary),
                        () -> model.secondaryStart(position, secondary)); break;
                case 15: compare("meanLevel()", () -> chain.meanLevel(), () -> model.meanLevel()); break;
                default: compare("meanLevelBits()", () -> chain.meanLevelBits(),
                        () -> Float.floatToIntBits(model.meanLevel()));
            }
        }
    }

    private static final class Clip {
        boolean piece;
        int length;
        int level;
        int plays;
        int first;
        int last;
        long aired;
    }

    private static final class Event {
        int clip;
        char mode;
        int start;
        int overrun;
        List<int[]> secondaries = new ArrayList<>();
    }

    private static final class Span {
        int clip;
        int start;
        int length;
    }

    /** What lies on each second: a clip, the number of the span and the position of the event, -1 for none. */
    private static final class Layout {
        static final int LONGEST = 30000;
        int[] clipOn = new int[LONGEST];
        int[] spanOn = new int[LONGEST];
        int[] eventOn = new int[LONGEST];
        boolean[] barred = new boolean[12];
        boolean[] joined = new boolean[12];
        int[] wholeEnd = new int[12];
        int spanNumber = 0;
        List<Span> spans = new ArrayList<>();

        Layout() {
            cutAt(0);
        }

        void cutAt(int second) {
            for (int i = second; i < LONGEST; i++) {
                spanOn[i] = -1;
                eventOn[i] = -1;
                clipOn[i] = -1;
            }
        }

        void put(int clip, int event, int from, int to) {
            for (int i = from; i < to; i++) {
                spanOn[i] = spanNumber;
                eventOn[i] = event;
                clipOn[i] = clip;
            }
            spanNumber++;
        }

        int secondsOf(int event) {
            int seconds = 0;
            for (int i = 0; i < 3600; i++) {
                seconds += eventOn[i] == event ? 1 : 0;
            }
            return seconds;
        }

        int startOf(int event) {
            for (int i = 0; i < 3600; i++) {
                if (eventOn[i] == event) {
                    return i;
                }
            }
            throw new NoSuchElementException();
        }

        int endOf(int event) {
            return startOf(event) + secondsOf(event);
        }

        void findSpans() {
            for (int i = 0; i < 3600; i++) {
                if (i == 0 || spanOn[i] != spanOn[i - 1]) {
                    Span span = new Span();
                    span.clip = clipOn[i];
                    span.start = i;
                    spans.add(span);
                }
                spans.get(spans.size() - 1).length++;
            }
        }
    }

    private static final class Model {
        List<Clip> clips = new ArrayList<>();
        List<Event> list = new ArrayList<>();
        List<Span> log = new ArrayList<>();
        int[] clipsLogged = null;
        int today = 0;
        private Layout now = null;

        private static void check(boolean holds) {
            if (!holds) {
                throw new IllegalArgumentException();
            }
        }

        private static void checkRoom(boolean holds) {
            if (!holds) {
                throw new IllegalStateException();
            }
        }

        private static void checkIndex(int index, int count) {
            if (index < 0 || index >= count) {
                throw new IndexOutOfBoundsException();
            }
        }

        private int add(boolean piece, int length, int level, int plays, int first, int last) {
            check(length >= 1 && length <= 900 && level >= -60 && level <= 0);
            check(first >= 0 && first <= 999 && last >= 0 && last <= 999 && first <= last);
            check(plays >= 0 && plays <= 99);
            checkRoom(clips.size() < 12);
            checkRoom(!piece || clips.stream().filter(c -> c.piece).count() < 8);
            Clip clip = new Clip();
            clip.piece = piece;
            clip.length = length;
            clip.level = level;
            clip.plays = plays;
            clip.first = first;
            clip.last = last;
            clips.add(clip);
            now = null;
            return clips.size() - 1;
        }

        int addProgramme(int length, int level, int plays, int first, int last) {
            return add(false, length, level, plays, first, last);
        }

        int addPiece(int length, int level, int first, int last) {
            return add(true, length, level, 0, first, last);
        }

        Clip clip(int number) {
            checkIndex(number, clips.size());
            return clips.get(number);
        }

        Clip programmeClip(int number) {
            Clip clip = clip(number);
            if (clip.piece) {
                throw new UnsupportedOperationException();
            }
            return clip;
        }

        int addPlays(int number, int plays) {
            Clip clip = programmeClip(number);
            check(plays >= 1 && plays <= 99);
            clip.plays += plays;
            now = null;
            return clip.plays;
        }

        int insert(int position, int clip, char mode, int start) {
            checkIndex(clip, clips.size());
            checkIndex(position, list.size() + 1);
            programmeClip(clip);
            check("fcpj".indexOf(mode) >= 0);
            check(mode == 'f' || start >= 0 && start <= 3599);
            checkRoom(list.size() < 12);
            Event event = new Event();
            event.clip = clip;
            event.mode = mode;
            event.start = start;
            list.add(position, event);
            now = null;
            return list.size();
        }

        Event event(int position) {
            checkIndex(position, list.size());
            return list.get(position);
        }

        int remove(int position) {
            list.remove(event(position));
            now = null;
            return list.size();
        }

        int move(int position, int to) {
            event(position);
            event(to);
            list.add(to, list.remove(position));
            now = null;
            return position > to ? position - to : to - position;
        }

        int setOverrun(int position, int seconds) {
            Event event = event(position);
            check(seconds >= 0 && seconds <= 900);
            int before = event.overrun;
            event.overrun = seconds;
            now = null;
            return before;
        }

        int attach(int position, char side, int offset, int length) {
            Event event = event(position);
            check(side == 's' || side == 'e');
            check(offset >= 0 && offset <= 900);
            check(length >= 1 && length <= 900);
            checkRoom(event.secondaries.size() < 3);
            event.secondaries.add(new int[] {side, offset, length});
            return event.secondaries.size();
        }

        Layout layOut() {
            if (now == null) {
                now = newLayout();
            }
            return now;
        }

        private Layout newLayout() {
            Layout layout = new Layout();
            int[] taken = new int[clips.size()];
            int t = 0;
            for (int i = 0; i < list.size(); i++) {
                Event event = list.get(i);
                Clip clip = clips.get(event.clip);
                layout.barred[i] = today < clip.first || today > clip.last || taken[event.clip] == clip.plays;
                if (layout.barred[i]) {
                    continue;
                }
                taken[event.clip]++;
                int length = clip.length + event.overrun;
                int skipped = 0;
                if (event.mode != 'f' && event.start > t) {
                    fillGap(layout, t, event.start);
                    t = event.start;
                } else if (event.mode == 'c') {
                    layout.cutAt(event.start);
                    t = event.start;
                } else if (event.mode == 'j') {
                    skipped = t - event.start;
                }
                if (skipped < length) {
                    layout.joined[i] = skipped > 0;
                    layout.put(event.clip, i, t, t + length - skipped);
                    t += length - skipped;
                    layout.wholeEnd[i] = t;
                }
            }
            layout.cutAt(3600);
            if (t < 3600) {
                fillGap(layout, t, 3600);
            }
            layout.findSpans();
            return layout;
        }

        private void fillGap(Layout layout, int from, int to) {
            int level = -23;
            for (int i = 0; i < from; i++) {
                if (layout.eventOn[i] >= 0) {
                    level = clips.get(list.get(layout.eventOn[i]).clip).level;
                }
            }
            List<Integer> choice = choose(to - from, level);
            if (choice == null) {
                layout.put(-1, -1, from, to);
                return;
            }
            int t = from;
            for (int piece : choice) {
                layout.put(piece, -1, t, t + clips.get(piece).length);
                t += clips.get(piece).length;
            }
        }

        private List<Integer> choose(int gap, int level) {
            List<List<Integer>> all = new ArrayList<>();
            collect(0, gap, new ArrayList<>(), all);
            List<Integer> best = null;
            for (List<Integer> choice : all) {
                if (best == null || isAhead(choice, best, gap, level)) {
                    best = choice;
                }
            }
            return best;
        }

        private void collect(int from, int rest, List<Integer> chosen, List<List<Integer>> all) {
            if (rest == 0) {
                all.add(new ArrayList<>(chosen));
                return;
            }
            for (int i = clips.size() - 1; i >= from; i--) {
                Clip clip = clips.get(i);
                if (clip.piece && clip.first <= today && today <= clip.last && clip.length <= rest) {
                    chosen.add(i);
                    collect(i + 1, rest - clip.length, chosen, all);
                    chosen.remove(chosen.size() - 1);
                }
            }
        }

        private boolean isAhead(List<Integer> one, List<Integer> other, int gap, int level) {
            if (one.size() != other.size()) {
                return one.size() < other.size();
            }
            float deviation = deviation(one, gap, level);
            float otherDeviation = deviation(other, gap, level);
            if (deviation != otherDeviation) {
                return deviation < otherDeviation;
            }
            for (int i = 0; i < one.size(); i++) {
                if (!one.get(i).equals(other.get(i))) {
                    return one.get(i) < other.get(i);
                }
            }
            return false;
        }

        float deviation(List<Integer> choice, int gap, int level) {
            float sum = 0;
            for (int piece : choice) {
                sum = sum + (float) clips.get(piece).level * (float) clips.get(piece).length;
            }
            return Math.abs(sum / gap - level);
        }

        List<Integer> fill(int gap, int level) {
            check(gap >= 1 && gap <= 3600 && level >= -60 && level <= 0);
            List<Integer> choice = choose(gap, level);
            if (choice == null) {
                throw new NoSuchElementException();
            }
            return choice;
        }

        int fillAt(int gap, int level, int index) {
            List<Integer> choice = fill(gap, level);
            if (index < 0 || index >= choice.size()) {
                throw new NoSuchElementException();
            }
            return choice.get(index);
        }

        char fate(int position) {
            event(position);
            Layout layout = layOut();
            if (layout.barred[position]) {
                return 'r';
            }
            if (layout.secondsOf(position) == 0) {
                return 'x';
            }
            if (layout.endOf(position) < layout.wholeEnd[position]) {
                return 'c';
            }
            return layout.joined[position] ? 'j' : 'a';
        }

        int startOf(int position) {
            event(position);
            return layOut().startOf(position);
        }

        int endOf(int position) {
            event(position);
            return layOut().endOf(position);
        }

        Span span(List<Span> spans, int index) {
            checkIndex(index, spans.size());
            return spans.get(index);
        }

        int airAt(int second) {
            check(second >= 0 && second <= 3599);
            return layOut().clipOn[second];
        }

        int slate() {
            int seconds = 0;
            for (int i = 0; i < 3600; i++) {
                seconds += layOut().clipOn[i] == -1 ? 1 : 0;
            }
            return seconds;
        }

        /** Whether a secondary event shows is told from second to second of what is aired of its event. */
        private boolean shows(int position, int[] secondary, int second) {
            Layout layout = layOut();
            if (layout.eventOn[second] != position) {
                return false;
            }
            int start = secondary[0] == 's' ? layout.startOf(position) + secondary[1]
                    : layout.endOf(position) - secondary[1];
            return second >= start && second < start + secondary[2];
        }

        int showing(int second) {
            check(second >= 0 && second <= 3599);
            int number = 0;
            for (int i = 0; i < list.size(); i++) {
                for (int[] secondary : list.get(i).secondaries) {
                    number += shows(i, secondary, second) ? 1 : 0;
                }
            }
            return number;
        }

        int secondaryStart(int position, int index) {
            Event event = event(position);
            checkIndex(index, event.secondaries.size());
            for (int second = 0; second < 3600; second++) {
                if (shows(position, event.secondaries.get(index), second)) {
                    return second;
                }
            }
            throw new NoSuchElementException();
        }

        float meanLevel() {
            float sum = 0;
            int seconds = 0;
            for (Span span : layOut().spans) {
                if (span.clip >= 0) {
                    sum += (float) clips.get(span.clip).level * (float) span.length;
                    seconds += span.length;
                }
            }
            if (seconds == 0) {
                throw new NoSuchElementException();
            }
            return sum / seconds;
        }

        int air() {
            checkRoom(today != 999);
            Layout layout = layOut();
            log = layout.spans;
            clipsLogged = layout.clipOn;
            for (int i = 0; i < 3600; i++) {
                if (layout.clipOn[i] >= 0) {
                    clips.get(layout.clipOn[i]).aired++;
                }
            }
            for (int i = 0; i < list.size(); i++) {
                clips.get(list.get(i).clip).plays -= layout.barred[i] ? 0 : 1;
                list.get(i).overrun = 0;
            }
            today++;
            now = null;
            return log.size();
        }

        int apart() {
            if (clipsLogged == null) {
                throw new NoSuchElementException();
            }
            int seconds = 0;
            for (int i = 0; i < 3600; i++) {
                seconds += clipsLogged[i] != layOut().clipOn[i] ? 1 : 0;
            }
            return seconds;
        }
    }
}
