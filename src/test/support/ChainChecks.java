import java.util.NoSuchElementException;
import java.util.function.Supplier;

/** What the tests of single promises share: the object under test, how an answer and a refusal are looked at. */
abstract class ChainChecks {
    static final Class<? extends RuntimeException> INDEX = IndexOutOfBoundsException.class;
    static final Class<? extends RuntimeException> ARGUMENT = IllegalArgumentException.class;
    static final Class<? extends RuntimeException> STATE = IllegalStateException.class;
    static final Class<? extends RuntimeException> UNSUPPORTED = UnsupportedOperationException.class;
    static final Class<? extends RuntimeException> NONE = NoSuchElementException.class;
    static final int MIN = Integer.MIN_VALUE;
    static final int MAX = Integer.MAX_VALUE;

    /** As many spans and entries as a look asks about, so that it stays within the calls of an object. */
    private static final int MOST_LOOKED_AT = 16;

    static RecordedChain x;

    private static String sentence = "";
    private static int passed = 0;
    private static int failed = 0;

    static {
        Thread.setDefaultUncaughtExceptionHandler((thread, thrown) -> {
            System.out.println(sentence + ": threw what no test asks for");
            thrown.printStackTrace();
        });
    }

    /** A new object, for a sentence of the document; what fails from here on is told with the sentence. */
    static void sentence(String text) {
        sentence = text;
        x = new RecordedChain();
    }

    static void end(String test) {
        System.out.println(test + ": " + passed + " passed, " + failed + " failed");
        if (failed != 0 || passed == 0) {
            System.exit(1);
        }
    }

    static void is(Object got, Object due) {
        if (got.equals(due)) {
            passed++;
        } else {
            fails("answered " + got + ", due is " + due);
        }
    }

    /** The call throws what is due, by itself, and nobody sees afterwards that it was made. */
    static void refuses(Class<? extends RuntimeException> due, Supplier<Object> call) {
        RecordedChain live = x;
        refusesFrom(live, false, due, call);
        refusesFrom(live, true, due, call);
        x = live;
    }

    private static void refusesFrom(RecordedChain live, boolean laidOutAhead, Class<? extends RuntimeException> due,
            Supplier<Object> call) {
        RecordedChain without = live.again();
        RecordedChain with = live.again();
        if (laidOutAhead) {
            without.spans();
            with.spans();
        }
        x = with;
        String got = told(call);
        if (!got.equals(due.getSimpleName())) {
            fails("the call that is to be refused: " + got + ", due is " + due.getSimpleName());
        } else if (!lookAt(with).equals(lookAt(without))) {
            fails("the refused call has changed something");
        } else {
            passed++;
        }
    }

    private static void fails(String what) {
        failed++;
        int line = 0;
        for (StackTraceElement at : new Throwable().getStackTrace()) {
            if (line == 0 && at.getClassName().endsWith("Test")) {
                line = at.getLineNumber();
            }
        }
        System.out.println(sentence + " (line " + line + "): " + what);
    }

    static String told(Supplier<Object> call) {
        try {
            return String.valueOf(call.get());
        } catch (RuntimeException e) {
            return e.getClass().getSimpleName() + (thrownByTheClass(e) ? "" : " by the machine or the library");
        }
    }

    /** The class is to test what it uses and to throw itself, so an exception's first frame lies in it. */
    private static boolean thrownByTheClass(RuntimeException e) {
        StackTraceElement[] frames = e.getStackTrace();
        return frames.length > 0 && (frames[0].getClassName().equals("PlayoutChain")
                || frames[0].getClassName().startsWith("PlayoutChain$"));
    }

    /** What can be asked of a chain, and then what it does in further calls; it is of no use afterwards. */
    private static String lookAt(RecordedChain chain) {
        StringBuilder all = new StringBuilder();
        lookAtClips(chain, all);
        lookAtList(chain, all);
        lookAtAir(chain, all);
        lookAtLog(chain, all);
        lookAtRoom(chain, all);
        return all.toString();
    }

    private static void add(StringBuilder all, Supplier<Object> call) {
        all.append(told(call)).append(' ');
    }

    private static void lookAtClips(RecordedChain chain, StringBuilder all) {
        String last = "";
        for (int i = 0; i <= 12 && !last.equals("IndexOutOfBoundsException"); i++) {
            int clip = i;
            last = told(() -> chain.aired(clip));
            all.append(last).append(' ');
            add(all, () -> chain.plays(clip));
        }
        for (int gap = 10; gap <= 60; gap += 10) {
            int length = gap;
            add(all, () -> chain.fillAt(length, -20, 0));
            add(all, () -> chain.deviation(length, -20));
        }
    }

    private static void lookAtList(RecordedChain chain, StringBuilder all) {
        int events = chain.events();
        all.append(events).append(' ');
        for (int i = 0; i < events; i++) {
            int position = i;
            add(all, () -> chain.programme(position));
            add(all, () -> chain.fate(position));
            add(all, () -> chain.startOf(position));
            add(all, () -> chain.endOf(position));
            String last = "";
            for (int j = 0; j <= 3 && !last.equals("IndexOutOfBoundsException"); j++) {
                int index = j;
                last = told(() -> chain.secondaryStart(position, index));
                all.append(last).append(' ');
            }
        }
    }

    private static void lookAtAir(RecordedChain chain, StringBuilder all) {
        int spans = chain.spans();
        all.append(spans).append(' ');
        for (int i = 0; i < spans && i < MOST_LOOKED_AT; i++) {
            int index = i;
            add(all, () -> chain.spanClip(index));
            add(all, () -> chain.spanStart(index));
            add(all, () -> chain.spanLength(index));
        }
        add(all, () -> chain.slate());
        add(all, () -> chain.meanLevelBits());
        for (int second = 0; second < 3600; second += 450) {
            int at = second;
            add(all, () -> chain.showing(at));
        }
    }

    private static void lookAtLog(RecordedChain chain, StringBuilder all) {
        int entries = chain.entries();
        all.append(entries).append(' ');
        for (int i = 0; i < entries && i < MOST_LOOKED_AT; i++) {
            int entry = i;
            add(all, () -> chain.entryClip(entry));
            add(all, () -> chain.entryStart(entry));
        }
        add(all, () -> chain.today());
        add(all, () -> chain.apart());
    }

    /** How much room is left, and what the overruns are, is told only by calls that change something. */
    private static void lookAtRoom(RecordedChain chain, StringBuilder all) {
        int events = chain.events();
        for (int i = 0; i < events; i++) {
            int position = i;
            add(all, () -> chain.setOverrun(position, 1));
            add(all, () -> chain.attach(position, 's', 0, 1));
        }
        add(all, () -> chain.air());
        addUntilRefused(all, () -> chain.addPiece(10, -20, 0, 999));
        addUntilRefused(all, () -> chain.addProgramme(10, -20, 1, 0, 999));
        addUntilRefused(all, () -> chain.insert(0, 11, 'f', 0));
        addUntilRefused(all, () -> chain.insert(0, 0, 'f', 0));
        add(all, () -> chain.spans());
        add(all, () -> chain.slate());
    }

    private static void addUntilRefused(StringBuilder all, Supplier<Object> call) {
        String last = "";
        for (int i = 0; i <= 13 && !last.endsWith("Exception"); i++) {
            last = told(call);
            all.append(last).append(' ');
        }
    }

    /** The spans, each as its clip, its start and its length: 3@60+900. */
    static String onAir() {
        StringBuilder all = new StringBuilder();
        int spans = x.spans();
        for (int i = 0; i < spans; i++) {
            all.append(i == 0 ? "" : " ").append(x.spanClip(i)).append('@').append(x.spanStart(i)).append('+')
                    .append(x.spanLength(i));
        }
        return all.toString();
    }

    static String fates() {
        StringBuilder all = new StringBuilder();
        int events = x.events();
        for (int i = 0; i < events; i++) {
            all.append(x.fate(i));
        }
        return all.toString();
    }

    static int programme(int length) {
        return x.addProgramme(length, -20, 99, 0, 999);
    }

    static int piece(int length, int level) {
        return x.addPiece(length, level, 0, 999);
    }

    static int append(int clip, char mode, int start) {
        return x.insert(x.events(), clip, mode, start);
    }

    /** Events of the lengths 100, 200 and 300, each of the clip of its position. */
    static void threeEvents() {
        programme(100);
        programme(200);
        programme(300);
        append(0, 'f', 0);
        append(1, 'f', 0);
        append(2, 'f', 0);
    }

    static void clearList() {
        while (x.events() > 0) {
            x.remove(0);
        }
    }

    /** The pieces that fill a gap, asked in every way in which they can be. */
    static void filledBy(int gap, int level, int... due) {
        is(x.fill(gap, level), due.length);
        is(x.fillByTrying(gap, level), due.length);
        for (int i = 0; i < due.length; i++) {
            is(x.fillAt(gap, level, i), due[i]);
        }
        refuses(NONE, () -> x.fillAt(gap, level, due.length));
        refuses(NONE, () -> x.fillAt(gap, level, -1));
    }

    static void notFilled(int gap, int level) {
        refuses(NONE, () -> x.fill(gap, level));
        refuses(NONE, () -> x.fillByTrying(gap, level));
        refuses(NONE, () -> x.fillAt(gap, level, 0));
        refuses(NONE, () -> x.deviation(gap, level));
    }
}
