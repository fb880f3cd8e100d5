import java.util.ArrayList;
import java.util.List;

/**
 * A PlayoutChain that keeps every call made of it, so that it can be made once more as it stands; it never goes
 * beyond the 512 calls for which the document promises anything.
 */
final class RecordedChain {
    static final int MOST_CALLS = 512;

    /** One call of the face. */
    interface Call {
        Object on(PlayoutChain chain);
    }

    private final PlayoutChain chain = new PlayoutChain();
    private final List<Call> calls = new ArrayList<>();

    /** Makes a new object and all calls that this one has had, the refused ones too. */
    RecordedChain again() {
        RecordedChain other = new RecordedChain();
        for (Call call : calls) {
            try {
                other.ask(call);
            } catch (RuntimeException e) {
                // It was refused on this object too, which the test of that call looks at.
            }
        }
        return other;
    }

    int callsMade() {
        return calls.size();
    }

    private Object ask(Call call) {
        calls.add(call);
        if (calls.size() > MOST_CALLS) {
            throw new AssertionError("the test makes more than 512 calls of one object");
        }
        return call.on(chain);
    }

    int addProgramme(int length, int level, int plays, int first, int last) {
        return (int) ask(c -> c.addProgramme(length, level, plays, first, last));
    }

    int addPiece(int length, int level, int first, int last) {
        return (int) ask(c -> c.addPiece(length, level, first, last));
    }

    int plays(int clip) {
        return (int) ask(c -> c.plays(clip));
    }

    int addPlays(int clip, int plays) {
        return (int) ask(c -> c.addPlays(clip, plays));
    }

    int insert(int position, int clip, char mode, int start) {
        return (int) ask(c -> c.insert(position, clip, mode, start));
    }

    int remove(int position) {
        return (int) ask(c -> c.remove(position));
    }

    int move(int position, int to) {
        return (int) ask(c -> c.move(position, to));
    }

    int setOverrun(int position, int seconds) {
        return (int) ask(c -> c.setOverrun(position, seconds));
    }

    int attach(int position, char side, int offset, int length) {
        return (int) ask(c -> c.attach(position, side, offset, length));
    }

    int events() {
        return (int) ask(c -> c.events());
    }

    int programme(int position) {
        return (int) ask(c -> c.programme(position));
    }

    char fate(int position) {
        return (char) ask(c -> c.fate(position));
    }

    int startOf(int position) {
        return (int) ask(c -> c.startOf(position));
    }

    int endOf(int position) {
        return (int) ask(c -> c.endOf(position));
    }

    int spans() {
        return (int) ask(c -> c.spans());
    }

    int spanClip(int index) {
        return (int) ask(c -> c.spanClip(index));
    }

    int spanStart(int index) {
        return (int) ask(c -> c.spanStart(index));
    }

    int spanLength(int index) {
        return (int) ask(c -> c.spanLength(index));
    }

    int airAt(int second) {
        return (int) ask(c -> c.airAt(second));
    }

    int airBySeconds(int second) {
        return (int) ask(c -> c.airBySeconds(second));
    }

    int slate() {
        return (int) ask(c -> c.slate());
    }

    int showing(int second) {
        return (int) ask(c -> c.showing(second));
    }

    int secondaryStart(int position, int index) {
        return (int) ask(c -> c.secondaryStart(position, index));
    }

    float meanLevel() {
        return (float) ask(c -> c.meanLevel());
    }

    int meanLevelBits() {
        return (int) ask(c -> c.meanLevelBits());
    }

    int fill(int gap, int level) {
        return (int) ask(c -> c.fill(gap, level));
    }

    int fillByTrying(int gap, int level) {
        return (int) ask(c -> c.fillByTrying(gap, level));
    }

    int fillAt(int gap, int level, int index) {
        return (int) ask(c -> c.fillAt(gap, level, index));
    }

    float deviation(int gap, int level) {
        return (float) ask(c -> c.deviation(gap, level));
    }

    int air() {
        return (int) ask(c -> c.air());
    }

    int today() {
        return (int) ask(c -> c.today());
    }

    int entries() {
        return (int) ask(c -> c.entries());
    }

    int entryClip(int entry) {
        return (int) ask(c -> c.entryClip(entry));
    }

    int entryStart(int entry) {
        return (int) ask(c -> c.entryStart(entry));
    }

    int apart() {
        return (int) ask(c -> c.apart());
    }

    long aired(int clip) {
        return (long) ask(c -> c.aired(clip));
    }
}
