/**
 * The sentences that name a boundary: promises 6 to 12, the list.
 * The last value that is allowed and the first that is not, nothing there yet and no room left, each exception.
 */
public final class PlayoutChainListEdgesTest extends ChainChecks {
    private static final char[] FIXED = {'c', 'p', 'j'};

    public static void main(String[] args) {
        insert();
        insertRefusals();
        remove();
        move();
        setOverrun();
        attach();
        eventsAndProgramme();
        end("PlayoutChainListEdgesTest");
    }

    private static void insert() {
        sentence("promise 6: a position from 0");
        programme(10);
        programme(20);
        is(x.insert(0, 0, 'f', 0), 1);
        is(x.insert(0, 1, 'f', 0), 2);
        is(onAir(), "1@0+20 0@20+10 -1@30+3570");
        refuses(INDEX, () -> x.insert(-1, 0, 'f', 0));
        refuses(INDEX, () -> x.insert(MIN, 0, 'f', 0));
        sentence("promise 6: a position to the number of events");
        programme(10);
        programme(20);
        refuses(INDEX, () -> x.insert(1, 0, 'f', 0));
        is(x.insert(0, 0, 'f', 0), 1);
        is(x.insert(1, 1, 'f', 0), 2);
        is(onAir(), "0@0+10 1@10+20 -1@30+3570");
        refuses(INDEX, () -> x.insert(3, 0, 'f', 0));
        refuses(INDEX, () -> x.insert(MAX, 0, 'f', 0));
        sentence("promise 6: the position is the number of events ahead");
        programme(10);
        programme(20);
        programme(30);
        append(0, 'f', 0);
        append(1, 'f', 0);
        is(x.insert(1, 2, 'f', 0), 3);
        is(x.programme(0), 0);
        is(x.programme(1), 2);
        is(x.programme(2), 1);
        sentence("promise 6: the events behind the position keep what is theirs");
        threeEvents();
        x.setOverrun(0, 7);
        x.attach(1, 's', 5, 1);
        x.insert(0, 0, 'f', 0);
        x.insert(2, 0, 'f', 0);
        is(x.secondaryStart(3, 0), 312);
        refuses(INDEX, () -> x.secondaryStart(1, 0));
        is(x.setOverrun(0, 0), 0);
        is(x.setOverrun(1, 0), 7);
        is(x.setOverrun(2, 0), 0);
        sentence("promise 6: at most 12 events");
        programme(10);
        for (int i = 1; i <= 12; i++) {
            is(x.insert(0, 0, 'f', 0), i);
        }
        refuses(STATE, () -> x.insert(0, 0, 'f', 0));
        refuses(STATE, () -> x.insert(12, 0, 'c', 0));
        x.remove(5);
        is(x.insert(11, 0, 'f', 0), 12);
        sentence("promise 6: the overrun is at first 0");
        programme(10);
        append(0, 'f', 0);
        is(x.endOf(0), 10);
        is(x.setOverrun(0, 1), 0);
        sentence("promise 6: an event has no secondary event at first");
        programme(10);
        append(0, 'f', 0);
        refuses(INDEX, () -> x.secondaryStart(0, 0));
        is(x.attach(0, 's', 0, 1), 1);
        sentence("promise 6: the start is of no account for the mode 'f'");
        programme(10);
        append(0, 'f', MIN);
        append(0, 'f', -1);
        append(0, 'f', 0);
        append(0, 'f', 3599);
        append(0, 'f', 3600);
        append(0, 'f', MAX);
        is(fates(), "aaaaaa");
        is(onAir(), "0@0+10 0@10+10 0@20+10 0@30+10 0@40+10 0@50+10 -1@60+3540");
        for (char mode : FIXED) {
            sentence("promise 6: a fixed start from 0 for " + mode);
            programme(10);
            is(append(0, mode, 0), 1);
            is(x.startOf(0), 0);
            refuses(ARGUMENT, () -> x.insert(0, 0, mode, -1));
            refuses(ARGUMENT, () -> x.insert(0, 0, mode, MIN));
            sentence("promise 6: a fixed start to 3599 for " + mode);
            programme(10);
            is(append(0, mode, 3599), 1);
            is(x.startOf(0), 3599);
            refuses(ARGUMENT, () -> x.insert(0, 0, mode, 3600));
            refuses(ARGUMENT, () -> x.insert(0, 0, mode, MAX));
        }
    }

    private static void insertRefusals() {
        sentence("promise 6: no such clip");
        refuses(INDEX, () -> x.insert(0, 0, 'f', 0));
        programme(10);
        programme(20);
        is(x.insert(0, 1, 'f', 0), 1);
        refuses(INDEX, () -> x.insert(0, 2, 'f', 0));
        refuses(INDEX, () -> x.insert(0, -1, 'f', 0));
        refuses(INDEX, () -> x.insert(0, MIN, 'f', 0));
        refuses(INDEX, () -> x.insert(0, MAX, 'f', 0));
        sentence("promise 6: the clip is a piece");
        programme(10);
        piece(10, -20);
        refuses(UNSUPPORTED, () -> x.insert(0, 1, 'f', 0));
        refuses(UNSUPPORTED, () -> x.insert(0, 1, 'p', 0));
        sentence("promise 6: no such mode");
        programme(10);
        for (char mode : new char[] {(char) 0, 'F', 'C', 'P', 'J', 'a', 'b', 'd', 'e', 'g', 'i', 'k', 'o', 'q', 's',
                'r', 'x', ' ', (char) ('f' + 256), (char) ('c' + 256), (char) 65535}) {
            refuses(ARGUMENT, () -> x.insert(0, 0, mode, 0));
        }
        sentence("promise 6: no other sign than 4 is a mode");
        RecordedChain[] chain = {null};
        int taken = 0;
        for (int i = 0; i < 65536; i++) {
            if (i % 256 == 0) {
                chain[0] = new RecordedChain();
                chain[0].addProgramme(10, -20, 1, 0, 999);
            }
            char mode = (char) i;
            taken += told(() -> chain[0].insert(0, 0, mode, 0)).equals("IllegalArgumentException") ? 0 : 1;
        }
        is(taken, 4);
        sentence("promise 6: IndexOutOfBoundsException is listed ahead of UnsupportedOperationException");
        programme(10);
        piece(10, -20);
        refuses(INDEX, () -> x.insert(1, 1, 'f', 0));
        refuses(INDEX, () -> x.insert(-1, 1, 'f', 0));
        sentence("promise 6: IndexOutOfBoundsException is listed ahead of IllegalArgumentException");
        programme(10);
        refuses(INDEX, () -> x.insert(1, 0, 'q', 0));
        refuses(INDEX, () -> x.insert(0, 1, 'q', 0));
        refuses(INDEX, () -> x.insert(-1, 0, 'c', -1));
        refuses(INDEX, () -> x.insert(0, -1, 'j', 3600));
        sentence("promise 6: UnsupportedOperationException is listed ahead of IllegalArgumentException");
        piece(10, -20);
        refuses(UNSUPPORTED, () -> x.insert(0, 0, 'q', 0));
        refuses(UNSUPPORTED, () -> x.insert(0, 0, 'c', -1));
        refuses(UNSUPPORTED, () -> x.insert(0, 0, 'p', 3600));
        sentence("promise 6: IllegalStateException is listed last");
        programme(10);
        piece(10, -20);
        for (int i = 0; i < 12; i++) {
            append(0, 'f', 0);
        }
        refuses(INDEX, () -> x.insert(13, 0, 'f', 0));
        refuses(INDEX, () -> x.insert(-1, 0, 'f', 0));
        refuses(INDEX, () -> x.insert(0, 2, 'f', 0));
        refuses(UNSUPPORTED, () -> x.insert(12, 1, 'f', 0));
        refuses(ARGUMENT, () -> x.insert(0, 0, 'q', 0));
        refuses(ARGUMENT, () -> x.insert(0, 0, 'c', -1));
        refuses(ARGUMENT, () -> x.insert(0, 0, 'p', 3600));
    }

    private static void remove() {
        sentence("promise 7: no such event");
        programme(10);
        refuses(INDEX, () -> x.remove(0));
        append(0, 'f', 0);
        refuses(INDEX, () -> x.remove(1));
        refuses(INDEX, () -> x.remove(-1));
        refuses(INDEX, () -> x.remove(MIN));
        refuses(INDEX, () -> x.remove(MAX));
        sentence("promise 7: the first event");
        threeEvents();
        is(x.remove(0), 2);
        is(onAir(), "1@0+200 2@200+300 -1@500+3100");
        sentence("promise 7: the last event");
        threeEvents();
        is(x.remove(2), 2);
        is(onAir(), "0@0+100 1@100+200 -1@300+3300");
        sentence("promise 7: the only event");
        programme(10);
        append(0, 'f', 0);
        is(x.remove(0), 0);
        is(onAir(), "-1@0+3600");
        refuses(INDEX, () -> x.remove(0));
        sentence("promise 7: the last of 12 events");
        programme(10);
        for (int i = 0; i < 12; i++) {
            append(0, 'f', 0);
        }
        refuses(INDEX, () -> x.remove(12));
        is(x.remove(11), 11);
        sentence("promise 7: with its secondary events, and no others");
        threeEvents();
        x.attach(0, 's', 1, 1);
        x.attach(1, 's', 2, 1);
        x.attach(2, 's', 3, 1);
        x.remove(1);
        is(x.secondaryStart(0, 0), 1);
        is(x.secondaryStart(1, 0), 103);
        refuses(INDEX, () -> x.secondaryStart(0, 1));
        refuses(INDEX, () -> x.secondaryStart(1, 1));
        sentence("promise 7: its overrun goes with it, and no other one");
        threeEvents();
        x.setOverrun(0, 5);
        x.setOverrun(1, 6);
        x.setOverrun(2, 7);
        x.remove(1);
        is(onAir(), "0@0+105 2@105+307 -1@412+3188");
        is(x.setOverrun(0, 0), 5);
        is(x.setOverrun(1, 0), 7);
        sentence("promise 7: an event that comes to its position has neither its overrun nor its secondary events");
        programme(10);
        append(0, 'f', 0);
        x.setOverrun(0, 5);
        x.attach(0, 's', 0, 1);
        x.remove(0);
        append(0, 'f', 0);
        is(x.endOf(0), 10);
        is(x.setOverrun(0, 0), 0);
        refuses(INDEX, () -> x.secondaryStart(0, 0));
    }

    private static void move() {
        sentence("promise 8: no such event");
        programme(10);
        refuses(INDEX, () -> x.move(0, 0));
        append(0, 'f', 0);
        append(0, 'f', 0);
        refuses(INDEX, () -> x.move(2, 0));
        refuses(INDEX, () -> x.move(-1, 0));
        refuses(INDEX, () -> x.move(MIN, 0));
        refuses(INDEX, () -> x.move(MAX, 0));
        sentence("promise 8: no such position");
        programme(10);
        append(0, 'f', 0);
        append(0, 'f', 0);
        refuses(INDEX, () -> x.move(0, 2));
        refuses(INDEX, () -> x.move(0, -1));
        refuses(INDEX, () -> x.move(0, MIN));
        refuses(INDEX, () -> x.move(0, MAX));
        sentence("promise 8: from the first position to the last");
        threeEvents();
        is(x.move(0, 2), 2);
        is(onAir(), "1@0+200 2@200+300 0@500+100 -1@600+3000");
        sentence("promise 8: from the last position to the first");
        threeEvents();
        is(x.move(2, 0), 2);
        is(onAir(), "2@0+300 0@300+100 1@400+200 -1@600+3000");
        sentence("promise 8: to its own position");
        threeEvents();
        is(x.move(0, 0), 0);
        is(x.move(1, 1), 0);
        is(x.move(2, 2), 0);
        is(onAir(), "0@0+100 1@100+200 2@300+300 -1@600+3000");
        sentence("promise 8: by one position, to either side");
        threeEvents();
        is(x.move(1, 2), 1);
        is(onAir(), "0@0+100 2@100+300 1@400+200 -1@600+3000");
        is(x.move(1, 0), 1);
        is(onAir(), "2@0+300 0@300+100 1@400+200 -1@600+3000");
        sentence("promise 8: by 11 positions of 12");
        programme(10);
        programme(20);
        append(1, 'f', 0);
        for (int i = 1; i < 12; i++) {
            append(0, 'f', 0);
        }
        is(x.move(0, 11), 11);
        is(x.startOf(11), 110);
        is(x.events(), 12);
        is(x.move(11, 0), 11);
        is(x.endOf(0), 20);
        sentence("promise 8: with its overrun");
        threeEvents();
        x.setOverrun(0, 7);
        x.move(0, 2);
        is(x.endOf(2), 607);
        is(x.setOverrun(0, 0), 0);
        is(x.setOverrun(1, 0), 0);
        is(x.setOverrun(2, 0), 7);
        sentence("promise 8: with its secondary events");
        threeEvents();
        x.attach(0, 's', 5, 1);
        x.attach(0, 'e', 5, 1);
        x.move(0, 2);
        is(x.secondaryStart(2, 0), 505);
        is(x.secondaryStart(2, 1), 595);
        refuses(INDEX, () -> x.secondaryStart(0, 0));
        sentence("promise 8: with its mode and its start");
        threeEvents();
        append(0, 'p', 700);
        x.move(3, 0);
        is(onAir(), "-1@0+700 0@700+100 0@800+100 1@900+200 2@1100+300 -1@1400+2200");
    }

    private static void setOverrun() {
        sentence("promise 9: no such event");
        programme(10);
        refuses(INDEX, () -> x.setOverrun(0, 0));
        append(0, 'f', 0);
        refuses(INDEX, () -> x.setOverrun(1, 0));
        refuses(INDEX, () -> x.setOverrun(-1, 0));
        refuses(INDEX, () -> x.setOverrun(MIN, 0));
        refuses(INDEX, () -> x.setOverrun(MAX, 0));
        sentence("promise 9: between 0 and 900");
        programme(10);
        append(0, 'f', 0);
        is(x.setOverrun(0, 900), 0);
        is(x.endOf(0), 910);
        is(x.setOverrun(0, 0), 900);
        is(x.endOf(0), 10);
        refuses(ARGUMENT, () -> x.setOverrun(0, 901));
        refuses(ARGUMENT, () -> x.setOverrun(0, -1));
        refuses(ARGUMENT, () -> x.setOverrun(0, MIN));
        refuses(ARGUMENT, () -> x.setOverrun(0, MAX));
        sentence("promise 9: a refused overrun leaves the one before");
        programme(10);
        append(0, 'f', 0);
        x.setOverrun(0, 33);
        refuses(ARGUMENT, () -> x.setOverrun(0, 901));
        refuses(ARGUMENT, () -> x.setOverrun(0, -1));
        sentence("promise 9: the overrun is set, not added");
        programme(10);
        append(0, 'f', 0);
        is(x.setOverrun(0, 5), 0);
        is(x.setOverrun(0, 7), 5);
        is(x.setOverrun(0, 7), 7);
        is(x.endOf(0), 17);
        sentence("promise 9: of one event of two of the same programme");
        programme(10);
        append(0, 'f', 0);
        append(0, 'f', 0);
        x.setOverrun(1, 5);
        is(onAir(), "0@0+10 0@10+15 -1@25+3575");
        is(x.setOverrun(0, 0), 0);
        sentence("promise 9: IndexOutOfBoundsException is listed ahead of IllegalArgumentException");
        programme(10);
        append(0, 'f', 0);
        refuses(INDEX, () -> x.setOverrun(1, 901));
        refuses(INDEX, () -> x.setOverrun(-1, -1));
    }

    private static void attach() {
        sentence("promise 10: no such event");
        programme(10);
        refuses(INDEX, () -> x.attach(0, 's', 0, 1));
        append(0, 'f', 0);
        refuses(INDEX, () -> x.attach(1, 's', 0, 1));
        refuses(INDEX, () -> x.attach(-1, 's', 0, 1));
        refuses(INDEX, () -> x.attach(MIN, 'e', 0, 1));
        refuses(INDEX, () -> x.attach(MAX, 'e', 0, 1));
        sentence("promise 10: no such side");
        programme(10);
        append(0, 'f', 0);
        for (char side : new char[] {(char) 0, 'S', 'E', 'd', 'f', 'r', 't', 'c', ' ', (char) ('s' + 256),
                (char) ('e' + 256), (char) 65535}) {
            refuses(ARGUMENT, () -> x.attach(0, side, 0, 1));
        }
        for (char side : new char[] {'s', 'e'}) {
            sentence("promise 10: an offset between 0 and 900 for " + side);
            programme(900);
            append(0, 'f', 0);
            x.setOverrun(0, 100);
            is(x.attach(0, side, 0, 1), 1);
            is(x.attach(0, side, 900, 1), 2);
            is(x.secondaryStart(0, 1), side == 's' ? 900 : 100);
            refuses(ARGUMENT, () -> x.attach(0, side, -1, 1));
            refuses(ARGUMENT, () -> x.attach(0, side, 901, 1));
            refuses(ARGUMENT, () -> x.attach(0, side, MIN, 1));
            refuses(ARGUMENT, () -> x.attach(0, side, MAX, 1));
            sentence("promise 10: a length between 1 and 900 for " + side);
            programme(900);
            append(0, 'f', 0);
            x.setOverrun(0, 100);
            is(x.attach(0, side, 900, 1), 1);
            is(x.attach(0, side, 900, 900), 2);
            refuses(ARGUMENT, () -> x.attach(0, side, 900, 0));
            refuses(ARGUMENT, () -> x.attach(0, side, 900, -1));
            refuses(ARGUMENT, () -> x.attach(0, side, 900, 901));
            refuses(ARGUMENT, () -> x.attach(0, side, 900, MIN));
            refuses(ARGUMENT, () -> x.attach(0, side, 900, MAX));
        }
        sentence("promise 10: at most 3 secondary events of an event");
        programme(10);
        append(0, 'f', 0);
        append(0, 'f', 0);
        is(x.attach(0, 's', 0, 10), 1);
        is(x.attach(0, 'e', 10, 10), 2);
        is(x.attach(0, 's', 0, 10), 3);
        refuses(STATE, () -> x.attach(0, 's', 0, 10));
        refuses(STATE, () -> x.attach(0, 'e', 0, 10));
        is(x.showing(0), 3);
        is(x.attach(1, 's', 0, 10), 1);
        sentence("promise 10: secondary events that do not show are counted");
        programme(10);
        append(0, 'f', 0);
        is(x.attach(0, 's', 900, 1), 1);
        is(x.attach(0, 's', 900, 1), 2);
        is(x.attach(0, 's', 900, 1), 3);
        refuses(STATE, () -> x.attach(0, 's', 0, 1));
        sentence("promise 10: secondary events stay when the day was aired");
        programme(10);
        append(0, 'f', 0);
        x.attach(0, 's', 4, 1);
        x.attach(0, 's', 5, 1);
        x.attach(0, 's', 6, 1);
        x.air();
        is(x.secondaryStart(0, 0), 4);
        refuses(STATE, () -> x.attach(0, 's', 0, 1));
        sentence("promise 10: IndexOutOfBoundsException is listed ahead of IllegalArgumentException");
        programme(10);
        append(0, 'f', 0);
        refuses(INDEX, () -> x.attach(1, 'q', 0, 1));
        refuses(INDEX, () -> x.attach(-1, 's', 901, 1));
        refuses(INDEX, () -> x.attach(1, 's', 0, 0));
        sentence("promise 10: IndexOutOfBoundsException is listed ahead of IllegalStateException");
        programme(10);
        append(0, 'f', 0);
        x.attach(0, 's', 0, 1);
        x.attach(0, 's', 0, 1);
        x.attach(0, 's', 0, 1);
        refuses(INDEX, () -> x.attach(1, 's', 0, 1));
        refuses(INDEX, () -> x.attach(-1, 's', 0, 1));
        sentence("promise 10: IllegalArgumentException is listed ahead of IllegalStateException");
        programme(10);
        append(0, 'f', 0);
        x.attach(0, 's', 0, 1);
        x.attach(0, 's', 0, 1);
        x.attach(0, 's', 0, 1);
        refuses(ARGUMENT, () -> x.attach(0, 'q', 0, 1));
        refuses(ARGUMENT, () -> x.attach(0, 's', -1, 1));
        refuses(ARGUMENT, () -> x.attach(0, 's', 901, 1));
        refuses(ARGUMENT, () -> x.attach(0, 'e', 0, 0));
        refuses(ARGUMENT, () -> x.attach(0, 'e', 0, 901));
    }

    private static void eventsAndProgramme() {
        sentence("promise 11: no event, and 12 of them");
        is(x.events(), 0);
        programme(10);
        is(x.events(), 0);
        for (int i = 1; i <= 12; i++) {
            append(0, 'f', 0);
            is(x.events(), i);
        }
        x.remove(0);
        is(x.events(), 11);
        sentence("promise 11: events that are barred or not aired are counted");
        x.addProgramme(10, -20, 1, 0, 999);
        append(0, 'f', 0);
        append(0, 'f', 0);
        is(x.events(), 2);
        x.air();
        is(x.events(), 2);
        sentence("promise 12: no such event");
        piece(10, -20);
        programme(10);
        refuses(INDEX, () -> x.programme(0));
        append(1, 'f', 0);
        is(x.programme(0), 1);
        refuses(INDEX, () -> x.programme(1));
        refuses(INDEX, () -> x.programme(-1));
        refuses(INDEX, () -> x.programme(MIN));
        refuses(INDEX, () -> x.programme(MAX));
        sentence("promise 12: the last of 12 events");
        programme(10);
        programme(20);
        for (int i = 0; i < 11; i++) {
            append(0, 'f', 0);
        }
        append(1, 'f', 0);
        is(x.programme(10), 0);
        is(x.programme(11), 1);
        refuses(INDEX, () -> x.programme(12));
    }
}
