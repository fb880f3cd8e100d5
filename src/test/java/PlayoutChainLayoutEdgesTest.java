/**
 * The sentences that name a boundary: promises 13 to 15, what becomes of each event, and the rest of the day.
 * The last value that is allowed and the first that is not, nothing there yet and no room left, each exception.
 */
public final class PlayoutChainLayoutEdgesTest extends ChainChecks {
    private static final char[] FIXED = {'c', 'p', 'j'};

    public static void main(String[] args) {
        barredByDay();
        barredByPlays();
        barredIsPassedOver();
        startOfTheDay();
        startAheadOfAtAndBehindTheTime();
        cutAway();
        joined();
        endOfTheDay();
        restOfTheDay();
        fate();
        startOfAndEndOf();
        end("PlayoutChainLayoutEdgesTest");
    }

    private static void barredByDay() {
        sentence("promise 13: barred ahead of the first day of its programme, not on it");
        x.addProgramme(10, -20, 9, 2, 999);
        append(0, 'f', 0);
        is(x.fate(0), 'r');
        x.air();
        is(x.fate(0), 'r');
        x.air();
        is(x.fate(0), 'a');
        sentence("promise 13: barred behind the last day of its programme, not on it");
        x.addProgramme(10, -20, 9, 0, 1);
        append(0, 'f', 0);
        is(x.fate(0), 'a');
        x.air();
        is(x.fate(0), 'a');
        x.air();
        is(x.fate(0), 'r');
        sentence("promise 13: a programme of one day alone");
        x.addProgramme(10, -20, 9, 1, 1);
        append(0, 'f', 0);
        is(x.fate(0), 'r');
        x.air();
        is(x.fate(0), 'a');
        x.air();
        is(x.fate(0), 'r');
        is(x.plays(0), 8);
    }

    private static void barredByPlays() {
        sentence("promise 13: barred without plays");
        x.addProgramme(10, -20, 0, 0, 999);
        append(0, 'f', 0);
        is(x.fate(0), 'r');
        x.addPlays(0, 1);
        is(x.fate(0), 'a');
        sentence("promise 13: as many events ahead as plays are left, and one fewer");
        x.addProgramme(10, -20, 2, 0, 999);
        append(0, 'f', 0);
        append(0, 'f', 0);
        append(0, 'f', 0);
        append(0, 'f', 0);
        is(fates(), "aarr");
        x.addPlays(0, 1);
        is(fates(), "aaar");
        x.addPlays(0, 1);
        is(fates(), "aaaa");
        sentence("promise 13: events of another programme are not counted");
        x.addProgramme(10, -20, 1, 0, 999);
        x.addProgramme(20, -20, 1, 0, 999);
        append(1, 'f', 0);
        append(0, 'f', 0);
        append(1, 'f', 0);
        append(0, 'f', 0);
        is(fates(), "aarr");
        sentence("promise 13: events ahead that are not aired are counted, if they are not barred");
        x.addProgramme(10, -20, 1, 0, 999);
        programme(100);
        append(1, 'f', 0);
        append(0, 'j', 0);
        append(0, 'f', 0);
        is(fates(), "axr");
        sentence("promise 13: events ahead that are cut away are counted, if they are not barred");
        x.addProgramme(10, -20, 1, 0, 999);
        programme(100);
        append(0, 'f', 0);
        append(1, 'c', 0);
        append(0, 'f', 0);
        is(fates(), "xar");
        sentence("promise 13: events behind are not counted");
        x.addProgramme(10, -20, 1, 0, 999);
        append(0, 'p', 20);
        append(0, 'p', 40);
        is(fates(), "ar");
        x.move(1, 0);
        is(fates(), "ar");
        is(x.startOf(0), 40);
    }

    private static void barredIsPassedOver() {
        sentence("promise 13: a barred event takes no time");
        programme(10);
        x.addProgramme(900, -20, 0, 0, 999);
        append(0, 'f', 0);
        append(1, 'f', 0);
        append(0, 'f', 0);
        is(fates(), "ara");
        is(onAir(), "0@0+10 0@10+10 -1@20+3580");
        sentence("promise 13: a barred event makes no gap");
        programme(10);
        x.addProgramme(900, -20, 0, 0, 999);
        append(0, 'f', 0);
        append(1, 'p', 500);
        append(0, 'f', 0);
        is(onAir(), "0@0+10 0@10+10 -1@20+3580");
        sentence("promise 13: a barred event cuts nothing away");
        programme(10);
        x.addProgramme(900, -20, 0, 0, 999);
        append(0, 'f', 0);
        append(1, 'c', 5);
        is(fates(), "ar");
        is(onAir(), "0@0+10 -1@10+3590");
        sentence("promise 13: a list of barred events alone");
        x.addProgramme(10, -20, 0, 0, 999);
        append(0, 'f', 0);
        append(0, 'c', 100);
        is(onAir(), "-1@0+3600");
    }

    private static void startOfTheDay() {
        sentence("promise 14: laid out from the second 0 on");
        programme(10);
        append(0, 'f', 0);
        is(x.startOf(0), 0);
        is(x.endOf(0), 10);
        for (char mode : FIXED) {
            sentence("promise 14: a fixed start at the second 0, for " + mode);
            programme(10);
            append(0, mode, 0);
            is(fates(), "a");
            is(onAir(), "0@0+10 -1@10+3590");
            sentence("promise 14: a fixed start at the second 1, for " + mode);
            programme(10);
            append(0, mode, 1);
            is(fates(), "a");
            is(onAir(), "-1@0+1 0@1+10 -1@11+3589");
        }
    }

    private static void startAheadOfAtAndBehindTheTime() {
        for (char mode : FIXED) {
            sentence("promise 14: a fixed start one second behind t, for " + mode);
            programme(100);
            append(0, 'f', 0);
            append(0, mode, 101);
            is(fates(), "aa");
            is(onAir(), "0@0+100 -1@100+1 0@101+100 -1@201+3399");
            sentence("promise 14: a fixed start at t, for " + mode);
            programme(100);
            append(0, 'f', 0);
            append(0, mode, 100);
            is(fates(), "aa");
            is(onAir(), "0@0+100 0@100+100 -1@200+3400");
        }
        for (char mode : FIXED) {
            sentence("promise 14: a gap of one second is filled, for " + mode);
            programme(100);
            piece(1, -20);
            append(0, mode, 1);
            append(0, mode, 102);
            is(fates(), "aa");
            is(onAir(), "1@0+1 0@1+100 1@101+1 0@102+100 -1@202+3398");
        }
        sentence("promise 14: a fixed start one second ahead of t, for c");
        programme(100);
        append(0, 'f', 0);
        append(0, 'c', 99);
        is(fates(), "ca");
        is(onAir(), "0@0+99 0@99+100 -1@199+3401");
        sentence("promise 14: a fixed start one second ahead of t, for p");
        programme(100);
        append(0, 'f', 0);
        append(0, 'p', 99);
        is(fates(), "aa");
        is(onAir(), "0@0+100 0@100+100 -1@200+3400");
        sentence("promise 14: a fixed start one second ahead of t, for j");
        programme(100);
        append(0, 'f', 0);
        append(0, 'j', 99);
        is(fates(), "aj");
        is(onAir(), "0@0+100 0@100+99 -1@199+3401");
        sentence("promise 14: a pushed event starts at t from however far ahead");
        programme(900);
        programme(10);
        append(0, 'f', 0);
        append(0, 'f', 0);
        append(1, 'p', 0);
        is(x.startOf(2), 1800);
        is(x.endOf(2), 1810);
        is(fates(), "aaa");
    }

    private static void cutAway() {
        sentence("promise 13: an event is cut away from its second second on");
        programme(100);
        append(0, 'f', 0);
        append(0, 'f', 0);
        append(0, 'c', 101);
        is(fates(), "aca");
        is(onAir(), "0@0+100 0@100+1 0@101+100 -1@201+3399");
        sentence("promise 13: an event is cut away from its start on, and not aired");
        programme(100);
        append(0, 'f', 0);
        append(0, 'f', 0);
        append(0, 'c', 100);
        is(fates(), "axa");
        is(onAir(), "0@0+100 0@100+100 -1@200+3400");
        sentence("promise 13: all that lies behind is cut away, events, pieces and slate");
        programme(100);
        piece(30, -20);
        append(0, 'p', 30);
        append(0, 'p', 200);
        append(0, 'f', 0);
        append(0, 'c', 15);
        is(fates(), "xxxa");
        is(onAir(), "1@0+15 0@15+100 -1@115+3485");
        sentence("promise 13: slate is cut away");
        programme(100);
        append(0, 'p', 50);
        append(0, 'c', 20);
        is(onAir(), "-1@0+20 0@20+100 -1@120+3480");
        sentence("promise 13: slate is cut away to its last second but one, and to its first");
        programme(100);
        append(0, 'p', 50);
        append(0, 'c', 49);
        is(onAir(), "-1@0+49 0@49+100 -1@149+3451");
        append(0, 'c', 1);
        is(onAir(), "-1@0+1 0@1+100 -1@101+3499");
        sentence("promise 13: a piece is cut away as a whole at its start");
        programme(100);
        piece(30, -20);
        piece(20, -20);
        append(0, 'p', 50);
        append(0, 'c', 30);
        is(onAir(), "1@0+30 0@30+100 -1@130+3470");
        sentence("promise 13: a piece is cut away but for its first second");
        programme(100);
        piece(30, -20);
        piece(20, -20);
        append(0, 'p', 50);
        append(0, 'c', 31);
        is(onAir(), "1@0+30 2@30+1 0@31+100 -1@131+3469");
        sentence("promise 13: the second 0 cuts everything away");
        programme(100);
        append(0, 'f', 0);
        append(0, 'p', 200);
        append(0, 'c', 0);
        is(fates(), "xxa");
        is(onAir(), "0@0+100 -1@100+3500");
        sentence("promise 13: what was cut away is not laid out again");
        programme(100);
        piece(20, -20);
        append(0, 'p', 40);
        append(0, 'c', 20);
        is(onAir(), "-1@0+20 0@20+100 -1@120+3480");
        sentence("promise 13: t is the end of the event that cuts");
        programme(100);
        append(0, 'f', 0);
        append(0, 'f', 0);
        append(0, 'c', 50);
        append(0, 'f', 0);
        append(0, 'p', 251);
        is(fates(), "cxaaa");
        is(onAir(), "0@0+50 0@50+100 0@150+100 -1@250+1 0@251+100 -1@351+3249");
        sentence("promise 13: an event that cuts is cut itself");
        programme(100);
        append(0, 'f', 0);
        append(0, 'c', 60);
        append(0, 'c', 61);
        append(0, 'c', 62);
        is(fates(), "ccca");
        is(onAir(), "0@0+60 0@60+1 0@61+1 0@62+100 -1@162+3438");
    }

    private static void joined() {
        sentence("promise 13: a joined event of which one second is left");
        programme(100);
        append(0, 'f', 0);
        append(0, 'j', 1);
        append(0, 'f', 0);
        is(fates(), "aja");
        is(onAir(), "0@0+100 0@100+1 0@101+100 -1@201+3399");
        sentence("promise 13: a joined event that would have been over at t is not aired, and t stays as it was");
        programme(100);
        append(0, 'f', 0);
        append(0, 'j', 0);
        append(0, 'f', 0);
        is(fates(), "axa");
        is(onAir(), "0@0+100 0@100+100 -1@200+3400");
        sentence("promise 13: a joined event that would have been over ahead of t, and t stays as it was");
        programme(100);
        append(0, 'f', 0);
        append(0, 'f', 0);
        append(0, 'j', 50);
        append(0, 'f', 0);
        is(fates(), "aaxa");
        is(x.startOf(3), 200);
        sentence("promise 13: the overrun belongs to what a joined event would have been");
        programme(100);
        append(0, 'f', 0);
        append(0, 'j', 0);
        x.setOverrun(1, 1);
        is(fates(), "aj");
        is(onAir(), "0@0+100 0@100+1 -1@101+3499");
        sentence("promise 13: a joined event of which all but the first second is left");
        programme(100);
        append(0, 'f', 0);
        append(0, 'j', 99);
        is(fates(), "aj");
        is(x.startOf(1), 100);
        is(x.endOf(1), 199);
        sentence("promise 13: a joined event whose end is cut away is 'c'");
        programme(100);
        append(0, 'f', 0);
        append(0, 'j', 50);
        append(0, 'c', 149);
        is(fates(), "aca");
        sentence("promise 13: a joined event that ends where the next one cuts is 'j'");
        programme(100);
        append(0, 'f', 0);
        append(0, 'j', 50);
        append(0, 'c', 150);
        is(fates(), "aja");
        sentence("promise 13: a joined event that is cut away as a whole is 'x'");
        programme(100);
        append(0, 'f', 0);
        append(0, 'j', 50);
        append(0, 'c', 100);
        is(fates(), "axa");
    }

    private static void endOfTheDay() {
        sentence("promise 13: an event that ends at the second 3600 is aired as a whole");
        programme(100);
        append(0, 'p', 3500);
        is(fates(), "a");
        is(x.endOf(0), 3600);
        is(onAir(), "-1@0+3500 0@3500+100");
        sentence("promise 13: an event that ends at the second 3601 is cut away there");
        programme(100);
        append(0, 'p', 3501);
        is(fates(), "c");
        is(x.endOf(0), 3600);
        is(onAir(), "-1@0+3501 0@3501+99");
        sentence("promise 13: an event that starts at the second 3599 has one second");
        programme(100);
        append(0, 'p', 3499);
        append(0, 'f', 0);
        is(fates(), "ac");
        is(x.startOf(1), 3599);
        is(x.endOf(1), 3600);
        sentence("promise 13: an event that starts at the second 3600 is not aired");
        programme(100);
        append(0, 'p', 3500);
        append(0, 'f', 0);
        append(0, 'p', 3599);
        is(fates(), "axx");
        sentence("promise 13: an event of one second at the second 3599 is aired as a whole");
        programme(1);
        append(0, 'c', 3599);
        is(fates(), "a");
        is(onAir(), "-1@0+3599 0@3599+1");
        sentence("promise 13: an event that joins at the second 3599 is cut away at its end");
        programme(900);
        append(0, 'p', 2699);
        append(0, 'j', 3000);
        is(fates(), "ac");
        is(x.startOf(1), 3599);
        sentence("promise 13: an event that joins and ends at the second 3600 is 'j'");
        programme(900);
        append(0, 'p', 2699);
        append(0, 'j', 2700);
        is(fates(), "aj");
        is(onAir(), "-1@0+2699 0@2699+900 0@3599+1");
        sentence("promise 13: an event that joins at the second 3600 is not aired");
        programme(900);
        append(0, 'p', 2700);
        append(0, 'j', 3599);
        is(fates(), "ax");
        sentence("promise 13: an event that cuts comes to air although t lies behind the second 3600");
        programme(900);
        for (int i = 0; i < 5; i++) {
            append(0, 'f', 0);
        }
        is(fates(), "aaaax");
        append(0, 'c', 3599);
        is(fates(), "aaacxc");
        is(x.startOf(5), 3599);
        is(x.endOf(3), 3599);
        sentence("promise 13: an overrun reaches behind the second 3600");
        programme(900);
        append(0, 'p', 2700);
        is(fates(), "a");
        x.setOverrun(0, 1);
        is(fates(), "c");
        is(x.endOf(0), 3600);
    }

    private static void restOfTheDay() {
        sentence("promise 16: the rest of the day is a gap if t is 3599");
        programme(900);
        programme(899);
        append(0, 'f', 0);
        append(0, 'f', 0);
        append(0, 'f', 0);
        append(1, 'f', 0);
        is(onAir(), "0@0+900 0@900+900 0@1800+900 1@2700+899 -1@3599+1");
        sentence("promise 16: there is no rest of the day if t is 3600");
        programme(900);
        append(0, 'f', 0);
        append(0, 'f', 0);
        append(0, 'f', 0);
        append(0, 'f', 0);
        is(onAir(), "0@0+900 0@900+900 0@1800+900 0@2700+900");
        sentence("promise 16: there is no rest of the day if t is 3601");
        programme(900);
        append(0, 'f', 0);
        append(0, 'f', 0);
        append(0, 'f', 0);
        append(0, 'f', 0);
        x.setOverrun(3, 1);
        is(onAir(), "0@0+900 0@900+900 0@1800+900 0@2700+900");
        sentence("promise 16: the rest of the day is a gap if t came back from behind the second 3600");
        programme(900);
        programme(100);
        for (int i = 0; i < 5; i++) {
            append(0, 'f', 0);
        }
        append(1, 'c', 3499);
        is(onAir(), "0@0+900 0@900+900 0@1800+900 0@2700+799 1@3499+100 -1@3599+1");
        sentence("promise 16: the rest of the day is filled as another gap is");
        programme(900);
        programme(899);
        piece(1, -20);
        append(0, 'f', 0);
        append(0, 'f', 0);
        append(0, 'f', 0);
        append(1, 'f', 0);
        is(onAir(), "0@0+900 0@900+900 0@1800+900 1@2700+899 2@3599+1");
        sentence("promise 16: the whole day is a gap");
        for (int i = 0; i < 4; i++) {
            piece(900, -20);
        }
        is(onAir(), "0@0+900 1@900+900 2@1800+900 3@2700+900");
        sentence("promise 16: the longest gap ahead of an event");
        programme(1);
        for (int i = 0; i < 3; i++) {
            piece(900, -20);
        }
        piece(899, -20);
        append(0, 'p', 3599);
        is(onAir(), "1@0+900 2@900+900 3@1800+900 4@2700+899 0@3599+1");
    }

    private static void fate() {
        sentence("promise 13: no such event");
        programme(10);
        refuses(INDEX, () -> x.fate(0));
        append(0, 'f', 0);
        is(x.fate(0), 'a');
        refuses(INDEX, () -> x.fate(1));
        refuses(INDEX, () -> x.fate(-1));
        refuses(INDEX, () -> x.fate(MIN));
        refuses(INDEX, () -> x.fate(MAX));
        sentence("promise 13: the last of 12 events");
        programme(10);
        for (int i = 0; i < 12; i++) {
            append(0, 'f', 0);
        }
        is(x.fate(11), 'a');
        is(x.startOf(11), 110);
        is(x.endOf(11), 120);
        refuses(INDEX, () -> x.fate(12));
        refuses(INDEX, () -> x.startOf(12));
        refuses(INDEX, () -> x.endOf(12));
        sentence("promise 13: 'r' goes ahead of what would become of the event otherwise");
        x.addProgramme(100, -20, 0, 0, 999);
        programme(100);
        append(1, 'f', 0);
        append(0, 'j', 0);
        is(fates(), "ar");
        sentence("promise 13: an event whose overrun is aired is aired as a whole");
        programme(10);
        append(0, 'f', 0);
        x.setOverrun(0, 900);
        is(fates(), "a");
        append(0, 'c', 909);
        is(fates(), "ca");
        sentence("promise 13: an event that is pushed is aired as a whole");
        programme(10);
        append(0, 'f', 0);
        append(0, 'p', 0);
        is(fates(), "aa");
    }

    private static void startOfAndEndOf() {
        sentence("promise 14: no such event");
        programme(10);
        refuses(INDEX, () -> x.startOf(0));
        append(0, 'f', 0);
        is(x.startOf(0), 0);
        refuses(INDEX, () -> x.startOf(1));
        refuses(INDEX, () -> x.startOf(-1));
        refuses(INDEX, () -> x.startOf(MIN));
        refuses(INDEX, () -> x.startOf(MAX));
        sentence("promise 15: no such event");
        programme(10);
        refuses(INDEX, () -> x.endOf(0));
        append(0, 'f', 0);
        is(x.endOf(0), 10);
        refuses(INDEX, () -> x.endOf(1));
        refuses(INDEX, () -> x.endOf(-1));
        refuses(INDEX, () -> x.endOf(MIN));
        refuses(INDEX, () -> x.endOf(MAX));
        sentence("promises 14 and 15: nothing is aired of an event that is barred");
        x.addProgramme(10, -20, 0, 0, 999);
        append(0, 'f', 0);
        nothingIsAiredOf(0);
        sentence("promises 14 and 15: nothing is aired of an event that is cut away");
        programme(10);
        append(0, 'f', 0);
        append(0, 'c', 0);
        nothingIsAiredOf(0);
        sentence("promises 14 and 15: nothing is aired of an event that joins too late");
        programme(10);
        append(0, 'f', 0);
        append(0, 'j', 0);
        nothingIsAiredOf(1);
        sentence("promises 14 and 15: nothing is aired of an event behind the second 3600");
        programme(10);
        append(0, 'p', 3590);
        append(0, 'f', 0);
        nothingIsAiredOf(1);
        sentence("promises 14 and 15: one second is aired of an event");
        programme(10);
        append(0, 'f', 0);
        append(0, 'c', 1);
        is(x.startOf(0), 0);
        is(x.endOf(0), 1);
    }

    private static void nothingIsAiredOf(int position) {
        refuses(NONE, () -> x.startOf(position));
        refuses(NONE, () -> x.endOf(position));
    }
}
