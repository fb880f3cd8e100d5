/** Each promise of the document by itself: ordinary inputs, edges and wrong inputs. */
public final class PlayoutChainPromisesTest extends ChainChecks {
    public static void main(String[] args) {
        newObject();
        addProgramme();
        addPiece();
        plays();
        addPlays();
        insert();
        remove();
        move();
        setOverrun();
        attach();
        eventsAndProgramme();
        fate();
        barring();
        startAndEnd();
        spans();
        cutSpans();
        airAtSeconds();
        slate();
        showing();
        secondaryStart();
        meanLevel();
        fillByFewest();
        fillByDeviation();
        fillByLowerNumber();
        fillInFloat();
        fillOfToday();
        fillWrongInputs();
        levelAheadOfGap();
        askedFirst();
        newLayouts();
        air();
        lastDay();
        log();
        apart();
        aired();
        limits();
        end("PlayoutChainPromisesTest");
    }

    private static void newObject() {
        sentence("promise 1");
        is(x.events(), 0);
        is(x.today(), 0);
        is(x.entries(), 0);
        is(x.spans(), 1);
        is(x.slate(), 3600);
        is(x.spanClip(0), -1);
        refuses(INDEX, () -> x.plays(0));
        refuses(INDEX, () -> x.aired(0));
        refuses(INDEX, () -> x.fate(0));
        refuses(NONE, () -> x.apart());
        PlayoutChain other = new PlayoutChain();
        programme(100);
        append(0, 'f', 0);
        is(other.events(), 0);
        is(other.slate(), 3600);
    }

    private static void addProgramme() {
        sentence("promise 2");
        is(x.addProgramme(1, -60, 0, 0, 0), 0);
        is(x.addProgramme(900, 0, 99, 999, 999), 1);
        is(x.addPiece(10, 0, 0, 0), 2);
        is(x.addProgramme(500, -30, 7, 3, 5), 3);
        is(x.plays(3), 7);
        is(x.plays(0), 0);
        refuses(ARGUMENT, () -> x.addProgramme(0, -20, 1, 0, 0));
        refuses(ARGUMENT, () -> x.addProgramme(901, -20, 1, 0, 0));
        refuses(ARGUMENT, () -> x.addProgramme(MIN, -20, 1, 0, 0));
        refuses(ARGUMENT, () -> x.addProgramme(10, -61, 1, 0, 0));
        refuses(ARGUMENT, () -> x.addProgramme(10, 1, 1, 0, 0));
        refuses(ARGUMENT, () -> x.addProgramme(10, -20, -1, 0, 0));
        refuses(ARGUMENT, () -> x.addProgramme(10, -20, 100, 0, 0));
        refuses(ARGUMENT, () -> x.addProgramme(10, -20, 1, -1, 0));
        refuses(ARGUMENT, () -> x.addProgramme(10, -20, 1, 0, 1000));
        refuses(ARGUMENT, () -> x.addProgramme(10, -20, 1, 6, 5));
        refuses(ARGUMENT, () -> x.addProgramme(10, -20, 1, 1000, 1000));
        refuses(ARGUMENT, () -> x.addProgramme(10, -20, 1, -1, -1));
        is(x.addProgramme(500, -30, 7, 5, 5), 4);
        for (int i = 5; i < 12; i++) {
            is(programme(10), i);
        }
        refuses(STATE, () -> x.addProgramme(10, -20, 1, 0, 0));
        refuses(ARGUMENT, () -> x.addProgramme(0, -20, 1, 0, 0));
        refuses(ARGUMENT, () -> x.addProgramme(10, -20, 100, 0, 0));
    }

    private static void addPiece() {
        sentence("promise 3");
        is(x.addPiece(1, -60, 0, 0), 0);
        is(x.addProgramme(1, -60, 0, 0, 0), 1);
        is(x.addPiece(900, 0, 0, 999), 2);
        refuses(ARGUMENT, () -> x.addPiece(0, -20, 0, 0));
        refuses(ARGUMENT, () -> x.addPiece(901, -20, 0, 0));
        refuses(ARGUMENT, () -> x.addPiece(10, -61, 0, 0));
        refuses(ARGUMENT, () -> x.addPiece(10, 1, 0, 0));
        refuses(ARGUMENT, () -> x.addPiece(10, -20, -1, 0));
        refuses(ARGUMENT, () -> x.addPiece(10, -20, 0, 1000));
        refuses(ARGUMENT, () -> x.addPiece(10, -20, 6, 5));
        for (int i = 3; i < 9; i++) {
            is(piece(10, -20), i);
        }
        refuses(STATE, () -> x.addPiece(10, -20, 0, 0));
        refuses(ARGUMENT, () -> x.addPiece(10, 1, 0, 0));
        is(programme(10), 9);
        sentence("promise 3, clips");
        for (int i = 0; i < 12; i++) {
            programme(10);
        }
        refuses(STATE, () -> x.addPiece(10, -20, 0, 0));
        refuses(ARGUMENT, () -> x.addPiece(0, -20, 0, 0));
    }

    private static void plays() {
        sentence("promise 4");
        x.addProgramme(10, -20, 3, 0, 999);
        piece(10, -20);
        is(x.plays(0), 3);
        refuses(UNSUPPORTED, () -> x.plays(1));
        refuses(INDEX, () -> x.plays(2));
        refuses(INDEX, () -> x.plays(-1));
        refuses(INDEX, () -> x.plays(MIN));
        refuses(INDEX, () -> x.plays(MAX));
    }

    private static void addPlays() {
        sentence("promise 5");
        x.addProgramme(10, -20, 0, 0, 999);
        piece(10, -20);
        append(0, 'f', 0);
        is(x.fate(0), 'r');
        is(x.addPlays(0, 1), 1);
        is(x.fate(0), 'a');
        is(x.addPlays(0, 99), 100);
        is(x.plays(0), 100);
        refuses(INDEX, () -> x.addPlays(2, 1));
        refuses(INDEX, () -> x.addPlays(-1, 0));
        refuses(UNSUPPORTED, () -> x.addPlays(1, 1));
        refuses(UNSUPPORTED, () -> x.addPlays(1, 0));
        refuses(ARGUMENT, () -> x.addPlays(0, 0));
        refuses(ARGUMENT, () -> x.addPlays(0, 100));
        refuses(ARGUMENT, () -> x.addPlays(0, MIN));
        is(x.plays(0), 100);
    }

    private static void insert() {
        sentence("promise 6");
        programme(100);
        programme(200);
        piece(10, -20);
        is(x.insert(0, 0, 'f', MIN), 1);
        is(x.insert(0, 1, 'c', 0), 2);
        is(x.insert(2, 1, 'p', 3599), 3);
        is(x.insert(1, 0, 'j', 300), 4);
        is(x.programme(0), 1);
        is(x.programme(1), 0);
        is(x.programme(2), 0);
        is(x.programme(3), 1);
        refuses(INDEX, () -> x.insert(0, 3, 'f', 0));
        refuses(INDEX, () -> x.insert(0, -1, 'f', 0));
        refuses(INDEX, () -> x.insert(-1, 0, 'f', 0));
        refuses(INDEX, () -> x.insert(5, 0, 'f', 0));
        refuses(INDEX, () -> x.insert(5, 2, 'q', -1));
        refuses(UNSUPPORTED, () -> x.insert(0, 2, 'f', 0));
        refuses(UNSUPPORTED, () -> x.insert(0, 2, 'q', 0));
        refuses(ARGUMENT, () -> x.insert(0, 0, 'q', 0));
        refuses(ARGUMENT, () -> x.insert(0, 0, 'F', 0));
        refuses(ARGUMENT, () -> x.insert(0, 0, (char) 0, 0));
        refuses(ARGUMENT, () -> x.insert(0, 0, 'c', -1));
        refuses(ARGUMENT, () -> x.insert(0, 0, 'p', 3600));
        refuses(ARGUMENT, () -> x.insert(0, 0, 'j', MAX));
        for (int i = 5; i <= 12; i++) {
            is(append(0, 'f', 3600), i);
        }
        refuses(STATE, () -> x.insert(0, 0, 'f', 0));
        refuses(ARGUMENT, () -> x.insert(0, 0, 'c', 3600));
        refuses(UNSUPPORTED, () -> x.insert(12, 2, 'f', 0));
        refuses(INDEX, () -> x.insert(13, 0, 'f', 0));
    }

    private static void remove() {
        sentence("promise 7");
        programme(100);
        programme(200);
        programme(300);
        append(0, 'f', 0);
        append(1, 'f', 0);
        append(2, 'f', 0);
        x.attach(1, 's', 0, 50);
        is(x.showing(100), 1);
        refuses(INDEX, () -> x.remove(3));
        refuses(INDEX, () -> x.remove(-1));
        is(x.remove(1), 2);
        is(x.showing(100), 0);
        is(onAir(), "0@0+100 2@100+300 -1@400+3200");
        refuses(INDEX, () -> x.secondaryStart(1, 0));
        is(x.remove(1), 1);
        is(x.remove(0), 0);
        refuses(INDEX, () -> x.remove(0));
    }

    private static void move() {
        sentence("promise 8");
        programme(100);
        programme(200);
        programme(300);
        append(0, 'f', 0);
        append(1, 'f', 0);
        append(2, 'f', 0);
        x.setOverrun(0, 7);
        x.attach(0, 's', 5, 10);
        is(x.move(0, 2), 2);
        is(onAir(), "1@0+200 2@200+300 0@500+107 -1@607+2993");
        is(x.secondaryStart(2, 0), 505);
        is(x.setOverrun(2, 0), 7);
        is(x.move(2, 1), 1);
        is(onAir(), "1@0+200 0@200+100 2@300+300 -1@600+3000");
        is(x.move(1, 1), 0);
        is(x.programme(1), 0);
        is(x.events(), 3);
        refuses(INDEX, () -> x.move(3, 0));
        refuses(INDEX, () -> x.move(-1, 0));
        refuses(INDEX, () -> x.move(0, 3));
        refuses(INDEX, () -> x.move(0, -1));
        is(x.move(2, 0), 2);
        is(x.programme(0), 2);
    }

    private static void setOverrun() {
        sentence("promise 9");
        programme(100);
        append(0, 'f', 0);
        is(x.setOverrun(0, 900), 0);
        is(x.endOf(0), 1000);
        is(x.fate(0), 'a');
        is(x.setOverrun(0, 30), 900);
        is(x.endOf(0), 130);
        refuses(INDEX, () -> x.setOverrun(1, 0));
        refuses(INDEX, () -> x.setOverrun(-1, -1));
        refuses(ARGUMENT, () -> x.setOverrun(0, -1));
        refuses(ARGUMENT, () -> x.setOverrun(0, 901));
        is(x.setOverrun(0, 0), 30);
        is(x.endOf(0), 100);
    }

    private static void attach() {
        sentence("promise 10");
        programme(100);
        append(0, 'f', 0);
        append(0, 'f', 0);
        refuses(INDEX, () -> x.attach(2, 's', 0, 1));
        refuses(INDEX, () -> x.attach(-1, 'q', 0, 1));
        refuses(ARGUMENT, () -> x.attach(0, 'q', 0, 1));
        refuses(ARGUMENT, () -> x.attach(0, 'f', 0, 1));
        refuses(ARGUMENT, () -> x.attach(0, 's', -1, 1));
        refuses(ARGUMENT, () -> x.attach(0, 's', 901, 1));
        refuses(ARGUMENT, () -> x.attach(0, 'e', 0, 0));
        refuses(ARGUMENT, () -> x.attach(0, 'e', 0, 901));
        is(x.attach(0, 's', 0, 1), 1);
        is(x.attach(1, 'e', 900, 900), 1);
        is(x.attach(0, 's', 900, 900), 2);
        is(x.attach(0, 'e', 0, 1), 3);
        refuses(STATE, () -> x.attach(0, 's', 0, 1));
        refuses(ARGUMENT, () -> x.attach(0, 's', 0, 0));
        is(x.attach(1, 's', 0, 1), 2);
    }

    private static void eventsAndProgramme() {
        sentence("promises 11 and 12");
        piece(10, -20);
        programme(100);
        programme(200);
        is(x.events(), 0);
        refuses(INDEX, () -> x.programme(0));
        append(2, 'f', 0);
        append(1, 'c', 0);
        is(x.events(), 2);
        is(x.programme(0), 2);
        is(x.programme(1), 1);
        refuses(INDEX, () -> x.programme(2));
        refuses(INDEX, () -> x.programme(-1));
        refuses(INDEX, () -> x.programme(MIN));
    }

    private static void fate() {
        sentence("promise 13");
        programme(100);
        refuses(INDEX, () -> x.fate(0));
        append(0, 'f', 0);
        append(0, 'c', 60);
        append(0, 'j', 120);
        append(0, 'j', 50);
        append(0, 'p', 200);
        is(fates(), "cajxa");
        is(x.startOf(0), 0);
        is(x.endOf(0), 60);
        is(x.startOf(2), 160);
        is(x.endOf(2), 220);
        is(x.startOf(4), 220);
        is(x.endOf(4), 320);
        refuses(INDEX, () -> x.fate(5));
        refuses(INDEX, () -> x.fate(-1));
        sentence("promise 13, fixed starts at the time itself");
        programme(100);
        append(0, 'c', 0);
        append(0, 'c', 100);
        append(0, 'j', 200);
        append(0, 'p', 300);
        append(0, 'j', 301);
        is(fates(), "aaaaj");
        is(x.endOf(4), 401);
        append(0, 'j', 301);
        is(x.fate(5), 'x');
        append(0, 'j', 302);
        is(x.fate(6), 'j');
        is(x.startOf(6), 401);
        is(x.endOf(6), 402);
        sentence("promise 13, joined and cut");
        programme(100);
        append(0, 'f', 0);
        append(0, 'j', 50);
        append(0, 'c', 120);
        is(fates(), "aca");
        append(0, 'c', 100);
        is(fates(), "axxa");
        sentence("promise 13, joined with an overrun");
        programme(100);
        append(0, 'f', 0);
        append(0, 'j', 0);
        is(x.fate(1), 'x');
        x.setOverrun(1, 1);
        is(x.fate(1), 'j');
        is(x.startOf(1), 100);
        is(x.endOf(1), 101);
        sentence("promise 13, the end of the day");
        programme(100);
        append(0, 'p', 3500);
        append(0, 'f', 0);
        is(fates(), "ax");
        x.setOverrun(0, 1);
        is(fates(), "cx");
        is(x.endOf(0), 3600);
        append(0, 'c', 3599);
        is(fates(), "cxc");
        is(x.endOf(0), 3599);
        append(0, 'c', 3500);
        is(fates(), "xxxa");
    }

    private static void barring() {
        sentence("promise 13, barred");
        x.addProgramme(100, -20, 2, 0, 999);
        x.addProgramme(200, -20, 9, 1, 1);
        x.addProgramme(300, -20, 1, 0, 0);
        append(0, 'f', 0);
        append(1, 'f', 0);
        append(0, 'c', 0);
        append(0, 'f', 0);
        append(2, 'f', 0);
        append(2, 'f', 0);
        is(fates(), "xrarar");
        is(onAir(), "0@0+100 2@100+300 -1@400+3200");
        x.air();
        is(x.plays(0), 0);
        is(x.plays(1), 9);
        is(x.plays(2), 0);
        is(fates(), "rarrrr");
        x.air();
        is(fates(), "rrrrrr");
        is(x.plays(1), 8);
        is(x.addPlays(2, 5), 5);
        is(x.fate(4), 'r');
    }

    private static void startAndEnd() {
        sentence("promises 14 and 15");
        programme(100);
        x.addProgramme(100, -20, 0, 0, 999);
        append(0, 'p', 40);
        append(1, 'f', 0);
        append(0, 'j', 20);
        append(0, 'f', 0);
        is(x.startOf(0), 40);
        is(x.endOf(0), 140);
        refuses(NONE, () -> x.startOf(1));
        refuses(NONE, () -> x.endOf(1));
        refuses(NONE, () -> x.startOf(2));
        refuses(NONE, () -> x.endOf(2));
        is(x.startOf(3), 140);
        is(x.endOf(3), 240);
        refuses(INDEX, () -> x.startOf(4));
        refuses(INDEX, () -> x.startOf(-1));
        refuses(INDEX, () -> x.endOf(4));
        refuses(INDEX, () -> x.endOf(-1));
    }

    private static void spans() {
        sentence("promises 16 to 19");
        programme(100);
        piece(30, -10);
        piece(20, -10);
        append(0, 'p', 50);
        append(0, 'f', 0);
        append(0, 'p', 260);
        append(0, 'j', 380);
        is(x.spans(), 9);
        is(onAir(), "1@0+30 2@30+20 0@50+100 0@150+100 -1@250+10 0@260+100 2@360+20 0@380+100 -1@480+3120");
        refuses(INDEX, () -> x.spanClip(9));
        sentence("promises 16 to 19, wrong inputs");
        programme(900);
        append(0, 'f', 0);
        append(0, 'f', 0);
        append(0, 'f', 0);
        append(0, 'f', 0);
        is(x.spans(), 4);
        is(x.spanClip(3), 0);
        is(x.spanStart(3), 2700);
        is(x.spanLength(3), 900);
        append(0, 'f', 0);
        is(x.spans(), 4);
        refuses(INDEX, () -> x.spanClip(4));
        refuses(INDEX, () -> x.spanStart(4));
        refuses(INDEX, () -> x.spanLength(4));
        refuses(INDEX, () -> x.spanClip(-1));
        refuses(INDEX, () -> x.spanStart(-1));
        refuses(INDEX, () -> x.spanLength(MIN));
    }

    private static void cutSpans() {
        sentence("promise 16, pieces and slate that are cut");
        programme(100);
        piece(30, -10);
        piece(20, -10);
        append(0, 'p', 50);
        append(0, 'c', 35);
        is(onAir(), "1@0+30 2@30+5 0@35+100 -1@135+3465");
        is(fates(), "xa");
        x.remove(1);
        append(0, 'c', 30);
        is(onAir(), "1@0+30 0@30+100 -1@130+3470");
        x.remove(1);
        append(0, 'c', 0);
        is(onAir(), "0@0+100 -1@100+3500");
        sentence("promise 16, slate that is cut");
        programme(100);
        append(0, 'p', 300);
        append(0, 'c', 200);
        append(0, 'c', 250);
        is(onAir(), "-1@0+200 0@200+50 0@250+100 -1@350+3250");
        is(fates(), "xca");
    }

    private static void airAtSeconds() {
        sentence("promises 20 and 21");
        programme(100);
        piece(30, -10);
        append(0, 'p', 30);
        append(0, 'c', 100);
        append(0, 'p', 240);
        int[] seconds = {0, 29, 30, 99, 100, 199, 200, 239, 240, 339, 340, 3599};
        int[] due = {1, 1, 0, 0, 0, 0, -1, -1, 0, 0, -1, -1};
        for (int i = 0; i < seconds.length; i++) {
            is(x.airAt(seconds[i]), due[i]);
            is(x.airBySeconds(seconds[i]), due[i]);
        }
        refuses(ARGUMENT, () -> x.airAt(-1));
        refuses(ARGUMENT, () -> x.airAt(3600));
        refuses(ARGUMENT, () -> x.airAt(MIN));
        refuses(ARGUMENT, () -> x.airBySeconds(-1));
        refuses(ARGUMENT, () -> x.airBySeconds(3600));
        refuses(ARGUMENT, () -> x.airBySeconds(MAX));
    }

    private static void slate() {
        sentence("promise 22");
        is(x.slate(), 3600);
        programme(900);
        piece(30, -10);
        append(0, 'p', 30);
        is(x.slate(), 2670);
        append(0, 'p', 1000);
        is(x.slate(), 70 + 1700);
        append(0, 'f', 0);
        append(0, 'f', 0);
        is(x.slate(), 70);
        x.remove(1);
        x.remove(1);
        piece(870, -10);
        piece(900, -10);
        piece(900, -20);
        is(onAir(), "1@0+30 0@30+900 0@930+900 2@1830+870 4@2700+900");
        is(x.slate(), 0);
    }

    private static void showing() {
        sentence("promise 23");
        programme(100);
        programme(50);
        append(0, 'p', 200);
        append(1, 'f', 0);
        x.attach(0, 's', 10, 20);
        x.attach(0, 'e', 10, 20);
        x.attach(0, 's', 0, 900);
        x.attach(1, 'e', 900, 900);
        is(x.showing(199), 0);
        is(x.showing(200), 1);
        is(x.showing(209), 1);
        is(x.showing(210), 2);
        is(x.showing(229), 2);
        is(x.showing(230), 1);
        is(x.showing(289), 1);
        is(x.showing(290), 2);
        is(x.showing(299), 2);
        is(x.showing(300), 1);
        is(x.showing(349), 1);
        is(x.showing(350), 0);
        append(1, 'c', 215);
        is(x.showing(215), 0);
        is(x.showing(214), 3);
        is(x.showing(204), 1);
        is(x.showing(205), 2);
        x.insert(0, 0, 'f', 0);
        x.setOverrun(0, 200);
        is(x.showing(214), 0);
        refuses(ARGUMENT, () -> x.showing(-1));
        refuses(ARGUMENT, () -> x.showing(3600));
    }

    private static void secondaryStart() {
        sentence("promise 24");
        programme(100);
        append(0, 'f', 0);
        append(0, 'j', 60);
        x.attach(1, 's', 5, 10);
        x.attach(1, 'e', 5, 10);
        x.attach(1, 'e', 61, 2);
        is(x.startOf(1), 100);
        is(x.endOf(1), 160);
        is(x.secondaryStart(1, 0), 105);
        is(x.secondaryStart(1, 1), 155);
        is(x.secondaryStart(1, 2), 100);
        refuses(INDEX, () -> x.secondaryStart(1, 3));
        refuses(INDEX, () -> x.secondaryStart(1, -1));
        refuses(INDEX, () -> x.secondaryStart(2, 0));
        refuses(INDEX, () -> x.secondaryStart(-1, 0));
        refuses(INDEX, () -> x.secondaryStart(0, 0));
        x.attach(0, 's', 99, 900);
        x.attach(0, 's', 100, 900);
        x.attach(0, 'e', 0, 900);
        is(x.secondaryStart(0, 0), 99);
        refuses(NONE, () -> x.secondaryStart(0, 1));
        refuses(NONE, () -> x.secondaryStart(0, 2));
        sentence("promise 24, ahead of the event");
        programme(100);
        append(0, 'p', 500);
        x.attach(0, 'e', 150, 50);
        x.attach(0, 'e', 150, 51);
        x.attach(0, 'e', 100, 1);
        refuses(NONE, () -> x.secondaryStart(0, 0));
        is(x.secondaryStart(0, 1), 500);
        is(x.secondaryStart(0, 2), 500);
        is(x.showing(500), 2);
        is(x.showing(501), 0);
        append(0, 'c', 400);
        refuses(NONE, () -> x.secondaryStart(0, 1));
    }

    private static void meanLevel() {
        sentence("promises 25 and 26");
        refuses(NONE, () -> x.meanLevel());
        refuses(NONE, () -> x.meanLevelBits());
        x.addProgramme(100, -10, 99, 0, 999);
        x.addProgramme(200, -37, 99, 0, 999);
        x.addProgramme(1, 0, 99, 0, 999);
        x.addProgramme(900, -60, 99, 0, 999);
        x.addProgramme(900, -1, 99, 0, 999);
        refuses(NONE, () -> x.meanLevelBits());
        append(0, 'f', 0);
        mean(-1000f / 100f);
        append(1, 'p', 150);
        mean(-8400f / 300f);
        append(0, 'c', 180);
        mean((-1000f - 37f * 30f - 1000f) / 230f);
        clearList();
        append(2, 'f', 0);
        mean(0f);
        is(x.meanLevelBits(), 0);
        append(4, 'f', 0);
        mean(-900f / 901f);
        append(3, 'c', 1);
        mean(-54000f / 901f);
        clearList();
        append(3, 'f', 0);
        mean(-60f);
        clearList();
        for (int i = 0; i < 4; i++) {
            append(4, 'f', 0);
        }
        mean(-1f);
        clearList();
        piece(10, -33);
        append(0, 'p', 10);
        mean(-1330f / 110f);
        x.air();
        mean(-1330f / 110f);
        sentence("promise 26, the smallest mean");
        x.addProgramme(900, 0, 99, 0, 999);
        x.addProgramme(1, -1, 99, 0, 999);
        for (int i = 0; i < 4; i++) {
            append(0, 'f', 0);
        }
        append(1, 'c', 3599);
        mean(-1f / 3600f);
    }

    private static void mean(float due) {
        is(x.meanLevel(), due);
        is(x.meanLevelBits(), Float.floatToIntBits(due));
    }

    private static void fillByFewest() {
        sentence("promises 27 to 29, by as few pieces as possible");
        programme(60);
        piece(10, -20);
        piece(20, -20);
        piece(30, -20);
        piece(60, -60);
        filledBy(60, -20, 4);
        filledBy(10, -20, 1);
        filledBy(30, -20, 3);
        filledBy(40, -20, 1, 3);
        filledBy(50, -20, 2, 3);
        filledBy(120, -20, 1, 2, 3, 4);
        piece(120, 0);
        filledBy(120, -20, 5);
        sentence("promises 27 to 29, the longest gap");
        for (int i = 0; i < 5; i++) {
            piece(900, -20);
        }
        filledBy(3600, -20, 0, 1, 2, 3);
        is(onAir(), "0@0+900 1@900+900 2@1800+900 3@2700+900");
        refuses(NONE, () -> x.fill(3599, -20));
        refuses(NONE, () -> x.fillByTrying(3599, -20));
    }

    private static void fillByDeviation() {
        sentence("promises 27 to 30, by the least deviation");
        piece(10, -40);
        piece(20, -10);
        piece(10, -20);
        piece(20, -30);
        filledBy(10, -20, 2);
        filledBy(10, -31, 0);
        filledBy(10, -29, 2);
        filledBy(30, -60, 0, 3);
        filledBy(30, 0, 1, 2);
        filledBy(30, -21, 0, 1);
        is(x.deviation(30, -21), Math.abs(-600f / 30f + 21f));
        is(x.deviation(30, 0), Math.abs(-400f / 30f));
        is(x.deviation(30, -60), Math.abs(-1000f / 30f + 60f));
        is(x.deviation(10, -20), 0f);
        is(x.deviation(10, -40), 0f);
    }

    private static void fillByLowerNumber() {
        sentence("promise 29, by the lower number");
        piece(10, -30);
        programme(10);
        piece(10, -10);
        piece(20, -20);
        piece(20, -20);
        piece(10, -30);
        piece(10, -10);
        filledBy(10, -20, 0);
        filledBy(10, -25, 0);
        filledBy(10, -10, 2);
        filledBy(20, -20, 3);
        filledBy(40, -20, 3, 4);
        filledBy(50, -20, 0, 3, 4);
        filledBy(50, -10, 2, 3, 4);
        filledBy(60, -20, 0, 2, 3, 4);
        sentence("promise 29, where the pieces first differ");
        piece(10, -20);
        piece(40, -20);
        piece(30, -20);
        piece(20, -20);
        filledBy(50, -20, 0, 1);
        filledBy(70, -20, 1, 2);
        sentence("promise 29, the first of two sets that share no piece");
        piece(20, -20);
        piece(10, -20);
        piece(40, -20);
        piece(30, -20);
        filledBy(50, -20, 0, 3);
    }

    private static void fillInFloat() {
        sentence("promises 27 to 30, the shortest gap");
        piece(1, -30);
        piece(1, -10);
        filledBy(1, -10, 1);
        filledBy(1, -25, 0);
        is(x.deviation(1, -25), 5f);
        is(x.deviation(2, -25), 5f);
        sentence("promise 30, in float");
        piece(7, -13);
        piece(3, -19);
        is(x.deviation(10, -15), Math.abs(-148f / 10f + 15f));
        is(x.deviation(10, -14), Math.abs(-148f / 10f + 14f));
        is((double) x.deviation(10, -15) == 0.2, false);
        refuses(NONE, () -> x.deviation(11, -15));
        refuses(ARGUMENT, () -> x.deviation(0, -15));
        refuses(ARGUMENT, () -> x.deviation(3601, -15));
        refuses(ARGUMENT, () -> x.deviation(10, -61));
        refuses(ARGUMENT, () -> x.deviation(10, 1));
    }

    private static void fillOfToday() {
        sentence("promise 27, the pieces of today");
        x.addPiece(10, -20, 0, 0);
        x.addPiece(10, -20, 0, 1);
        x.addPiece(10, -20, 1, 2);
        x.addPiece(20, -20, 2, 2);
        filledBy(10, -20, 0);
        filledBy(20, -20, 0, 1);
        refuses(NONE, () -> x.fill(30, -20));
        x.air();
        filledBy(10, -20, 1);
        filledBy(20, -20, 1, 2);
        refuses(NONE, () -> x.fillByTrying(40, -20));
        x.air();
        filledBy(10, -20, 2);
        filledBy(20, -20, 3);
        filledBy(30, -20, 2, 3);
        x.air();
        refuses(NONE, () -> x.fill(10, -20));
        refuses(NONE, () -> x.fillByTrying(10, -20));
        x.addPiece(10, -50, 3, 3);
        filledBy(10, -20, 4);
        sentence("promise 27, a piece that has had its days");
        x.addPiece(10, -20, 0, 9);
        x.addPiece(20, -20, 0, 9);
        x.addPiece(30, -20, 0, 0);
        filledBy(30, -20, 2);
        x.air();
        filledBy(30, -20, 0, 1);
        sentence("promise 27, a piece whose days come");
        x.addPiece(10, -20, 0, 9);
        x.addPiece(20, -20, 0, 9);
        x.addPiece(30, -20, 1, 1);
        filledBy(30, -20, 0, 1);
        x.air();
        filledBy(30, -20, 2);
        x.air();
        filledBy(30, -20, 0, 1);
    }

    private static void fillWrongInputs() {
        sentence("promises 27 to 29, wrong inputs");
        piece(10, -20);
        refuses(ARGUMENT, () -> x.fill(0, -20));
        refuses(ARGUMENT, () -> x.fill(3601, -20));
        refuses(ARGUMENT, () -> x.fill(MIN, -20));
        refuses(ARGUMENT, () -> x.fill(10, -61));
        refuses(ARGUMENT, () -> x.fill(10, 1));
        refuses(ARGUMENT, () -> x.fillByTrying(0, -20));
        refuses(ARGUMENT, () -> x.fillByTrying(3601, -20));
        refuses(ARGUMENT, () -> x.fillByTrying(10, -61));
        refuses(ARGUMENT, () -> x.fillByTrying(10, 1));
        refuses(ARGUMENT, () -> x.fillAt(0, -20, 0));
        refuses(ARGUMENT, () -> x.fillAt(3601, -20, 0));
        refuses(ARGUMENT, () -> x.fillAt(10, -61, 0));
        refuses(ARGUMENT, () -> x.fillAt(11, 1, 9));
        refuses(NONE, () -> x.fillAt(11, -20, 0));
        refuses(NONE, () -> x.fillAt(10, -20, MAX));
        is(x.fill(10, -60), 1);
        is(x.fill(10, 0), 1);
        refuses(NONE, () -> x.fill(1, -20));
        refuses(NONE, () -> x.fill(3600, -20));
    }

    private static void levelAheadOfGap() {
        sentence("fill, the level ahead of the gap");
        piece(10, -10);
        piece(10, -23);
        piece(10, -50);
        piece(10, -33);
        x.addProgramme(100, -50, 99, 0, 999);
        x.addProgramme(100, -10, 99, 0, 999);
        x.addProgramme(100, -33, 0, 0, 999);
        append(4, 'p', 10);
        append(5, 'p', 120);
        append(6, 'f', 0);
        append(5, 'j', 120);
        append(4, 'p', 230);
        is(fates(), "aarxa");
        is(onAir(), "1@0+10 4@10+100 2@110+10 5@120+100 0@220+10 4@230+100 -1@330+3270");
        append(5, 'c', 220);
        append(5, 'p', 330);
        is(onAir(), "1@0+10 4@10+100 2@110+10 5@120+100 5@220+100 0@320+10 5@330+100 -1@430+3170");
        x.remove(5);
        x.remove(5);
        append(4, 'c', 120);
        append(5, 'p', 230);
        is(onAir(), "1@0+10 4@10+100 2@110+10 4@120+100 2@220+10 5@230+100 -1@330+3270");
        sentence("fill, the gap that ends the day");
        x.addProgramme(900, -50, 99, 0, 999);
        piece(10, -10);
        piece(10, -50);
        append(0, 'p', 2690);
        is(x.spanClip(x.spans() - 1), 2);
        sentence("fill, no event ahead of the gap");
        piece(10, -22);
        piece(10, -24);
        piece(20, -24);
        piece(20, -22);
        x.addProgramme(100, -50, 99, 0, 999);
        append(4, 'p', 10);
        is(x.spanClip(0), 0);
        x.remove(0);
        append(4, 'p', 20);
        is(x.spanClip(0), 2);
    }

    private static void beginWithEvents() {
        sentence("asked first after a change");
        programme(100);
        piece(20, -10);
        append(0, 'p', 20);
        append(0, 'j', 60);
        x.attach(1, 'e', 10, 5);
    }

    /** A question is answered from the list as it is, whatever was asked before. */
    private static void askedFirst() {
        beginWithEvents();
        is(x.fate(1), 'j');
        beginWithEvents();
        is(x.startOf(1), 120);
        beginWithEvents();
        is(x.endOf(1), 160);
        beginWithEvents();
        is(x.spans(), 4);
        beginWithEvents();
        is(x.spanClip(2), 0);
        beginWithEvents();
        is(x.spanStart(2), 120);
        beginWithEvents();
        is(x.spanLength(2), 40);
        beginWithEvents();
        is(x.airAt(150), 0);
        beginWithEvents();
        is(x.airBySeconds(150), 0);
        beginWithEvents();
        is(x.slate(), 3440);
        beginWithEvents();
        is(x.showing(150), 1);
        beginWithEvents();
        is(x.secondaryStart(1, 0), 150);
        beginWithEvents();
        is(x.meanLevel(), (-2800f - 200f) / 160f);
        beginWithEvents();
        is(x.meanLevelBits(), Float.floatToIntBits((-2800f - 200f) / 160f));
        beginWithEvents();
        is(x.air(), 4);
        is(x.apart(), 0);
        x.remove(1);
        is(x.apart(), 40);
    }

    /** Nothing of an earlier layout stays, and every change makes a new one. */
    private static void newLayouts() {
        sentence("new layouts");
        x.addProgramme(100, -20, 9, 0, 0);
        x.addProgramme(300, -20, 9, 0, 999);
        append(0, 'p', 50);
        append(0, 'j', 100);
        x.attach(0, 's', 0, 10);
        is(x.startOf(0), 50);
        is(x.endOf(1), 200);
        x.insert(0, 1, 'f', 0);
        is(fates(), "aax");
        refuses(NONE, () -> x.startOf(2));
        x.remove(0);
        is(fates(), "aj");
        piece(50, -20);
        is(x.spanClip(0), 2);
        is(x.showing(55), 1);
        x.air();
        is(fates(), "rr");
        refuses(NONE, () -> x.startOf(0));
        refuses(NONE, () -> x.endOf(1));
        refuses(NONE, () -> x.secondaryStart(0, 0));
        is(x.showing(55), 0);
        sentence("new layouts, one second");
        programme(1);
        append(0, 'f', 0);
        is(x.airBySeconds(0), 0);
        is(x.airBySeconds(1), -1);
        is(x.airAt(1), -1);
    }

    private static void air() {
        sentence("promise 31");
        x.addProgramme(100, -20, 5, 0, 1);
        x.addProgramme(200, -20, 5, 0, 999);
        append(0, 'f', 0);
        append(1, 'c', 50);
        append(1, 'j', 0);
        append(0, 'c', 50);
        x.setOverrun(0, 20);
        x.setOverrun(3, 30);
        is(fates(), "cxxa");
        is(x.air(), 3);
        is(x.plays(0), 3);
        is(x.plays(1), 3);
        is(x.today(), 1);
        is(x.setOverrun(0, 0), 0);
        is(x.setOverrun(3, 0), 0);
        is(x.air(), 3);
        is(x.plays(0), 1);
        is(x.plays(1), 1);
        is(fates(), "rarr");
        is(x.air(), 3);
        is(x.plays(0), 1);
        is(x.plays(1), 0);
        is(x.events(), 4);
        is(fates(), "rrrr");
        is(x.air(), 1);
        sentence("promise 31, an empty list");
        is(x.air(), 1);
        is(x.today(), 1);
    }

    /** The day 999 lies behind the 512 calls, where nothing is promised; the class refuses it all the same. */
    private static void lastDay() {
        sentence("promise 31, the last day");
        PlayoutChain chain = new PlayoutChain();
        chain.addProgramme(100, -20, 5, 999, 999);
        chain.insert(0, 0, 'f', 0);
        for (int i = 0; i < 999; i++) {
            is(chain.today(), i);
            is(chain.air(), 1);
        }
        is(chain.today(), 999);
        is(chain.fate(0), 'a');
        is(told(() -> chain.air()), "IllegalStateException");
        is(chain.today(), 999);
        is(chain.plays(0), 5);
        is(chain.aired(0), 0L);
        is(chain.entryClip(0), -1);
    }

    private static void log() {
        sentence("promises 32 to 35");
        programme(100);
        piece(30, -10);
        is(x.today(), 0);
        is(x.entries(), 0);
        refuses(INDEX, () -> x.entryClip(0));
        refuses(INDEX, () -> x.entryStart(0));
        append(0, 'p', 30);
        is(x.entries(), 0);
        is(x.air(), 3);
        is(x.today(), 1);
        is(x.entries(), 3);
        is(x.entryClip(0), 1);
        is(x.entryStart(0), 0);
        is(x.entryClip(1), 0);
        is(x.entryStart(1), 30);
        is(x.entryClip(2), -1);
        is(x.entryStart(2), 130);
        refuses(INDEX, () -> x.entryClip(3));
        refuses(INDEX, () -> x.entryClip(-1));
        refuses(INDEX, () -> x.entryStart(3));
        refuses(INDEX, () -> x.entryStart(-1));
        x.remove(0);
        is(x.spans(), 1);
        is(x.entries(), 3);
        is(x.entryClip(1), 0);
        is(x.air(), 1);
        is(x.entries(), 1);
        is(x.entryClip(0), -1);
        refuses(INDEX, () -> x.entryStart(1));
    }

    private static void apart() {
        sentence("promise 36");
        programme(100);
        programme(100);
        append(0, 'p', 100);
        refuses(NONE, () -> x.apart());
        x.air();
        is(x.apart(), 0);
        append(0, 'c', 150);
        is(x.apart(), 50);
        x.insert(0, 1, 'p', 50);
        is(x.apart(), 50 + 50 + 50);
        x.remove(2);
        x.remove(1);
        is(x.apart(), 50 + 50 + 50);
        x.move(0, 0);
        x.air();
        is(x.apart(), 0);
        x.remove(0);
        is(x.apart(), 100);
        sentence("promise 36, spans of the same clip");
        programme(100);
        programme(200);
        append(0, 'f', 0);
        append(0, 'f', 0);
        x.air();
        x.remove(1);
        x.setOverrun(0, 100);
        is(x.apart(), 0);
        x.remove(0);
        append(1, 'f', 0);
        is(x.apart(), 200);
    }

    private static void aired() {
        sentence("promise 37");
        programme(100);
        piece(30, -10);
        programme(900);
        append(0, 'p', 30);
        append(2, 'c', 90);
        is(x.aired(0), 0L);
        x.air();
        is(x.aired(0), 60L);
        is(x.aired(1), 30L);
        is(x.aired(2), 900L);
        x.setOverrun(1, 900);
        x.air();
        is(x.aired(0), 120L);
        is(x.aired(1), 60L);
        is(x.aired(2), 2700L);
        append(0, 'f', 0);
        x.air();
        is(x.aired(0), 280L);
        is(x.aired(2), 3600L);
        refuses(INDEX, () -> x.aired(3));
        refuses(INDEX, () -> x.aired(-1));
    }

    /** The most that can be laid out: 12 events, and pieces in every gap. */
    private static void limits() {
        sentence("limits");
        for (int i = 0; i < 8; i++) {
            piece(1 + i, -10 - i);
        }
        filledBy(8, 0, 7);
        filledBy(36, 0, 0, 1, 2, 3, 4, 5, 6, 7);
        programme(1);
        for (int i = 0; i < 12; i++) {
            append(8, 'p', 36 + 37 * i);
        }
        is(x.spans(), 12 * 9 + 1);
        is(x.air(), 12 * 9 + 1);
        is(x.entries(), 12 * 9 + 1);
        is(x.entryStart(12 * 9), 12 * 37);
        is(x.slate(), 3600 - 12 * 37);
        is(x.apart(), 0);
        sentence("limits, equal choices");
        for (int i = 0; i < 8; i++) {
            piece(900, -60 + i);
        }
        filledBy(3600, -60, 0, 1, 2, 3);
        filledBy(3600, 0, 4, 5, 6, 7);
        filledBy(1800, -57, 0, 6);
        filledBy(1800, -54, 5, 7);
        is(x.deviation(1800, -57), 0f);
    }
}
