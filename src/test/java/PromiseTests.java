/** Each promise of the document by hand: ordinary inputs, edges, and wrong inputs in the order of the errors. */
public final class PromiseTests {
    private static final int NO_SUCH = -1, BAD_VALUE = -2, BAD_TEXT = -3, TOO_MANY = -4, NOT_POSSIBLE = -5, NONE = -6;
    private static final int START = 0, TOP = 1, GAIN = 2, GRIP = 3, PULL = 4;
    private static final int TIME = 0, MOVING = 2, DISPLACED = 3, PLANS = 4, STEPS = 5, LOST = 6, HIGHEST = 7, PAD = 13, UNDOABLE = 14;
    private static final int SAYS = 0, STANDS = 1, LEFT = 5, LEVEL = 6, NEXT = 7, WAITS = 8;
    private static final int ZERO = 1000000;

    private static int wrong = 0;
    private static String part = "";

    private static void due(String call, long got, long want) {
        if (got != want) {
            wrong++;
            System.out.println(part + ": " + call + " answered " + got + ", due is " + want);
        }
    }

    /** A bench with a shaft for each micro step. */
    private static RampShafts bench(int... micros) {
        RampShafts x = new RampShafts();
        for (int number = 0; number < micros.length; number++) {
            due("shaft", x.shaft(micros[number]), number);
        }
        return x;
    }

    private static void passed(RampShafts x, int ticks) {
        for (int rest = ticks; rest > 0; rest -= 999) {
            if (x.pass(Math.min(rest, 999)) < 0) due("pass", -1, 0);
        }
    }

    private static long packed(String text) {
        long characters = 0;
        for (int i = 0; i < text.length(); i++) characters = characters << 8 | text.charAt(i);
        return characters;
    }

    private static void write(RampShafts x, String text) {
        x.wipe();
        for (int at = 0; at < text.length(); at += 8) {
            String piece = text.substring(at, Math.min(at + 8, text.length()));
            due("put " + piece, x.put(packed(piece)), at + piece.length());
        }
    }

    private static void faultIs(String text, int want) {
        RampShafts x = new RampShafts();
        write(x, text);
        due("fault of " + text, x.fault(), want);
        due("carryOut of " + text, x.carryOut() == BAD_TEXT ? 1 : 0, want == NONE ? 0 : 1);
        due("the pad then, of " + text, x.count(PAD), want == NONE ? 0 : text.length());
        due("undoable then, of " + text, x.count(UNDOABLE), want == NONE ? 1 : 0);
    }

    private static void newObject() {
        RampShafts x = new RampShafts();
        int[] first = {0, 0, 0, 0, 0, 0, 0, 5, 60, 10, 10, 4, 2, 0, 0};
        for (int what = 0; what < first.length; what++) due("count(" + what + ")", x.count(what), first[what]);
        due("of", x.of(0, 0), NO_SUCH);
        due("planned", x.planned(0, 0), NO_SUCH);
        due("undo", x.undo(), NOT_POSSIBLE);
        due("restore", x.restore(0), NOT_POSSIBLE);
        due("restore", x.restore(1), NOT_POSSIBLE);
        due("fault", x.fault(), 0);
        due("nextStep", x.nextStep(0, 0), NONE);
    }

    private static void settings() {
        int[] least = {10, 2, 1, 0, 0}, most = {200, 50, 40, 40, 20}, first = {60, 10, 10, 4, 2};
        for (int setting = START; setting <= PULL; setting++) {
            RampShafts x = new RampShafts();
            due("below", x.set(setting, least[setting] - 1), BAD_VALUE);
            due("above", x.set(setting, most[setting] + 1), BAD_VALUE);
            due("nothing recorded", x.count(UNDOABLE), 0);
            due("least", x.set(setting, least[setting]), first[setting]);
            due("most", x.set(setting, most[setting]), least[setting]);
            due("count", x.count(8 + setting), most[setting]);
            due("again", x.set(setting, most[setting]), most[setting]);
            due("recorded", x.count(UNDOABLE), 3);
        }
        RampShafts x = bench(1);
        due("no setting", x.set(-1, 20), BAD_VALUE);
        due("no setting", x.set(5, 20), BAD_VALUE);
        due("no setting", x.set(Integer.MIN_VALUE, 20), BAD_VALUE);
        due("no value", x.set(START, Integer.MAX_VALUE), BAD_VALUE);
        x.move(0, 10);
        x.set(START, 200);
        due("next as before", x.of(0, NEXT), 60);
        x.pass(60);
        due("then by the new setting", x.of(0, NEXT), 190);
    }

    private static void shafts() {
        RampShafts x = new RampShafts();
        for (int micro : new int[] {0, 3, 5, -1, 8, Integer.MIN_VALUE}) due("micro " + micro, x.shaft(micro), BAD_VALUE);
        due("shaft", x.shaft(1), 0);
        due("shaft", x.shaft(2), 1);
        due("shaft", x.shaft(4), 2);
        due("shaft", x.shaft(4), 3);
        due("a fifth", x.shaft(1), TOO_MANY);
        due("a wrong fifth", x.shaft(3), BAD_VALUE);
        due("count", x.count(1), 4);
        due("recorded", x.count(UNDOABLE), 4);
        due("micro", x.of(1, 2), 2);
        due("undo", x.undo(), 3);
        due("count", x.count(1), 3);
        due("its number again", x.shaft(1), 3);
        due("micro", x.of(3, 2), 1);
    }

    private static void loads() {
        RampShafts x = bench(1);
        due("no shaft", x.load(1, 10), NO_SUCH);
        due("no shaft", x.load(-1, 0), NO_SUCH);
        due("below", x.load(0, -1), BAD_VALUE);
        due("above", x.load(0, 10), BAD_VALUE);
        due("load", x.load(0, 9), 0);
        due("load", x.load(0, 0), 9);
        due("recorded", x.count(UNDOABLE), 3);
        // a step with an interval of just GRIP + PULL * load is not lost, with one less it is
        x.set(GRIP, 24);
        x.set(PULL, 4);
        x.load(0, 9);
        x.move(0, 1);
        x.pass(60);
        due("not lost", x.of(0, STANDS), ZERO + 1);
        x.set(GRIP, 25);
        x.move(0, 0);
        x.pass(60);
        due("lost", x.of(0, STANDS), ZERO + 1);
        due("says", x.of(0, SAYS), ZERO);
        due("lost ones", x.of(0, 10), 1);
        due("steps", x.of(0, 9), 2);
    }

    private static void moves() {
        RampShafts x = bench(1, 4);
        due("no shaft", x.move(2, 10000), NO_SUCH);
        due("no shaft", x.move(-1, 0), NO_SUCH);
        due("above", x.move(0, 10000), BAD_VALUE);
        due("below", x.move(0, -10000), BAD_VALUE);
        due("over at once", x.move(0, 0), 0);
        due("rests", x.of(0, 4), 0);
        due("over at once", x.move(1, -3), 0);
        due("rests", x.of(1, 4), 0);
        due("farthest", x.move(1, -9999), 0);
        due("rounded down", x.of(1, LEFT), 2499);
        due("behind all", x.of(1, 11), ZERO - 9996);
        due("begins", x.move(0, 1), 0);
        due("waits", x.move(0, 1), 1);
        due("waits", x.move(0, 1), 2);
        due("waits", x.move(0, 3), 3);
        due("a fourth", x.move(0, 4), TOO_MANY);
        due("a wrong fourth", x.move(0, 10000), BAD_VALUE);
        x.pass(60);
        due("those over at once are gone", x.of(0, WAITS), 0);
        due("left", x.of(0, LEFT), 2);
        due("next", x.of(0, NEXT), 60);
        x.pass(120 - 10);
        due("says", x.of(0, SAYS), ZERO + 3);
        due("rests", x.of(0, NEXT), NONE);
    }

    private static void ramps() {
        RampShafts x = bench(1);
        x.move(0, 9);
        int[] levels = {0, 1, 2, 3, 4, 3, 2, 1, 0};
        int[] intervals = {60, 50, 40, 30, 20, 30, 40, 50, 60};
        for (int step = 0; step < 9; step++) {
            due("level of " + step, x.of(0, LEVEL), levels[step]);
            due("interval of " + step, x.of(0, NEXT), intervals[step]);
            due("none before", x.pass(intervals[step] - 1), 0);
            due("one then", x.pass(1), 1);
        }
        due("rests", x.of(0, 4), 0);
        x.move(0, 100);
        passed(x, 60 + 50 + 40 + 30 + 20);
        due("the highest", x.of(0, LEVEL), 5);
        passed(x, 10);
        due("the highest", x.of(0, LEVEL), 5);
        x.set(GAIN, 40);
        passed(x, 10);
        due("the highest is lower", x.of(0, LEVEL), 2);
        x.set(GAIN, 1);
        passed(x, 10);
        due("one more only", x.of(0, LEVEL), 3);
        due("its interval", x.of(0, NEXT), 57);
    }

    private static void plans() {
        RampShafts x = bench(1, 2);
        due("no shaft", x.plan(0, 2, 10000), NO_SUCH);
        due("no shaft", x.plan(1, -1, 0), NO_SUCH);
        due("in below", x.plan(0, 0, 0), BAD_VALUE);
        due("in above", x.plan(10000, 0, 0), BAD_VALUE);
        due("place above", x.plan(1, 0, 10000), BAD_VALUE);
        due("place below", x.plan(1, 0, -10000), BAD_VALUE);
        for (int i = 1; i <= 12; i++) due("plan", x.plan(9999, 0, i), i);
        due("a thirteenth", x.plan(1, 0, 0), TOO_MANY);
        due("a wrong thirteenth", x.plan(1, 0, 10000), BAD_VALUE);
        passed(x, 9998);
        due("not yet", x.count(PLANS), 12);
        x.pass(1);
        due("all came", x.count(PLANS), 0);
        due("three wait", x.of(0, WAITS), 3);
        due("the first moves", x.of(0, LEFT), 1);
        due("those behind are gone", x.waiting(0, 2), ZERO + 4);

        x = bench(1);
        x.move(0, 1);
        x.plan(60, 0, 5);
        x.pass(60);
        due("it came before the last step", x.of(0, LEFT), 4);
        due("and began behind it", x.of(0, NEXT), 60);
        x = bench(1);
        x.move(0, 1);
        for (int i = 0; i < 3; i++) x.move(0, 7 + i);
        x.plan(60, 0, 5);
        x.pass(60);
        due("it came while 3 waited", x.of(0, WAITS), 2);
        due("and is gone", x.waiting(0, 1), ZERO + 9);
    }

    private static void stops() {
        RampShafts x = bench(2);
        due("no shaft", x.stop(1), NO_SUCH);
        due("no shaft", x.stop(-1), NO_SUCH);
        due("rests", x.stop(0), NOT_POSSIBLE);
        x.move(0, 100);
        x.move(0, 0);
        x.plan(500, 0, 10);
        due("at once", x.stop(0), 0);
        due("rests", x.of(0, NEXT), NONE);
        due("none wait", x.of(0, WAITS), 0);
        due("the plan stays", x.count(PLANS), 1);
        due("rests", x.stop(0), NOT_POSSIBLE);
        x.move(0, 100);
        x.pass(60 + 50 + 40 + 10);
        x.move(0, 0);
        due("level", x.of(0, LEVEL), 3);
        due("as many as its level", x.stop(0), 3);
        due("again", x.stop(0), 3);
        due("next as before", x.of(0, NEXT), 20);
        due("level as before", x.of(0, LEVEL), 3);
        due("steps", x.pass(20 + 40 + 50), 3);
        due("rests", x.of(0, 4), 0);
        due("where", x.of(0, SAYS), ZERO + 12);
        x = bench(1);
        x.move(0, 4);
        x.pass(60 + 50 + 40);
        due("fewer left stay", x.of(0, LEFT), 1);
        due("fewer left stay", x.stop(0), 1);
    }

    private static void homes() {
        RampShafts x = bench(4);
        due("no shaft", x.home(1), NO_SUCH);
        due("no shaft", x.home(-1), NO_SUCH);
        due("nothing", x.home(0), ZERO);
        due("recorded", x.count(UNDOABLE), 2);
        x.set(GRIP, 40);
        x.set(PULL, 20);
        x.load(0, 9);
        x.move(0, 8);
        due("moves", x.home(0), NOT_POSSIBLE);
        x.pass(110);
        due("all lost", x.count(LOST), 2);
        due("displaced", x.count(DISPLACED), 1);
        due("more", x.home(0), ZERO + 8);
        due("says", x.of(0, SAYS), ZERO);
        due("stands", x.of(0, STANDS), ZERO);
        x.move(0, -4);
        x.pass(60);
        due("less", x.home(0), ZERO - 4);
        x.set(GRIP, 0);
        x.set(PULL, 0);
        x.move(0, 8);
        x.pass(110);
        x.set(GRIP, 40);
        x.set(PULL, 20);
        x.move(0, 0);
        x.pass(110);
        due("less than where it is, away from 0", x.home(0), ZERO - 8);
        due("says", x.of(0, SAYS), ZERO + 8);
        due("displaced", x.count(DISPLACED), 0);
    }

    private static void time() {
        RampShafts x = bench(1, 1);
        due("none", x.pass(0), BAD_VALUE);
        due("below", x.pass(-1), BAD_VALUE);
        due("above", x.pass(1000), BAD_VALUE);
        x.move(0, 2);
        x.move(1, -3);
        due("not yet", x.pass(59), 0);
        due("both", x.pass(1), 2);
        due("both", x.pass(50), 2);
        due("the last", x.pass(999), 1);
        due("time", x.count(TIME), 1109);
        x = bench(1);
        for (int i = 0; i < 100; i++) due("pass", x.pass(999), 0);
        due("too far", x.pass(100), NOT_POSSIBLE);
        due("too many", x.pass(1000), BAD_VALUE);
        due("just so far", x.pass(99), 0);
        due("time", x.count(TIME), 99999);
        due("too far", x.pass(1), NOT_POSSIBLE);
        due("wrong first", x.pass(0), BAD_VALUE);
        x.move(0, 2);
        x.plan(9999, 0, 0);
        due("its time", x.planned(0, 0), 109998);
        due("what if goes beyond", x.nextStep(1, 0), 110);
        due("what if goes beyond", x.restsIn(0), 9999 + 110);
    }

    private static void asksOfShafts() {
        RampShafts x = bench(4, 2);
        due("no shaft", x.of(2, 12), NO_SUCH);
        due("no shaft", x.of(-1, 0), NO_SUCH);
        due("below", x.of(0, -1), BAD_VALUE);
        due("above", x.of(0, 12), BAD_VALUE);
        int[] first = {ZERO, ZERO, 4, 0, 0, 0, 0, NONE, 0, 0, 0, ZERO};
        for (int what = 0; what < 12; what++) due("first " + what, x.of(0, what), first[what]);
        x.load(0, 9);
        x.set(GRIP, 33);
        x.move(0, -25);
        x.move(0, 7);
        x.pass(65);
        int[] then = {ZERO - 4, ZERO - 4, 4, 9, 1, 5, 1, 45, 1, 1, 0, ZERO - 24};
        for (int what = 0; what < 12; what++) due("then " + what, x.of(0, what), then[what]);
        x.pass(45);
        int[] last = {ZERO - 8, ZERO - 4, 4, 9, 1, 4, 2, 40, 1, 2, 1, ZERO - 24};
        for (int what = 0; what < 12; what++) due("last " + what, x.of(0, what), last[what]);
    }

    private static void asksOfWaiting() {
        RampShafts x = bench(1);
        due("no shaft", x.waiting(1, 0), NO_SUCH);
        due("no shaft", x.waiting(-1, 0), NO_SUCH);
        due("none", x.waiting(0, 0), NO_SUCH);
        x.move(0, 1);
        x.move(0, -9999);
        x.move(0, 9999);
        x.move(0, 5);
        due("first", x.waiting(0, 0), ZERO - 9999);
        due("second", x.waiting(0, 1), ZERO + 9999);
        due("third", x.waiting(0, 2), ZERO + 5);
        due("fourth", x.waiting(0, 3), NO_SUCH);
        due("below", x.waiting(0, -1), NO_SUCH);
        x.pass(60);
        due("first", x.waiting(0, 0), ZERO + 9999);
        due("third", x.waiting(0, 2), NO_SUCH);
    }

    private static void asksOfPlanned() {
        RampShafts x = bench(1, 1);
        due("none", x.planned(0, 3), NO_SUCH);
        x.plan(20, 0, 1);
        x.plan(10, 1, -2);
        x.pass(5);
        x.plan(15, 1, 3);
        x.plan(1, 0, 4);
        int[][] want = {{6, 0, ZERO + 4}, {10, 1, ZERO - 2}, {20, 0, ZERO + 1}, {20, 1, ZERO + 3}};
        for (int rank = 0; rank < 4; rank++) {
            for (int what = 0; what < 3; what++) due("planned " + rank, x.planned(rank, what), want[rank][what]);
        }
        due("above", x.planned(4, 0), NO_SUCH);
        due("below", x.planned(-1, 0), NO_SUCH);
        due("what above", x.planned(3, 3), BAD_VALUE);
        due("what below", x.planned(3, -1), BAD_VALUE);
        x.pass(1);
        due("the first came", x.planned(0, 0), 10);
    }

    private static void counts() {
        RampShafts x = bench(1, 1, 1);
        due("below", x.count(-1), BAD_VALUE);
        due("above", x.count(15), BAD_VALUE);
        x.set(GRIP, 40);
        x.set(PULL, 11);
        x.load(2, 2);
        x.move(1, 2);
        x.move(2, 2);
        x.plan(999, 0, 1);
        x.pass(60);
        x.put(packed("n1"));
        int[] want = {60, 3, 6, 4, 1, 2, 1, 5, 60, 10, 10, 40, 11, 2, 6};
        for (int what = 0; what < want.length; what++) due("count(" + what + ")", x.count(what), want[what]);
        x.set(GAIN, 40);
        due("highest, rounded up", x.count(HIGHEST), 2);
        x.set(START, 50);
        due("highest, even", x.count(HIGHEST), 1);
        x.set(TOP, 50);
        due("START is TOP", x.count(HIGHEST), 0);
        x.set(START, 10);
        due("START is less", x.count(HIGHEST), 0);
        x.set(START, 200);
        x.set(TOP, 2);
        x.set(GAIN, 1);
        due("most levels", x.count(HIGHEST), 198);
    }

    private static void intervals() {
        RampShafts x = new RampShafts();
        due("below", x.interval(-1), BAD_VALUE);
        due("above", x.interval(100), BAD_VALUE);
        int[] want = {60, 50, 40, 30, 20, 10, 10};
        for (int level = 0; level < want.length; level++) due("interval", x.interval(level), want[level]);
        x.set(TOP, 15);
        due("TOP at least", x.interval(4), 20);
        due("TOP at least", x.interval(5), 15);
        x.set(START, 10);
        due("START is less than TOP", x.interval(0), 15);
        x.set(START, 200);
        x.set(GAIN, 1);
        due("the last", x.interval(99), 101);
    }

    private static void rests() {
        RampShafts x = bench(1, 1);
        due("no shaft", x.restsIn(2), NO_SUCH);
        due("no shaft", x.restsIn(-1), NO_SUCH);
        due("so now", x.restsIn(0), 0);
        x.move(0, 5);
        due("its move", x.restsIn(0), 260);
        due("the other one", x.restsIn(1), 0);
        x.move(0, 4);
        due("what waits", x.restsIn(0), 320);
        x.plan(1000, 0, 4);
        due("a plan for nothing", x.restsIn(0), 1000);
        x.plan(9999, 0, 3);
        due("a plan", x.restsIn(0), 10059);
        x.pass(59);
        due("later", x.restsIn(0), 10000);
        due("nothing changes", x.count(TIME), 59);
        due("nothing changes", x.of(0, NEXT), 1);

        x = bench(1, 1, 1);
        x.set(START, 50);
        x.set(TOP, 50);
        x.move(0, 400);
        x.move(1, 401);
        x.plan(1, 2, -400);
        due("just within", x.restsIn(0), 20000);
        due("not within", x.restsIn(1), NONE);
        due("one too late", x.restsIn(2), NONE);
        x.pass(1);
        due("now within", x.restsIn(2), 20000);
        due("others do not matter", x.restsIn(0), 19999);
    }

    private static void placesOfStops() {
        RampShafts x = bench(4);
        due("no shaft", x.stopsAt(1), NO_SUCH);
        due("no shaft", x.stopsAt(-1), NO_SUCH);
        due("rests", x.stopsAt(0), ZERO);
        x.move(0, -40);
        x.move(0, 40);
        due("at once", x.stopsAt(0), ZERO);
        x.pass(60 + 50 + 40);
        due("level 3", x.stopsAt(0), ZERO - 12 - 12);
        due("nothing changes", x.of(0, LEFT), 7);
        due("nothing changes", x.of(0, WAITS), 1);
        x.stop(0);
        x.pass(900);
        due("so it is", x.of(0, SAYS), ZERO - 24);
        x = bench(1);
        x.move(0, 4);
        x.pass(60 + 50 + 40);
        due("fewer left", x.stopsAt(0), ZERO + 4);
    }

    private static void stepsToCome() {
        RampShafts x = bench(1, 1);
        due("none", x.nextStep(0, 0), NONE);
        due("below", x.nextStep(-1, 0), BAD_VALUE);
        due("above", x.nextStep(100, 0), BAD_VALUE);
        due("what below", x.nextStep(0, -1), BAD_VALUE);
        due("what above", x.nextStep(0, 3), BAD_VALUE);
        x.set(GRIP, 40);
        x.set(PULL, 20);
        x.move(1, 2);
        x.move(0, 2);
        x.load(1, 1);
        x.plan(60, 0, 1);
        int[][] want = {{60, 0, 0}, {60, 1, 0}, {110, 0, 0}, {110, 1, 1}, {170, 0, 0}};
        for (int rank = 0; rank < 5; rank++) {
            for (int what = 0; what < 3; what++) due("step " + rank, x.nextStep(rank, what), want[rank][what]);
        }
        due("no more", x.nextStep(5, 0), NONE);
        due("nothing changes", x.count(STEPS), 0);
        x.pass(60);
        due("later", x.nextStep(1, 2), 1);
        due("later", x.nextStep(2, 0), 110);

        x = bench(1, 1);
        x.set(START, 50);
        x.set(TOP, 50);
        x.move(0, 9999);
        due("just within", x.nextStep(99, 0), 5000);
        x.stop(0);
        x.plan(1, 1, 9999);
        due("within", x.nextStep(98, 0), 4951);
        due("one too late", x.nextStep(99, 0), NONE);
        due("one too late", x.nextStep(99, 1), NONE);
    }

    private static void movesToCome() {
        RampShafts x = new RampShafts();
        due("below", x.moveOf(0, 0), BAD_VALUE);
        due("above", x.moveOf(1000, 0), BAD_VALUE);
        due("what below", x.moveOf(1, -1), BAD_VALUE);
        due("what above", x.moveOf(1, 2), BAD_VALUE);
        int[] ticks = {60, 110, 170, 200, 260, 270};
        int[] peaks = {0, 1, 1, 2, 2, 3};
        for (int steps = 1; steps <= 6; steps++) {
            due("ticks of " + steps, x.moveOf(steps, 0), ticks[steps - 1]);
            due("peak of " + steps, x.moveOf(steps, 1), peaks[steps - 1]);
        }
        due("peak", x.moveOf(10, 1), 5);
        due("peak", x.moveOf(9, 1), 4);
        due("peak", x.moveOf(999, 1), 5);
        due("ticks", x.moveOf(999, 0), 2 * (60 + 50 + 40 + 30 + 20) + 989 * 10);
        x.set(START, 200);
        x.set(TOP, 50);
        x.set(GAIN, 1);
        due("peak", x.moveOf(999, 1), 150);
        due("peak", x.moveOf(299, 1), 149);
        x.set(START, 50);
        due("even", x.moveOf(999, 0), 49950);
        due("even", x.moveOf(999, 1), 0);
    }

    private static void gains() {
        RampShafts x = new RampShafts();
        due("below", x.bestGain(0, 0), BAD_VALUE);
        due("above", x.bestGain(1000, 0), BAD_VALUE);
        due("load below", x.bestGain(1, -1), BAD_VALUE);
        due("load above", x.bestGain(1, 10), BAD_VALUE);
        due("all", x.bestGain(999, 3), 40);
        due("peak of 10, limit of 22", x.bestGain(20, 9), 3);
        due("peak of 10, limit of 22", x.bestGain(21, 9), 3);
        due("peak of 11, limit of 22", x.bestGain(22, 9), 3);
        due("peak of 13, limit of 22", x.bestGain(26, 9), 2);
        due("one step", x.bestGain(1, 9), 40);
        due("peak of 19", x.bestGain(38, 9), 2);
        due("peak of 38", x.bestGain(76, 9), 1);
        due("peak of 39", x.bestGain(78, 9), NONE);
        x.set(GRIP, 40);
        x.set(PULL, 3);
        due("limit of 61", x.bestGain(1, 7), NONE);
        due("limit of 58", x.bestGain(2, 6), 2);
        due("nothing changes", x.count(10), 10);
        x.set(TOP, 50);
        due("limit of 49", x.bestGain(999, 3), 40);
        due("limit of 52", x.bestGain(999, 4), NONE);
    }

    private static void bearings() {
        RampShafts x = bench(1);
        due("no shaft", x.bears(1), NO_SUCH);
        due("no shaft", x.bears(-1), NO_SUCH);
        due("all", x.bears(0), 9);
        x.set(PULL, 7);
        due("limit of 60", x.bears(0), 8);
        x.load(0, 5);
        due("its own load does not matter", x.bears(0), 8);
        x.move(0, 20);
        x.pass(60);
        due("50", x.bears(0), 6);
        x.pass(50 + 40 + 30 + 20);
        due("10", x.bears(0), 0);
        x.set(GRIP, 10);
        due("10", x.bears(0), 0);
        x.set(GRIP, 11);
        due("none", x.bears(0), NONE);
        x.set(PULL, 0);
        x.set(GRIP, 10);
        due("no pull", x.bears(0), 9);
    }

    private static void puts() {
        RampShafts x = new RampShafts();
        for (long bad : new long[] {0, -1, 32, 127, 0x6d00L, 0x6d0031L, 0x2031L, 0x7f31L, 0x80313131L, Long.MIN_VALUE,
            0x8031313131313131L, 0x3100313131313131L, 0x1L << 56, 0x6e00000000000031L}) {
            due("put " + bad, x.put(bad), BAD_VALUE);
        }
        due("one", x.put('!'), 1);
        due("one", x.put('~'), 2);
        due("eight", x.put(packed("n1;n1;n1")), 10);
        due("wiped", x.wipe(), 10);
        for (int i = 1; i <= 9; i++) due("eight", x.put(packed("n1;n1;n1")), 8 * i);
        due("seven", x.put(packed(";n1;n1;")), 79);
        due("two too many", x.put(packed("n1")), TOO_MANY);
        due("wrong first", x.put(0x6d00), BAD_VALUE);
        due("the last", x.put('n'), 80);
        due("one too many", x.put('n'), TOO_MANY);
        due("no change", x.count(UNDOABLE), 0);
        x = new RampShafts();
        x.put(packed("n4;m0@-"));
        x.put(packed("8"));
        due("in their order", x.carryOut(), 2);
        due("in their order", x.of(0, 11), ZERO - 8);
    }

    private static void wipes() {
        RampShafts x = new RampShafts();
        due("empty", x.wipe(), 0);
        x.put(packed("n1;s0"));
        due("five", x.wipe(), 5);
        due("length", x.count(PAD), 0);
        due("empty", x.wipe(), 0);
        due("no change", x.count(UNDOABLE), 0);
    }

    private static void faults() {
        String[] good = {"n0", "n9", "m0@0", "m9@-9999", "m0@-0", "p0:0@0", "p9999:9@9999", "s0", "l0=9", "h7", "t0", "t9999",
            "t10;t1000;n1;m1@1;s1;l1=1;h1;p1:1@-1"};
        for (String text : good) faultIs(text, NONE);
        faultIs("", 0);
        for (String early : new String[] {"n", "m", "m0", "m0@", "m0@-", "p", "p1", "p1:", "p1:0", "p1:0@", "p1:0@-", "s", "l", "l0",
            "l0=", "h", "t", "n1;", "n1;m"}) {
            faultIs(early, early.length());
        }
        faultIs("x", 0);
        faultIs(";", 0);
        faultIs("N1", 0);
        faultIs("n1n1", 2);
        faultIs("n12", 2);
        faultIs("n1;;n1", 3);
        faultIs("m0=5", 2);
        faultIs("m00@5", 2);
        faultIs("m0@--5", 4);
        faultIs("m0@-a", 4);
        faultIs("m0@05", 4);
        faultIs("m0@-05", 5);
        faultIs("m0@12345", 7);
        faultIs("m0@-12345", 8);
        faultIs("m0@5-", 4);
        faultIs("p-1:0@5", 1);
        faultIs("p00:0@5", 2);
        faultIs("p10000:0@5", 5);
        faultIs("p1@0", 2);
        faultIs("p1:0:0", 4);
        faultIs("p1:10@0", 4);
        faultIs("sx", 1);
        faultIs("l0@5", 2);
        faultIs("l0=10", 4);
        faultIs("l0=-", 3);
        faultIs("h;", 1);
        faultIs("t;", 1);
        faultIs("t01", 2);
        faultIs("t00", 2);
        faultIs("t99999", 5);
        faultIs("t-1", 1);
        faultIs("t1:", 2);
        StringBuilder full = new StringBuilder("t1000");
        while (full.length() < 80) full.append(";n1");
        faultIs(full.toString(), NONE);
        full.setCharAt(79, ';');
        faultIs(full.toString(), 79);
        faultIs("n1;".repeat(26) + "n1", NONE);
        faultIs("n1;".repeat(26) + "t;", 79);
        faultIs("n1;".repeat(26) + "t", 79);
        faultIs("n1;".repeat(26) + "m1", 80);
        RampShafts x = new RampShafts();
        x.put(packed("n1"));
        due("fault", x.fault(), NONE);
        due("the pad stays", x.count(PAD), 2);
    }

    private static void carriesOut() {
        RampShafts x = new RampShafts();
        due("an empty pad", x.carryOut(), BAD_TEXT);
        write(x, "n2;n1;l1=9;m0@-10;p60:1@3;t60;s0;h1");
        due("all but the last", x.carryOut(), 7);
        due("one change", x.count(UNDOABLE), 1);
        due("time", x.count(TIME), 60);
        due("says", x.of(0, SAYS), ZERO - 2);
        due("stopped", x.of(0, LEFT), 1);
        due("load", x.of(1, 3), 9);
        due("planned", x.of(1, LEFT), 3);
        due("empty", x.wipe(), 0);
        due("undone as one", x.undo(), 0);
        due("no shafts", x.count(1), 0);
        due("time", x.count(TIME), 0);
        due("the pad is not undone", x.count(PAD), 0);
        write(x, "n1;t0;n1");
        due("up to the error", x.carryOut(), 1);
        due("up to the error", x.count(1), 1);
        write(x, "t1000");
        due("too many ticks", x.carryOut(), 0);
        due("a change all the same", x.count(UNDOABLE), 2);
        write(x, "n1;n3x");
        due("a fault", x.carryOut(), BAD_TEXT);
        due("the pad stays", x.count(PAD), 6);
        due("nothing was carried out", x.count(1), 1);
        due("no change", x.count(UNDOABLE), 2);
        write(x, "m0@-0;h0;t999;m0@9999;h0");
        due("with a -0", x.carryOut(), 4);
        due("moves", x.of(0, LEFT), 9999);
        for (String wrongOrder : new String[] {"n3", "m5@1", "p0:0@1", "p1:9@1", "s3", "l7=0", "h4", "t0", "t1000"}) {
            write(x, wrongOrder);
            due(wrongOrder, x.carryOut(), 0);
        }
    }

    private static void undoes() {
        RampShafts x = new RampShafts();
        due("none", x.undo(), NOT_POSSIBLE);
        x.shaft(1);
        x.put(packed("n1"));
        x.load(0, 3);
        x.plan(70, 0, 4);
        x.move(0, 2);
        x.move(0, 9);
        x.set(PULL, 3);
        x.pass(60);
        due("six at most", x.count(UNDOABLE), 6);
        due("time", x.undo(), 5);
        due("time", x.count(TIME), 0);
        due("step", x.of(0, SAYS), ZERO);
        due("steps", x.count(STEPS), 0);
        due("next", x.of(0, NEXT), 60);
        due("setting", x.undo(), 4);
        due("setting", x.count(12), 2);
        due("waits", x.undo(), 3);
        due("waits", x.of(0, WAITS), 0);
        due("moves", x.undo(), 2);
        due("moves", x.count(MOVING), 0);
        due("plan", x.undo(), 1);
        due("plan", x.count(PLANS), 0);
        due("load", x.undo(), 0);
        due("load", x.of(0, 3), 0);
        due("the oldest one is dropped", x.undo(), NOT_POSSIBLE);
        due("its shaft stays", x.count(1), 1);
        due("the pad is kept", x.count(PAD), 2);
        x.load(0, 0);
        due("also if nothing is different", x.count(UNDOABLE), 1);
        x.load(0, 10);
        x.stop(0);
        x.restore(0);
        due("not with an error", x.count(UNDOABLE), 1);
        x.save(0);
        due("not by save", x.count(UNDOABLE), 1);
        x.undo();
        due("slots are kept", x.restore(0), 1);
        for (int i = 0; i < 20; i++) x.load(0, i % 10);
        for (int i = 0; i < 5; i++) due("undo", x.undo(), 5 - i);
        x.load(0, 7);
        due("undo", x.undo(), 1);
        due("load", x.of(0, 3), 4);
        due("undo", x.undo(), 0);
        due("load", x.of(0, 3), 3);
        due("undo", x.undo(), NOT_POSSIBLE);
    }

    private static void savesAndRestores() {
        RampShafts x = bench(1, 2);
        due("below", x.save(-1), BAD_VALUE);
        due("above", x.save(2), BAD_VALUE);
        due("below", x.restore(-1), BAD_VALUE);
        due("above", x.restore(2), BAD_VALUE);
        due("nothing in it", x.restore(1), NOT_POSSIBLE);
        x.move(0, 5);
        x.move(0, 6);
        x.plan(30, 1, 4);
        x.set(TOP, 20);
        x.pass(10);
        due("save", x.save(1), 2);
        due("nothing in the other", x.restore(0), NOT_POSSIBLE);
        x.put(packed("n1"));
        x.shaft(4);
        x.load(2, 4);
        x.set(TOP, 30);
        x.pass(999);
        due("save", x.save(0), 3);
        due("restore", x.restore(1), 2);
        due("time", x.count(TIME), 10);
        due("next", x.of(0, NEXT), 50);
        due("waits", x.waiting(0, 0), ZERO + 6);
        due("planned", x.planned(0, 0), 30);
        due("setting", x.count(9), 20);
        due("steps", x.count(STEPS), 0);
        due("the pad stays", x.count(PAD), 2);
        due("the history stays", x.count(UNDOABLE), 6);
        x.pass(100);
        due("the slot keeps it", x.restore(1), 2);
        due("the slot keeps it", x.count(TIME), 10);
        due("a new shaft is new", x.shaft(1), 2);
        due("a new shaft is new", x.of(2, 3), 0);
        due("restore", x.restore(0), 3);
        due("restore", x.count(TIME), 1009);
        due("restore", x.of(2, 3), 4);
        due("a change", x.undo(), 5);
        due("a change", x.of(2, 3), 0);
        due("overwritten", x.save(0), 3);
        x.pass(5);
        due("overwritten", x.restore(0), 3);
        due("overwritten", x.count(TIME), 10);
    }

    public static void main(String[] args) {
        part = "1"; newObject();
        part = "2"; settings();
        part = "3"; shafts();
        part = "4"; loads();
        part = "5"; moves();
        part = "ramps"; ramps();
        part = "6"; plans();
        part = "7"; stops();
        part = "8"; homes();
        part = "9"; time();
        part = "10"; asksOfShafts();
        part = "11"; asksOfWaiting();
        part = "12"; asksOfPlanned();
        part = "13"; counts();
        part = "14"; intervals();
        part = "15"; rests();
        part = "16"; placesOfStops();
        part = "17"; stepsToCome();
        part = "18"; movesToCome();
        part = "19"; gains();
        part = "20"; bearings();
        part = "21"; puts();
        part = "22"; wipes();
        part = "23"; faults();
        part = "24"; carriesOut();
        part = "25"; undoes();
        part = "26 and 27"; savesAndRestores();
        System.out.println(wrong == 0 ? "all answers are as due" : wrong + " answers are not as due");
        if (wrong != 0) System.exit(1);
    }
}
