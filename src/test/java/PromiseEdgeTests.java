/** The edges that the promises name, a test for each sentence: both sides of each edge. RefusalTests has all the errors. */
public final class PromiseEdgeTests {
    private static final int NO_SUCH = Checks.NO_SUCH, BAD_VALUE = Checks.BAD_VALUE, BAD_TEXT = Checks.BAD_TEXT;
    private static final int TOO_MANY = Checks.TOO_MANY, NOT_POSSIBLE = Checks.NOT_POSSIBLE, NONE = Checks.NONE, ZERO = Checks.ZERO;
    private static final int SAYS = 0, STANDS = 1, MICRO = 2, LOAD = 3, MOVES = 4, LEFT = 5, LEVEL = 6, NEXT = 7, WAITS = 8;
    private static final int STEPS_OF = 9, LOST_OF = 10, BEHIND = 11;
    private static final int TIME = 0, SHAFTS = 1, MOVING = 2, DISPLACED = 3, PLANS = 4, LOST = 6, HIGHEST = 7;
    private static final int PAD = 13, UNDOABLE = 14;

    private static void sentence(String words) {
        Checks.sentence(words);
    }

    private static void due(String call, long got, long want) {
        Checks.due(call, got, want);
    }

    private static RampShafts bench(int... micros) {
        return Checks.bench(micros);
    }

    private static void write(RampShafts x, String text) {
        Checks.write(x, text);
    }

    /** A bench of one shaft with even intervals of 50, which rests after so many ticks. */
    private static RampShafts evenBench() {
        RampShafts x = bench(1);
        Checks.settings(x, 50, 50, 1);
        return x;
    }

    private static void late(RampShafts x, int time) {
        Checks.passed(x, time - x.count(TIME));
        due("time", x.count(TIME), time);
    }

    // ---- 1 to 4

    private static void newObject() {
        sentence("Creates a bench without shafts, at the time 0.");
        RampShafts x = new RampShafts();
        int[] first = {0, 0, 0, 0, 0, 0, 0, 5, 60, 10, 10, 4, 2, 0, 0};
        for (int what = 0; what < first.length; what++) due("count(" + what + ")", x.count(what), first[what]);
        due("no shaft", x.of(0, SAYS), NO_SUCH);
        due("none waits", x.waiting(0, 0), NO_SUCH);
        due("none is planned", x.planned(0, 0), NO_SUCH);
        due("no step", x.nextStep(0, 0), NONE);
        due("a shaft can come", x.shaft(1), 0);
        RampShafts other = new RampShafts();
        due("another object has none of it", other.count(SHAFTS), 0);
    }

    private static void set() {
        sentence("Returns the previous value");
        RampShafts x = new RampShafts();
        int[] first = {60, 10, 10, 4, 2};
        for (int setting = 0; setting < 5; setting++) {
            due("set", x.set(setting, 20), first[setting]);
            due("the same again", x.set(setting, 20), 20);
        }
        for (int setting = 0; setting < 5; setting++) due("set", x.count(8 + setting), 20);
        Checks.grips(x, 0, 0);
        due("a previous value of 0", x.set(RampShafts.GRIP, 1), 0);
        due("a previous value of 0", x.set(RampShafts.PULL, 1), 0);

        sentence("(next steps come when they would have)");
        x = bench(1, 1);
        x.move(0, 2);
        x.pass(30);
        x.set(RampShafts.START, 10);
        due("as before", x.of(0, NEXT), 30);
        x.move(1, 2);
        due("a move that begins now", x.of(1, NEXT), 10);
        due("not yet", x.pass(9), 0);
        due("the new one", x.pass(1), 1);
        x.set(RampShafts.TOP, 50);
        due("as before", x.of(0, NEXT), 20);
        due("as before", x.of(1, NEXT), 10);

        sentence("BAD_VALUE if there is no such setting, or the value is out of its range");
        for (int setting = -2; setting <= 6; setting++) {
            due("set(" + setting + ", 21)", x.set(setting, 21) == BAD_VALUE ? 1 : 0, setting < 0 || setting >= 4 ? 1 : 0);
        }
        due("in the range of another setting", x.set(RampShafts.TOP, 51), BAD_VALUE);
        due("in the range of another setting", x.set(RampShafts.START, 9), BAD_VALUE);
    }

    private static void shaft() {
        sentence("Returns its number; BAD_VALUE if micro is another number; TOO_MANY if there are 4 shafts.");
        RampShafts x = new RampShafts();
        for (int number = 0; number < 4; number++) {
            due("micro 3", x.shaft(3), BAD_VALUE);
            due("shaft", x.shaft(4), number);
        }
        due("TOO_MANY", x.shaft(4), TOO_MANY);
        due("BAD_VALUE first", x.shaft(3), BAD_VALUE);
        x.undo();
        due("there are 3 again", x.shaft(2), 3);
        due("TOO_MANY", x.shaft(1), TOO_MANY);
        due("the new one", x.of(3, MICRO), 2);

        sentence("A shaft comes.");
        int[] first = {ZERO, ZERO, 2, 0, 0, 0, 0, NONE, 0, 0, 0, ZERO};
        for (int what = 0; what < first.length; what++) due("of(3, " + what + ")", x.of(3, what), first[what]);
    }

    private static void load() {
        sentence("Returns the previous load");
        RampShafts x = bench(1, 1);
        due("0 at first", x.load(0, 9), 0);
        due("the most", x.load(0, 9), 9);
        due("back to 0", x.load(0, 0), 9);
        due("from 0", x.load(0, 5), 0);
        due("the other one", x.of(1, LOAD), 0);
        x.move(0, 4);
        due("also as it moves", x.load(0, 6), 5);
    }

    // ---- 5 to 9

    private static void move() {
        sentence("begins the move now, if it rests; otherwise the move waits");
        RampShafts x = bench(1, 1);
        due("it rests", x.move(0, 1), 0);
        due("it moves", x.of(0, MOVES), 1);
        for (int waits = 1; waits <= 3; waits++) due("it waits", x.move(0, 1), waits);
        due("still as before", x.of(0, LEFT), 1);
        due("the other one rests", x.move(1, 2), 0);

        sentence("TOO_MANY if it moves, and 3 wait");
        due("3 wait", x.move(0, 2), TOO_MANY);
        due("3 wait, to where it is", x.move(0, 0), TOO_MANY);
        x.pass(59);
        due("3 wait still", x.move(0, 2), TOO_MANY);
        x.pass(1);
        due("all were over at once", x.of(0, MOVES), 0);
        due("it rests", x.move(0, 2), 0);

        sentence("place: -9999 to 9999");
        x = bench(1, 1);
        due("the least", x.move(0, -9999), 0);
        due("the most", x.move(1, 9999), 0);
        due("steps", x.of(0, LEFT), 9999);
        due("steps", x.of(1, LEFT), 9999);
        due("behind all", x.of(0, BEHIND), ZERO - 9999);
        due("behind all", x.of(1, BEHIND), ZERO + 9999);
        due("below", x.move(0, -10000), BAD_VALUE);
        due("above", x.move(1, 10000), BAD_VALUE);
    }

    private static void plan() {
        sentence("Returns how many moves are planned then; TOO_MANY if 12 are planned.");
        RampShafts x = bench(1);
        for (int planned = 1; planned <= 12; planned++) due("plan", x.plan(planned, 0, 0), planned);
        due("TOO_MANY", x.plan(1, 0, 0), TOO_MANY);
        x.pass(1);
        due("one came", x.plan(1, 0, 0), 12);
        due("TOO_MANY", x.plan(1, 0, 0), TOO_MANY);
        x.pass(3);
        due("three more times came", x.count(PLANS), 8);

        sentence("in: 1 to 9999: in how many ticks");
        x = bench(1);
        due("below", x.plan(0, 0, 5), BAD_VALUE);
        due("the least", x.plan(1, 0, 5), 1);
        due("the most", x.plan(9999, 0, 3), 2);
        due("above", x.plan(10000, 0, 5), BAD_VALUE);
        due("its time", x.planned(0, 0), 1);
        due("its time", x.planned(1, 0), 9999);
        x.pass(1);
        due("it came", x.of(0, LEFT), 5);
        late(x, 9998);
        due("not yet", x.count(PLANS), 1);
        x.pass(1);
        due("then", x.of(0, LEFT), 2);

        sentence("place: -9999 to 9999");
        due("below", x.plan(1, 0, -10000), BAD_VALUE);
        due("above", x.plan(1, 0, 10000), BAD_VALUE);
        due("the least", x.plan(1, 0, -9999), 1);
        due("the most", x.plan(1, 0, 9999), 2);
        due("the least", x.planned(0, 2), ZERO - 9999);
        due("the most", x.planned(1, 2), ZERO + 9999);
    }

    /** A bench whose shaft has made some steps of a move; another move waits, and one is planned. */
    private static RampShafts movingBench(int steps, int made) {
        RampShafts x = bench(2);
        x.move(0, 2 * steps);
        x.move(0, 90);
        x.plan(9000, 0, 70);
        for (int step = 0; step < made; step++) due("a step", x.pass(x.of(0, NEXT)), 1);
        return x;
    }

    private static void stopIs(int steps, int made, int level, int left, int then) {
        RampShafts x = movingBench(steps, made);
        String told = made + " of " + steps + " steps made: ";
        due(told + "level", x.of(0, LEVEL), level);
        due(told + "left", x.of(0, LEFT), left);
        int next = x.of(0, NEXT);
        int place = x.stopsAt(0);
        due(told + "it would stop at", place, ZERO + 2 * (made + then));
        due(told + "stop", x.stop(0), then);
        due(told + "left then", x.of(0, LEFT), then);
        due(told + "level then", x.of(0, LEVEL), level);
        due(told + "the next one comes when it would have", x.of(0, NEXT), then > 0 ? next : NONE);
        due(told + "none wait", x.of(0, WAITS), 0);
        due(told + "the plan stays", x.count(PLANS), 1);
        due(told + "stopped again", x.stop(0), then > 0 ? then : NOT_POSSIBLE);
        due(told + "the steps that are left", x.pass(500), then);
        due(told + "it rests", x.of(0, MOVES), 0);
        due(told + "it says", x.of(0, SAYS), place);
    }

    private static void stop() {
        sentence("if more steps are left than its level, as many as its level are left");
        stopIs(9, 1, 1, 8, 1);
        stopIs(9, 3, 3, 6, 3);
        stopIs(9, 4, 4, 5, 4);
        stopIs(40, 5, 5, 35, 5);
        stopIs(40, 6, 5, 34, 5);
        stopIs(9, 6, 2, 3, 2);
        sentence("if more steps are left than its level (just as many are: all of them stay)");
        stopIs(2, 1, 1, 1, 1);
        stopIs(8, 4, 4, 4, 4);
        stopIs(8, 5, 3, 3, 3);
        stopIs(8, 7, 1, 1, 1);
        sentence("and at the level 0 it rests at once");
        stopIs(9, 0, 0, 9, 0);
        stopIs(1, 0, 0, 1, 0);
        stopIs(9, 8, 0, 1, 0);
        RampShafts x = bench(1, 1);
        x.move(0, 5);
        x.move(1, 5);
        x.stop(0);
        due("it makes no step where another one does", x.pass(60), 1);
        due("it makes no step where another one does", x.of(0, SAYS), ZERO);
        due("the other one does", x.of(1, SAYS), ZERO + 1);
        sentence("NOT_POSSIBLE if it rests");
        x = bench(1);
        due("it never moved", x.stop(0), NOT_POSSIBLE);
        x.move(0, 1);
        x.pass(60);
        due("its move is over", x.stop(0), NOT_POSSIBLE);
        x.plan(5, 0, 3);
        due("a move is only planned", x.stop(0), NOT_POSSIBLE);
        x.pass(5);
        due("it moves", x.stop(0), 0);
        due("a new move begins at once", x.move(0, 4), 0);
        due("a new move begins at once", x.of(0, NEXT), 60);
    }

    private static void home() {
        sentence("Returns by how many units what it said was more than where it is, and 1000000");
        RampShafts x = bench(4, 1);
        due("not at all", x.home(0), ZERO);
        due("a change all the same", x.count(UNDOABLE), 3);
        Checks.grips(x, 40, 20);
        x.load(0, 9);
        x.move(0, 4);
        x.pass(60);
        due("elsewhere than it says", x.count(DISPLACED), 1);
        due("more", x.home(0), ZERO + 4);
        due("where it says", x.count(DISPLACED), 0);
        due("what it says is where it is", x.of(0, SAYS), ZERO);
        due("where it is stays", x.of(0, STANDS), ZERO);
        due("home again", x.home(0), ZERO);
        x.move(0, -4);
        x.pass(60);
        due("less", x.home(0), ZERO - 4);
        due("the lost ones stay", x.of(0, LOST_OF), 2);
        due("the steps stay", x.of(0, STEPS_OF), 2);

        sentence("Homes a shaft that rests; NOT_POSSIBLE if it moves");
        x.move(1, 1);
        due("it moves", x.home(1), NOT_POSSIBLE);
        x.pass(59);
        due("it moves", x.home(1), NOT_POSSIBLE);
        x.pass(1);
        due("it rests", x.home(1), ZERO);
        x.plan(1, 1, 5);
        due("only planned", x.home(1), ZERO);
    }

    private static void pass() {
        sentence("ticks: 1 to 999");
        RampShafts x = new RampShafts();
        due("below", x.pass(0), BAD_VALUE);
        due("the least", x.pass(1), 0);
        due("the most", x.pass(999), 0);
        due("above", x.pass(1000), BAD_VALUE);
        due("time", x.count(TIME), 1000);

        sentence("NOT_POSSIBLE if the time would be above 99999");
        x = bench(1);
        late(x, 99000);
        due("just 99999", x.pass(999), 0);
        due("one above", x.pass(1), NOT_POSSIBLE);
        due("BAD_VALUE first", x.pass(1000), BAD_VALUE);
        due("undo", x.undo(), 5);
        due("time", x.count(TIME), 99000);
        x.pass(1);
        due("one above", x.pass(999), NOT_POSSIBLE);
        due("just 99999", x.pass(998), 0);
        due("one above", x.pass(1), NOT_POSSIBLE);
        due("time", x.count(TIME), 99999);

        sentence("Returns how many steps are made in them");
        x = bench(1, 1);
        x.move(0, 3);
        x.move(1, 2);
        due("none", x.pass(59), 0);
        due("two in the last tick", x.pass(1), 2);
        due("all that are left", x.pass(999), 3);
        due("none", x.pass(999), 0);
        x.set(RampShafts.GRIP, 40);
        x.set(RampShafts.PULL, 20);
        x.load(0, 9);
        x.move(0, 0);
        due("also lost ones", x.pass(999), 3);
        due("lost ones", x.count(LOST), 3);
        due("the most in one call", mostSteps(), 4 * 500);
    }

    private static int mostSteps() {
        RampShafts x = bench(1, 1, 1, 1);
        Checks.settings(x, 10, 2, 40);
        for (int shaft = 0; shaft < 4; shaft++) x.move(shaft, 9999);
        x.pass(11);
        return x.pass(999);
    }

    // ---- 10 to 14

    private static void of() {
        sentence("what: 0 what it says and 1000000, .. 11 the place that it says behind all steps left, and 1000000");
        RampShafts x = bench(2);
        due("below", x.of(0, -1), BAD_VALUE);
        due("above", x.of(0, 12), BAD_VALUE);
        int[] first = {ZERO, ZERO, 2, 0, 0, 0, 0, NONE, 0, 0, 0, ZERO};
        for (int what = 0; what < 12; what++) due("at first, " + what, x.of(0, what), first[what]);
        x.load(0, 7);
        x.set(RampShafts.GRIP, 38);
        x.move(0, -9);
        x.move(0, 40);
        x.move(0, 50);
        x.pass(60 + 50 + 7);
        int[] moving = {ZERO - 4, ZERO - 2, 2, 7, 1, 2, 2, 33, 2, 2, 1, ZERO - 8};
        for (int what = 0; what < 12; what++) due("as it moves, " + what, x.of(0, what), moving[what]);

        sentence("5 steps left (0 if it rests), 6 its level (0 if it rests), 7 in how many ticks its next step comes (NONE if it rests)");
        x = bench(1, 1);
        x.move(0, 4);
        x.pass(60 + 50 + 40);
        due("level", x.of(0, LEVEL), 1);
        due("next", x.of(0, NEXT), 50);
        x.pass(49);
        due("just before", x.of(0, NEXT), 1);
        due("just before", x.of(0, LEFT), 1);
        due("just before", x.of(0, MOVES), 1);
        x.pass(1);
        due("left", x.of(0, LEFT), 0);
        due("level", x.of(0, LEVEL), 0);
        due("next", x.of(0, NEXT), NONE);
        due("moves", x.of(0, MOVES), 0);
        due("behind all", x.of(0, BEHIND), ZERO + 4);
        due("the other one has made none", x.of(1, STEPS_OF), 0);
    }

    private static void waitingAndPlanned() {
        sentence("NO_SUCH if there is no such shaft, or not so many wait");
        RampShafts x = bench(1, 1);
        x.move(0, 1);
        for (int waits = 0; waits <= 3; waits++) {
            for (int rank = 0; rank <= 3; rank++) {
                due("rank " + rank + " of " + waits, x.waiting(0, rank), rank < waits ? ZERO + 10 + rank : NO_SUCH);
            }
            due("below", x.waiting(0, -1), NO_SUCH);
            if (waits < 3) x.move(0, 10 + waits);
        }
        due("none of the other", x.waiting(1, 0), NO_SUCH);
        x.pass(60);
        due("the second is the first", x.waiting(0, 0), ZERO + 11);
        due("the third is the second", x.waiting(0, 1), ZERO + 12);
        due("no third", x.waiting(0, 2), NO_SUCH);

        sentence("NO_SUCH if there are not so many; BAD_VALUE if what is out of range");
        x = bench(1, 1);
        for (int plans = 0; plans <= 12; plans++) {
            due("below", x.planned(-1, 0), NO_SUCH);
            due("rank " + plans, x.planned(plans, 0), NO_SUCH);
            due("NO_SUCH first", x.planned(plans, 3), NO_SUCH);
            if (plans > 0) {
                due("the last", x.planned(plans - 1, 2), ZERO + plans - 1);
                due("what below", x.planned(plans - 1, -1), BAD_VALUE);
                due("what above", x.planned(plans - 1, 3), BAD_VALUE);
            }
            if (plans < 12) x.plan(100 + plans, plans % 2, plans);
        }
        for (int rank = 0; rank < 12; rank++) due("shaft", x.planned(rank, 1), rank % 2);
        x.pass(100);
        due("the first has come", x.planned(0, 0), 101);
        due("the last is one lower", x.planned(10, 0), 111);
        due("not so many", x.planned(11, 0), NO_SUCH);
    }

    private static void plannedInOrder() {
        sentence("by time, of one time in the order in which they were planned");
        RampShafts x = bench(1, 1);
        int[] in = {50, 40, 50, 30, 40, 50, 60, 30, 1, 9999, 60, 1};
        int[] order = {8, 11, 3, 7, 1, 4, 0, 2, 5, 6, 10, 9};
        for (int place = 0; place < 12; place++) x.plan(in[place], place % 2, place);
        for (int rank = 0; rank < 12; rank++) {
            due("time", x.planned(rank, 0), in[order[rank]]);
            due("shaft", x.planned(rank, 1), order[rank] % 2);
            due("place", x.planned(rank, 2), ZERO + order[rank]);
        }
        x.pass(10);
        x.plan(20, 0, 77);
        due("of one time, planned later", x.planned(1, 2), ZERO + 7);
        due("of one time, planned later", x.planned(2, 2), ZERO + 77);
        due("the one behind", x.planned(3, 2), ZERO + 1);
    }

    private static void count() {
        sentence("what: 0 the time, .. 14 how many changes can be undone");
        RampShafts x = bench(1, 2, 4);
        due("below", x.count(-1), BAD_VALUE);
        due("above", x.count(15), BAD_VALUE);
        x.set(RampShafts.GRIP, 40);
        x.set(RampShafts.PULL, 11);
        x.set(RampShafts.GAIN, 25);
        x.load(2, 2);
        x.move(0, 1);
        x.move(2, -8);
        x.plan(999, 0, 1);
        x.plan(998, 1, 1);
        x.pass(60);
        x.put(Checks.packed("n1;h0"));
        int[] want = {60, 3, 4, 4, 2, 2, 1, 2, 60, 10, 25, 40, 11, 5, 6};
        for (int what = 0; what < want.length; what++) due("count(" + what + ")", x.count(what), want[what]);
    }

    private static void interval() {
        sentence("level: 0 to 99");
        RampShafts x = new RampShafts();
        due("below", x.interval(-1), BAD_VALUE);
        due("the least", x.interval(0), 60);
        due("the most", x.interval(99), 10);
        due("above", x.interval(100), BAD_VALUE);
        Checks.settings(x, 200, 2, 1);
        due("the most", x.interval(99), 101);
        due("above, though there is such a level", x.interval(100), BAD_VALUE);
        due("there is such a level", x.count(HIGHEST), 198);
    }

    // ---- 15 to 20

    private static void restsIn() {
        sentence("Returns how many (0 if it is so now)");
        RampShafts x = bench(1, 1);
        due("now", x.restsIn(0), 0);
        x.move(0, 0);
        due("over at once", x.restsIn(0), 0);
        x.plan(1, 0, 0);
        due("a plan is over at once in 1", x.restsIn(0), 1);
        due("the other one", x.restsIn(1), 0);
        x.pass(1);
        due("now", x.restsIn(0), 0);
        x.move(0, 1);
        due("a step", x.restsIn(0), 60);
        x.pass(59);
        due("the last tick", x.restsIn(0), 1);
        x.pass(1);
        due("now", x.restsIn(0), 0);

        sentence("and no move of it waits or is planned, if nothing else is done");
        x.move(0, 2);
        x.move(0, 3);
        due("one waits", x.restsIn(0), 120);
        x.plan(119, 0, 4);
        due("a plan that waits", x.restsIn(0), 180);
        x.plan(120, 0, 5);
        due("two that wait", x.restsIn(0), 240);
        x.plan(500, 0, 5);
        due("one for later, over at once", x.restsIn(0), 500);
        x.plan(9999, 1, 1);
        due("one of the other", x.restsIn(0), 500);
        due("one of the other", x.restsIn(1), 9999 + 60);
        due("nothing changes", x.count(TIME), 61);
        due("nothing changes", x.count(PLANS), 4);
    }

    private static void restsWithin() {
        sentence("NONE if it is not within 20000");
        RampShafts x = evenBench();
        x.move(0, 400);
        due("just 20000", x.restsIn(0), 20000);
        x = evenBench();
        x.move(0, 401);
        due("20050", x.restsIn(0), NONE);
        x.pass(49);
        due("20001", x.restsIn(0), NONE);
        x.pass(1);
        due("20000", x.restsIn(0), 20000);
        x = evenBench();
        x.move(0, 399);
        x.move(0, 400);
        due("what waits counts", x.restsIn(0), 20000);
        x.move(0, 401);
        due("what waits counts", x.restsIn(0), NONE);
        x = evenBench();
        x.plan(9950, 0, 201);
        due("what is planned counts, 20000", x.restsIn(0), 20000);
        x = evenBench();
        x.plan(9951, 0, 201);
        due("what is planned counts, 20001", x.restsIn(0), NONE);
        x = evenBench();
        x.plan(9900, 0, 201);
        x.plan(9901, 0, 202);
        due("what waits behind a plan counts, 20000", x.restsIn(0), 20000);
        x.plan(9902, 0, 201);
        due("what waits behind a plan counts, 20050", x.restsIn(0), NONE);

        restsWithinAsOthersStep();

        sentence("what if; nothing changes (the bound of time does not matter)");
        x = evenBench();
        late(x, 99999);
        x.move(0, 400);
        due("above 99999", x.restsIn(0), 20000);
        due("above 99999", x.nextStep(99, 0), 5000);
        due("the time is as before", x.count(TIME), 99999);
        due("a plan above 99999", x.plan(9999, 0, 400), 1);
        due("its time", x.planned(0, 0), 109998);
        due("rests as before", x.restsIn(0), 20000);
    }

    /** Two shafts make a step in every tick, as many as there are until the third one rests. */
    private static void restsWithinAsOthersStep() {
        RampShafts x = bench(1, 1, 1);
        Checks.settings(x, 10, 2, 8);
        x.move(0, 9999);
        x.move(0, -9999);
        x.pass(1);
        x.move(1, 9999);
        x.move(1, -9999);
        late(x, 20100);
        due("a step in every tick", x.pass(10), 10);
        x.move(2, 9992);
        due("20000 = 10 + 9990 * 2 + 10", x.restsIn(2), 20000);
        x.move(2, 9991);
        due("20010", x.restsIn(2), NONE);
    }

    private static void stopsAt() {
        sentence("(what it says now, if it rests)");
        RampShafts x = bench(4, 1);
        due("at first", x.stopsAt(0), ZERO);
        x.move(0, -4);
        x.pass(60);
        due("behind a move", x.stopsAt(0), ZERO - 4);
        x.plan(1, 0, 100);
        due("a move is planned", x.stopsAt(0), ZERO - 4);
        due("the other one", x.stopsAt(1), ZERO);

        sentence("Tells what a shaft would say as it rests, if it was stopped now");
        x.move(0, -80);
        due("at the level 0, at once", x.stopsAt(0), ZERO - 4);
        x.pass(60);
        due("at the level 1", x.stopsAt(0), ZERO - 4 - 8);
        x.pass(50);
        due("at the level 2", x.stopsAt(0), ZERO - 4 - 16);
        due("nothing changes", x.of(0, LEFT), 17);
        x = bench(1);
        x.set(RampShafts.GRIP, 40);
        x.set(RampShafts.PULL, 20);
        x.load(0, 9);
        x.move(0, 4);
        x.pass(60 + 50);
        due("also by steps that are lost", x.stopsAt(0), ZERO + 4);
        x.pass(40);
        due("just as many are left", x.stopsAt(0), ZERO + 4);
        due("where it is", x.of(0, STANDS), ZERO);
    }

    private static void nextStep() {
        sentence("rank: 0 to 99: 0 for the next one");
        RampShafts x = evenBench();
        x.move(0, 101);
        due("below", x.nextStep(-1, 0), BAD_VALUE);
        due("the first", x.nextStep(0, 0), 50);
        due("the last rank", x.nextStep(99, 0), 5000);
        due("above", x.nextStep(100, 0), BAD_VALUE);

        sentence("NONE if it does not come within 5000 ticks");
        x = bench(1, 1);
        Checks.settings(x, 50, 50, 1);
        x.plan(1, 0, 9999);
        due("4951", x.nextStep(98, 0), 4951);
        due("5001", x.nextStep(99, 0), NONE);
        due("5001", x.nextStep(99, 1), NONE);
        due("5001", x.nextStep(99, 2), NONE);
        x.pass(1);
        due("5000", x.nextStep(99, 0), 5000);
        due("5000", x.nextStep(99, 1), 0);
        due("5000", x.nextStep(99, 2), 0);
        x = bench(1, 1);
        due("no shaft moves", x.nextStep(0, 0), NONE);
        x.plan(4940, 1, 1);
        x.plan(4941, 0, 1);
        due("5000", x.nextStep(0, 0), 5000);
        due("5000", x.nextStep(0, 1), 1);
        due("5001", x.nextStep(1, 0), NONE);
        x.plan(9, 1, 0);
        due("a plan over at once has no step", x.nextStep(0, 0), 5000);
        due("nothing changes", x.count(PLANS), 3);

        sentence("steps go by time, of one time by shafts");
        x = bench(1, 1, 1);
        x.move(2, 2);
        x.move(0, 1);
        x.pass(50);
        x.move(1, 1);
        int[][] want = {{10, 0, 0}, {10, 2, 0}, {60, 1, 0}, {60, 2, 0}};
        for (int rank = 0; rank < 4; rank++) {
            for (int what = 0; what < 3; what++) due("step " + rank + ", " + what, x.nextStep(rank, what), want[rank][what]);
        }
        due("no fifth", x.nextStep(4, 0), NONE);
        lostStepsToCome();
    }

    private static void lostStepsToCome() {
        sentence("2 whether it is lost (1 or 0)");
        RampShafts x = bench(1, 1);
        Checks.grips(x, 30, 10);
        x.load(1, 1);
        x.move(0, 8);
        x.move(1, 8);
        int[] intervals = {60, 50, 40, 30, 20, 30, 40, 50};
        for (int rank = 0; rank < 16; rank++) {
            int least = rank % 2 == 0 ? 30 : 40;
            due("step " + rank, x.nextStep(rank, 2), intervals[rank / 2] < least ? 1 : 0);
        }
        x.load(1, 0);
        due("by the load of now", x.nextStep(7, 2), 0);
        due("nothing is lost yet", x.count(LOST), 0);
    }

    private static void moveOf() {
        sentence("steps: 1 to 999; what: 0 how many ticks it takes, 1 the highest level of its steps");
        RampShafts x = evenBench();
        due("below", x.moveOf(0, 0), BAD_VALUE);
        due("the least", x.moveOf(1, 0), 50);
        due("the most", x.moveOf(999, 0), 49950);
        due("above", x.moveOf(1000, 0), BAD_VALUE);
        due("what below", x.moveOf(1, -1), BAD_VALUE);
        due("what above", x.moveOf(1, 2), BAD_VALUE);
        due("one level", x.moveOf(999, 1), 0);
        x = new RampShafts();
        int[] ticks = {60, 110, 170, 200, 260, 270, 330, 320, 380};
        int[] peaks = {0, 1, 1, 2, 2, 3, 3, 4, 4, 5, 5, 5, 5};
        for (int steps = 1; steps <= ticks.length; steps++) due("ticks of " + steps, x.moveOf(steps, 0), ticks[steps - 1]);
        for (int steps = 1; steps <= peaks.length; steps++) due("level of " + steps, x.moveOf(steps, 1), peaks[steps - 1]);
        due("from its beginning to its last step", x.moveOf(9, 0), ticksThatPass(9));
        due("from its beginning to its last step", x.moveOf(999, 0), ticksThatPass(999));
        Checks.settings(x, 200, 2, 1);
        due("the highest of all", x.moveOf(999, 1), 198);
        due("just reached", x.moveOf(396, 1), 198);
        due("just not reached", x.moveOf(395, 1), 197);
    }

    private static int ticksThatPass(int steps) {
        RampShafts x = bench(1);
        x.move(0, steps);
        return x.restsIn(0);
    }

    /** The settings START and TOP, and the interval that a step needs with the load 0. */
    private static void bestGainIs(int start, int top, int needed, int steps, int want) {
        RampShafts x = new RampShafts();
        Checks.settings(x, start, top, 7);
        x.set(RampShafts.GRIP, Math.min(needed, 40));
        x.set(RampShafts.PULL, Math.max(needed - 40, 0));
        int load = needed > 40 ? 1 : 0;
        due(steps + " steps from " + start + " to " + top + " that need " + needed, x.bestGain(steps, load), want);
        due("nothing changes", x.count(8 + RampShafts.GAIN), 7);
    }

    private static void bestGain() {
        sentence("Finds the greatest GAIN, 1 to 40, with which no step of a move of so many steps would be lost with a load.");
        bestGainIs(60, 10, 10, 999, 40);
        bestGainIs(60, 10, 11, 1, 40);
        bestGainIs(60, 10, 19, 2, 40);
        bestGainIs(60, 10, 20, 2, 40);
        bestGainIs(60, 10, 21, 2, 39);
        bestGainIs(60, 10, 21, 3, 39);
        bestGainIs(60, 10, 11, 4, 24);
        bestGainIs(60, 10, 10, 4, 40);
        bestGainIs(60, 10, 12, 4, 24);
        bestGainIs(60, 10, 13, 4, 23);
        bestGainIs(60, 10, 11, 97, 1);
        bestGainIs(60, 10, 11, 98, 1);
        bestGainIs(60, 10, 11, 99, 1);
        bestGainIs(60, 10, 58, 2, 2);
        bestGainIs(60, 10, 59, 2, 1);
        bestGainIs(60, 10, 60, 1, 40);
        bestGainIs(10, 50, 50, 999, 40);
        sentence("NONE if none does");
        bestGainIs(60, 10, 60, 2, NONE);
        bestGainIs(60, 10, 60, 1, 40);
        bestGainIs(59, 10, 60, 1, NONE);
        bestGainIs(60, 10, 11, 100, NONE);
        bestGainIs(60, 10, 11, 999, NONE);
        bestGainIs(10, 50, 51, 1, NONE);
        bestGainIs(10, 50, 50, 1, 40);

        sentence("steps: 1 to 999; load: 0 to 9");
        RampShafts x = new RampShafts();
        due("steps below", x.bestGain(0, 0), BAD_VALUE);
        due("steps above", x.bestGain(1000, 0), BAD_VALUE);
        due("load below", x.bestGain(1, -1), BAD_VALUE);
        due("load above", x.bestGain(1, 10), BAD_VALUE);
        Checks.settings(x, 200, 2, 1);
        Checks.grips(x, 20, 20);
        due("the least of both", x.bestGain(1, 0), 40);
        due("the greatest load", x.bestGain(1, 9), 40);
        due("the greatest load, two steps", x.bestGain(2, 9), NONE);
        due("the load 8", x.bestGain(2, 8), 20);
        due("the most steps", x.bestGain(999, 0), NONE);
        x.set(RampShafts.GRIP, 2);
        due("the most steps", x.bestGain(999, 0), 40);
    }

    private static void bears() {
        sentence("Finds the greatest load, 0 to 9, with which a step at the level of a shaft would not be lost.");
        RampShafts x = bench(1);
        int[][] due = {{60, 6, 6, 9}, {59, 6, 6, 8}, {60, 7, 6, 8}, {11, 11, 6, 0}, {17, 11, 6, 1}, {16, 11, 6, 0}, {40, 40, 0, 9},
            {10, 0, 20, 0}, {20, 0, 20, 1}, {200, 20, 20, 9}, {199, 20, 20, 8}, {180, 0, 20, 9}};
        for (int[] row : due) {
            Checks.settings(x, row[0], 2, 1);
            Checks.grips(x, row[1], row[2]);
            due("at " + row[0] + " by " + row[1] + " + " + row[2] + " * load", x.bears(0), row[3]);
        }
        sentence("NONE if even 0 is too much");
        Checks.settings(x, 39, 2, 1);
        Checks.grips(x, 40, 0);
        due("39 of 40", x.bears(0), NONE);
        x.set(RampShafts.START, 40);
        due("40 of 40", x.bears(0), 9);

        sentence("(0 if it rests)");
        x = bench(1);
        Checks.grips(x, 10, 10);
        due("at rest, 60", x.bears(0), 5);
        x.move(0, 2);
        due("at the level 0, 60", x.bears(0), 5);
        x.pass(60);
        due("at the level 1, 50", x.bears(0), 4);
        x.load(0, 9);
        due("its own load does not matter", x.bears(0), 4);
        x.pass(50);
        due("at rest again", x.bears(0), 5);
    }

    // ---- 21 to 24

    private static void put() {
        sentence("characters: 1 to 8 characters");
        String eight = "~!mM09;@";
        for (int length = 1; length <= 8; length++) {
            RampShafts x = new RampShafts();
            due(length + " characters", x.put(Checks.packed(eight.substring(0, length))), length);
            due(length + " characters", x.count(PAD), length);
        }
        due("none", new RampShafts().put(0), BAD_VALUE);

        sentence("BAD_VALUE if there is no character, a code is not 33 to 126, or a bit above 8 bits that are 0 is not 0");
        for (int place = 0; place < 8; place++) {
            long others = place == 0 ? 0 : Checks.packed("11111111") >>> 8 * (8 - place);
            for (int code = 1; code <= 255; code++) {
                long characters = (long) code << 8 * place | others;
                boolean fits = code >= 33 && code <= 126;
                due("the code " + code + " at " + place, new RampShafts().put(characters), fits ? place + 1 : BAD_VALUE);
            }
            if (place == 0) continue;
            for (int bit = 8 * place; bit < 64; bit++) {
                long characters = 1L << bit | others & ~(255L << 8 * (place - 1));
                due("a bit above 8 that are 0: " + characters, new RampShafts().put(characters), BAD_VALUE);
            }
        }

        sentence("its lowest 8 bits are the last character, the next 8 bits the one before, and so on");
        RampShafts x = new RampShafts();
        x.put((long) 'n' << 16 | '2' << 8 | ';');
        x.put((long) 'm' << 48 | (long) '0' << 40 | (long) '@' << 32 | (long) '-' << 24 | '1' << 16 | '2' << 8 | '3');
        due("the orders", x.carryOut(), 2);
        due("the order of the characters", x.of(0, BEHIND), ZERO - 122);

        sentence("TOO_MANY if the pad would be longer than 80");
        for (int length = 0; length <= 8; length++) {
            for (int more = 1; more <= 8; more++) {
                x = new RampShafts();
                write(x, "n".repeat(80 - length));
                int want = more <= length ? 80 - length + more : TOO_MANY;
                due(more + " more with " + length + " free", x.put(Checks.packed("12345678".substring(0, more))), want);
                due("the length then", x.count(PAD), want == TOO_MANY ? 80 - length : want);
            }
        }
    }

    private static void wipeAndFault() {
        sentence("Empties the pad, and returns the length that it had.");
        RampShafts x = new RampShafts();
        due("empty", x.wipe(), 0);
        x.put('n');
        due("one", x.wipe(), 1);
        due("empty then", x.count(PAD), 0);
        due("empty then", x.fault(), 0);
        write(x, "n".repeat(80));
        due("full", x.wipe(), 80);
        due("there is room again", x.put(Checks.packed("t1")), 2);
        due("nothing of it is left", x.fault(), NONE);
        due("no change", x.count(UNDOABLE), 0);

        sentence("Returns the fault of the pad, NONE if there is none.");
        x = new RampShafts();
        String text = "n1;t0;m0@-5";
        int[] faults = {0, 1, NONE, 3, 4, NONE, 6, 7, 8, 9, 10, NONE};
        for (int length = 0; length <= text.length(); length++) {
            due("fault of " + text.substring(0, length), x.fault(), faults[length]);
            due("it stays", x.count(PAD), length);
            if (length < text.length()) x.put(text.charAt(length));
        }
    }

    private static void carryOut() {
        sentence("BAD_TEXT if the pad has a fault (then it stays)");
        RampShafts x = new RampShafts();
        due("empty", x.carryOut(), BAD_TEXT);
        for (String text : new String[] {"n", "n1;", "n1;n", "x", "n1;x", "n1,n1", "t01", "n1;t10000", "n1;m0@", "n1;h0;l0=10"}) {
            write(x, text);
            due(text, x.carryOut(), BAD_TEXT);
            due("it stays", x.count(PAD), text.length());
            due("nothing is carried out", x.count(SHAFTS), 0);
            due("no change", x.count(UNDOABLE), 0);
        }
        write(x, "n1");
        due("without a fault", x.carryOut(), 1);
        due("empty then", x.count(PAD), 0);

        sentence("up to the first one that returns an error, and empties the pad");
        carriedOutIs("n1", 1);
        carriedOutIs("n3", 0);
        carriedOutIs("n3;n1", 0);
        carriedOutIs("n1;n0;n1", 1);
        carriedOutIs("n1;n2;n4;n1;n1;n1", 4);
        carriedOutIs("n1;m1@0;n1", 1);
        carriedOutIs("n1;m0@5;m0@1;m0@2;m0@3;m0@4;n1", 5);
        carriedOutIs("n1;m0@0;m0@-9999;m0@9999;s0;h0;s0;n1", 6);
        carriedOutIs("n1;p0:0@0;n1", 1);
        carriedOutIs("n1;p1:1@0;n1", 1);
        carriedOutIs("n1;p9999:0@9999;p1:0@-9999;n1", 4);
        carriedOutIs("n1;p1:0@0;p1:0@0;p1:0@0;p1:0@0;p1:0@0;p1:0@0;p1:0@0;p1:0@0;p1:0@0;p1:0@0;n3", 11);
        carriedOutIs("n1;s0;n1", 1);
        carriedOutIs("s0", 0);
        carriedOutIs("n1;l0=9;l0=0;l1=0;n1", 3);
        carriedOutIs("n1;h0;h1;n1", 2);
        carriedOutIs("n1;m0@1;h0;n1", 2);
        carriedOutIs("t0;n1", 0);
        carriedOutIs("t1;t999;t1000;n1", 2);
        carriedOutIs("t9999;n1", 0);
    }

    /** Behind the order with an error there is one that would be seen. */
    private static void carriedOutIs(String text, int want) {
        RampShafts x = new RampShafts();
        write(x, text);
        int shafts = 0;
        String[] orders = text.split(";");
        for (int order = 0; order < want; order++) if (orders[order].charAt(0) == 'n') shafts++;
        due(text, x.carryOut(), want);
        due("shafts by " + text, x.count(SHAFTS), shafts);
        due("the pad behind " + text, x.count(PAD), 0);
        due("changes by " + text, x.count(UNDOABLE), 1);
        due("undo of " + text, x.undo(), 0);
        due("shafts behind undo of " + text, x.count(SHAFTS), 0);
        due("the pad behind undo of " + text, x.count(PAD), 0);
    }

    private static void carryOutWhereAllPlacesAreTaken() {
        sentence("up to the first one that returns an error");
        RampShafts x = bench(1);
        for (int planned = 1; planned <= 11; planned++) x.plan(50, 0, 0);
        write(x, "p9:0@1;p8:0@1;n1");
        due("12 are planned", x.carryOut(), 1);
        due("12 are planned", x.count(PLANS), 12);
        x = new RampShafts();
        late(x, 99000);
        write(x, "t999;t1;n1");
        due("the time would be above 99999", x.carryOut(), 1);
        due("the time", x.count(TIME), 99999);

        sentence("This is a change (one, with all of them; also if none is carried out).");
        x = bench(1);
        write(x, "m0@2;t60;l0=3;s0");
        due("all", x.carryOut(), 4);
        due("one change", x.count(UNDOABLE), 2);
        write(x, "t0");
        due("none", x.carryOut(), 0);
        due("a change", x.count(UNDOABLE), 3);
        due("undo of none", x.undo(), 2);
        due("nothing is different", x.count(TIME), 60);
        due("undo of all", x.undo(), 1);
        due("the time", x.count(TIME), 0);
        due("the load", x.of(0, LOAD), 0);
        due("the move", x.of(0, MOVES), 0);
    }

    // ---- 25 to 27

    private static void undo() {
        sentence("A history of at most 6 states is kept; when one more is recorded, the oldest one is dropped");
        for (int changes = 0; changes <= 20; changes++) {
            RampShafts x = new RampShafts();
            for (int change = 1; change <= changes; change++) {
                x.set(RampShafts.START, 10 + change);
                due("can be undone", x.count(UNDOABLE), Math.min(change, 6));
            }
            int kept = Math.min(changes, 6);
            for (int undone = 1; undone <= kept; undone++) {
                int before = changes - undone;
                due("undo", x.undo(), kept - undone);
                due("START after " + before + " of " + changes, x.count(8), before == 0 ? 60 : 10 + before);
            }
            due("none any more", x.undo(), NOT_POSSIBLE);
            due("as many again", x.set(RampShafts.TOP, 20), 10);
            due("as many again", x.undo(), 0);
            due("as many again", x.count(9), 10);
        }

        sentence("Undoes the latest change");
        RampShafts x = new RampShafts();
        int value = 10;
        // each round keeps one change more than it undoes, so the kept states go round more than once
        for (int round = 1; round <= 30; round++) {
            x.set(RampShafts.START, ++value);
            x.set(RampShafts.START, 150);
            x.undo();
            due("round " + round, x.count(8), value);
            due("round " + round, x.count(UNDOABLE), Math.min(round, 5));
        }
        for (int left = 4; left >= 0; left--) {
            due("undo", x.undo(), left);
            due("then", x.count(8), --value);
        }
        due("the 6th was dropped", x.undo(), NOT_POSSIBLE);
    }

    private static void recordedChanges() {
        sentence("each method that is a change, and returns no error, records the state before it (also if nothing is different then)");
        String[] names = {"shaft", "set to what it is", "load to what it is", "move over at once", "plan", "home", "pass", "move",
            "stop", "restore"};
        for (int call = 0; call < names.length; call++) {
            RampShafts x = bench(1);
            x.save(0);
            if (call == 8) x.move(0, 5);
            int before = x.count(UNDOABLE);
            due(names[call] + " is refused", changeBy(x, call) < 0 ? 1 : 0, 0);
            due(names[call] + " is recorded", x.count(UNDOABLE), before + 1);
            due(names[call] + " is undone", x.undo(), before);
            due("time then", x.count(TIME), 0);
            due("shafts then", x.count(SHAFTS), 1);
            due("planned then", x.count(PLANS), 0);
            due("moving then", x.count(MOVING), call == 8 ? 1 : 0);
        }
        RampShafts x = bench(1, 1);
        x.move(0, 5);
        x.save(0);
        x.wipe();
        x.put('t');
        x.put('1');
        x.fault();
        x.restsIn(0);
        x.stopsAt(0);
        x.nextStep(0, 0);
        x.moveOf(5, 0);
        x.bestGain(5, 0);
        x.bears(0);
        due("no other call is", x.count(UNDOABLE), 3);
    }

    private static int changeBy(RampShafts x, int call) {
        switch (call) {
            case 0: return x.shaft(1);
            case 1: return x.set(RampShafts.START, 60);
            case 2: return x.load(0, 0);
            case 3: return x.move(0, 0);
            case 4: return x.plan(1, 0, 0);
            case 5: return x.home(0);
            case 6: return x.pass(1);
            case 7: return x.move(0, 1);
            case 8: return x.stop(0);
            default: return x.restore(0);
        }
    }

    /** A bench on which nothing is as at first, and two moves of its shafts go down. */
    private static RampShafts variedBench() {
        RampShafts x = bench(2, 1, 4);
        Checks.settings(x, 90, 14, 12);
        Checks.grips(x, 33, 9);
        x.load(0, 6);
        x.load(1, 5);
        x.move(0, -20);
        x.move(0, 4);
        x.move(0, -6);
        x.move(0, 2);
        x.move(1, 30);
        x.pass(200);
        x.plan(15, 1, -7);
        x.plan(400, 2, 40);
        x.plan(7, 1, 3);
        return x;
    }

    private static int[] allOf(RampShafts x) {
        int[] all = new int[13 + 4 * 15 + 12 + 30];
        int at = 0;
        for (int what = 0; what < 13; what++) all[at++] = x.count(what);
        for (int shaft = 0; shaft < 4; shaft++) {
            for (int what = 0; what < 12; what++) all[at++] = x.of(shaft, what);
            for (int rank = 0; rank < 3; rank++) all[at++] = x.waiting(shaft, rank);
        }
        for (int rank = 0; rank < 4; rank++) {
            for (int what = 0; what < 3; what++) all[at++] = x.planned(rank, what);
        }
        for (int rank = 0; rank < 30; rank++) all[at++] = x.nextStep(rank, rank % 3);
        return all;
    }

    private static void same(String told, RampShafts x, RampShafts want) {
        int[] got = allOf(x);
        int[] wanted = allOf(want);
        for (int i = 0; i < got.length; i++) due(told + ", answer " + i, got[i], wanted[i]);
    }

    /** Changes everything there is. */
    private static int changeAll(RampShafts x) {
        write(x, "t30;s0;n1;l0=1;l1=0;l2=3;m1@-50;p3:3@70;p5:2@-8;t600;h0;m3@-9;m2@4;m2@8;t5");
        return x.carryOut();
    }

    private static void everythingIsAsBefore() {
        sentence("everything except the pad, the slots and the history is as it was before it");
        RampShafts x = variedBench();
        due("all orders", changeAll(x), 15);
        x.undo();
        same("undone", x, variedBench());
        x = variedBench();
        x.set(RampShafts.START, 77);
        x.set(RampShafts.TOP, 7);
        x.set(RampShafts.GAIN, 3);
        x.set(RampShafts.GRIP, 3);
        x.set(RampShafts.PULL, 3);
        for (int undone = 0; undone < 5; undone++) x.undo();
        same("settings undone", x, variedBench());
        x = variedBench();
        x.pass(300);
        x.undo();
        x.pass(300);
        RampShafts y = variedBench();
        y.pass(300);
        same("it goes on as if nothing was undone", x, y);

        sentence("everything except the pad, the slots and the history");
        x = bench(1);
        x.put('n');
        x.save(0);
        x.load(0, 4);
        x.save(1);
        x.save(0);
        x.put('1');
        due("undo", x.undo(), 1);
        due("the pad is not", x.count(PAD), 2);
        due("the slot 1 is not", x.restore(1), 1);
        due("the slot 1 is not", x.of(0, LOAD), 4);
        due("the slot 0 is not", x.restore(0), 1);
        due("the slot 0 is not", x.of(0, LOAD), 4);
        due("each was a change", x.undo(), 2);
        due("each was a change", x.undo(), 1);
        due("before them", x.of(0, LOAD), 0);
    }

    private static void saveAndRestore() {
        sentence("slot: 0 or 1");
        RampShafts x = new RampShafts();
        due("below", x.save(-1), BAD_VALUE);
        due("above", x.save(2), BAD_VALUE);
        due("below", x.restore(-1), BAD_VALUE);
        due("above", x.restore(2), BAD_VALUE);

        sentence("Returns how many shafts there are");
        for (int shafts = 0; shafts <= 4; shafts++) {
            due("save", x.save(shafts % 2), shafts);
            due("restore", x.restore(shafts % 2), shafts);
            if (shafts < 4) x.shaft(1);
        }
        due("the slot 1 is older", x.restore(1), 3);
        due("the slot 0 is newer", x.restore(0), 4);

        sentence("NOT_POSSIBLE if nothing was saved in it");
        x = bench(1);
        for (int slot = 0; slot < 2; slot++) due("nothing", x.restore(slot), NOT_POSSIBLE);
        due("save", x.save(0), 1);
        due("nothing in the other", x.restore(1), NOT_POSSIBLE);
        due("restore", x.restore(0), 1);
        x.undo();
        x.undo();
        due("no shaft", x.count(SHAFTS), 0);
        due("it is still saved", x.restore(0), 1);
        x = bench(1);
        due("save", x.save(1), 1);
        due("nothing in the other", x.restore(0), NOT_POSSIBLE);
        due("restore", x.restore(1), 1);
        x = new RampShafts();
        due("no shafts are something, too", x.save(0), 0);
        due("no shafts are something, too", x.restore(0), 0);
        due("a change", x.count(UNDOABLE), 1);
    }

    private static void whatIsSaved() {
        sentence("Saves everything except the pad, the history and the slots in a slot, and overwrites what was saved there.");
        RampShafts x = variedBench();
        due("save", x.save(1), 3);
        due("all orders", changeAll(x), 15);
        x.set(RampShafts.GAIN, 30);
        due("restore", x.restore(1), 3);
        same("restored", x, variedBench());
        x = variedBench();
        x.save(0);
        x.put('x');
        x.pass(50);
        due("overwrites", x.save(0), 3);
        x.pass(400);
        x.wipe();
        x.put('n');
        x.put('1');
        due("restore", x.restore(0), 3);
        due("not the pad", x.count(PAD), 2);
        due("not the history", x.count(UNDOABLE), 6);
        RampShafts y = variedBench();
        y.pass(50);
        same("restored", x, y);

        sentence("Restores what was saved last in a slot, which keeps it. This is a change.");
        x.pass(70);
        x.load(0, 0);
        due("again", x.restore(0), 3);
        due("undo of restore", x.undo(), 5);
        due("as before it", x.of(0, LOAD), 0);
        due("again", x.restore(0), 3);
        due("as it was saved", x.of(0, LOAD), 6);
        x.pass(3);
        due("what comes later does not change the slot", x.restore(0), 3);
        due("the time", x.count(TIME), 250);
        // what there was behind the last shaft that is restored is not seen in a new one
        x = new RampShafts();
        x.save(0);
        x.shaft(4);
        x.load(0, 5);
        x.move(0, 40);
        x.pass(70);
        x.restore(0);
        due("a new shaft", x.shaft(2), 0);
        int[] first = {ZERO, ZERO, 2, 0, 0, 0, 0, NONE, 0, 0, 0, ZERO};
        for (int what = 0; what < first.length; what++) due("a new shaft, " + what, x.of(0, what), first[what]);
    }

    public static void main(String[] args) {
        newObject();
        set();
        shaft();
        load();
        move();
        plan();
        stop();
        home();
        pass();
        of();
        waitingAndPlanned();
        plannedInOrder();
        count();
        interval();
        restsIn();
        restsWithin();
        stopsAt();
        nextStep();
        moveOf();
        bestGain();
        bears();
        put();
        wipeAndFault();
        carryOut();
        carryOutWhereAllPlacesAreTaken();
        undo();
        recordedChanges();
        everythingIsAsBefore();
        saveAndRestore();
        whatIsSaved();
        Checks.end();
    }
}
