/** The edges that the document's Terms name, a test for each sentence: both sides of each edge. */
public final class TermsEdgeTests {
    private static final int NO_SUCH = Checks.NO_SUCH, BAD_VALUE = Checks.BAD_VALUE, TOO_MANY = Checks.TOO_MANY;
    private static final int NOT_POSSIBLE = Checks.NOT_POSSIBLE, NONE = Checks.NONE, ZERO = Checks.ZERO;
    private static final int SAYS = 0, STANDS = 1, LOAD = 3, MOVES = 4, LEFT = 5, LEVEL = 6, NEXT = 7, WAITS = 8, BEHIND = 11;
    private static final int TIME = 0, SHAFTS = 1, MOVING = 2, DISPLACED = 3, PLANS = 4, LOST = 6, HIGHEST = 7, PAD = 13;
    private static final int UNDOABLE = 14;

    private static void sentence(String words) {
        Checks.sentence(words);
    }

    private static void due(String call, long got, long want) {
        Checks.due(call, got, want);
    }

    private static RampShafts bench(int... micros) {
        return Checks.bench(micros);
    }

    // ---- conventions

    private static void calls() {
        sentence("An object is used for at most 512 calls after it has been made");
        RampShafts x = new RampShafts();
        x.shaft(1);
        for (int call = 2; call <= 511; call++) due("call " + call, x.load(0, call % 10), call == 2 ? 0 : (call - 1) % 10);
        due("the 512th call", x.of(0, LOAD), 1);
        x = new RampShafts();
        x.shaft(1);
        for (int call = 2; call <= 505; call++) x.load(0, call % 10);
        for (int left = 5; left >= 0; left--) due("undo", x.undo(), left);
        due("the 512th call", x.undo(), NOT_POSSIBLE);
        x = new RampShafts();
        for (int call = 1; call <= 511; call++) {
            if (call % 2 == 1) due("put", x.put('n'), 1);
            else due("wipe", x.wipe(), 1);
        }
        due("the 512th call", x.fault(), 1);
    }

    private static void noneOnlyWithoutErrors() {
        sentence("it is returned only if no error applies");
        RampShafts x = bench(1);
        due("of(0, 7)", x.of(0, NEXT), NONE);
        due("of(1, 7)", x.of(1, NEXT), NO_SUCH);
        due("nextStep(0, 0)", x.nextStep(0, 0), NONE);
        due("nextStep(99, 2)", x.nextStep(99, 2), NONE);
        due("nextStep(0, 3)", x.nextStep(0, 3), BAD_VALUE);
        due("nextStep(100, 0)", x.nextStep(100, 0), BAD_VALUE);
        Checks.grips(x, 40, 20);
        due("bestGain(1, 9)", x.bestGain(1, 9), NONE);
        due("bestGain(0, 9)", x.bestGain(0, 9), BAD_VALUE);
        due("bestGain(1000, 9)", x.bestGain(1000, 9), BAD_VALUE);
        due("bestGain(1, 10)", x.bestGain(1, 10), BAD_VALUE);
        x.set(RampShafts.START, 39);
        due("bears(0)", x.bears(0), NONE);
        due("bears(1)", x.bears(1), NO_SUCH);
        Checks.settings(x, 50, 50, 1);
        x.move(0, 401);
        due("restsIn(0)", x.restsIn(0), NONE);
        due("restsIn(1)", x.restsIn(1), NO_SUCH);
    }

    private static void numbering() {
        sentence("Everything is numbered from 0.");
        RampShafts x = new RampShafts();
        due("the first shaft", x.shaft(1), 0);
        x.move(0, 1);
        x.move(0, 2);
        x.plan(5, 0, 3);
        due("the first that waits", x.waiting(0, 0), ZERO + 2);
        due("the first that is planned", x.planned(0, 2), ZERO + 3);
        due("the next step", x.nextStep(0, 0), 60);
        due("the first level", x.interval(0), 60);
        due("the first setting", x.set(0, 61), 60);
        due("the first slot", x.save(0), 1);
    }

    private static void divisions() {
        sentence("Divisions are rounded down.");
        int[][] left = {{}, {0, 1, 2, 3, 4, 5, 6, 7, 8, 9}, {0, 0, 1, 1, 2, 2, 3, 3, 4, 4}, {}, {0, 0, 0, 0, 1, 1, 1, 1, 2, 2}};
        for (int micro : new int[] {1, 2, 4}) {
            for (int distance = 0; distance < 10; distance++) {
                for (int way = -1; way <= 1; way += 2) {
                    RampShafts x = bench(micro);
                    x.move(0, way * distance);
                    due(distance + " by " + micro, x.of(0, LEFT), left[micro][distance]);
                    due("then it would say", x.of(0, BEHIND), ZERO + way * micro * left[micro][distance]);
                }
            }
        }
        RampShafts x = bench(4);
        x.move(0, 4);
        x.pass(60);
        x.move(0, -3);
        due("from 4 to -3 by 4", x.of(0, LEFT), 1);
        due("from 4 to -3 by 4", x.of(0, BEHIND), ZERO);
    }

    private static void places() {
        sentence("Places of shafts are told in units, and answered with 1000000 more.");
        RampShafts x = bench(1, 1);
        x.plan(1, 0, 9999);
        x.plan(2, 0, -9999);
        x.plan(3, 0, 0);
        due("planned", x.planned(0, 2), 1009999);
        due("planned", x.planned(1, 2), 990001);
        due("planned", x.planned(2, 2), 1000000);
        x.pass(3);
        due("waits", x.waiting(0, 0), 990001);
        due("waits", x.waiting(0, 1), 1000000);
        due("behind all steps", x.of(0, BEHIND), 1009999);
        x.move(1, -1);
        x.pass(60);
        due("says", x.of(1, SAYS), 999999);
        due("stands", x.of(1, STANDS), 999999);
        due("stops at", x.stopsAt(1), 999999);
    }

    private static void sets() {
        sentence("Sets of shafts are bit masks.");
        RampShafts x = bench(1, 1, 1, 1);
        Checks.grips(x, 40, 20);
        for (int shaft = 0; shaft < 4; shaft++) x.load(shaft, 9);
        due("none", x.count(MOVING), 0);
        for (int shaft = 0; shaft < 4; shaft++) {
            x.move(shaft, 1);
            due("only " + shaft, x.count(MOVING), 1 << shaft);
            x.pass(60);
            due("0 to " + shaft, x.count(DISPLACED), (2 << shaft) - 1);
        }
        for (int shaft = 0; shaft < 4; shaft++) x.move(shaft, 5);
        due("all", x.count(MOVING), 15);
        x.stop(1);
        due("all but 1", x.count(MOVING), 13);
        x.home(1);
        due("all but 1", x.count(DISPLACED), 13);
    }

    // ---- settings

    private static void rangeOf(String words, int setting, int least, int most, int first) {
        sentence(words);
        RampShafts x = new RampShafts();
        due("at first", x.count(8 + setting), first);
        due("below", x.set(setting, least - 1), BAD_VALUE);
        due("above", x.set(setting, most + 1), BAD_VALUE);
        due("still the first", x.count(8 + setting), first);
        due("the least", x.set(setting, least), first);
        due("the least", x.count(8 + setting), least);
        due("the most", x.set(setting, most), least);
        due("the most", x.count(8 + setting), most);
        for (int value = least; value <= most; value++) {
            due("in between", x.set(setting, value), value == least ? most : value - 1);
        }
    }

    private static void settings() {
        rangeOf("START (10 to 200; 60)", RampShafts.START, 10, 200, 60);
        rangeOf("TOP (2 to 50; 10)", RampShafts.TOP, 2, 50, 10);
        rangeOf("GAIN (1 to 40; 10)", RampShafts.GAIN, 1, 40, 10);
        rangeOf("GRIP (0 to 40; 4)", RampShafts.GRIP, 0, 40, 4);
        rangeOf("PULL (0 to 20; 2)", RampShafts.PULL, 0, 20, 2);
    }

    // ---- shafts

    private static void shafts() {
        sentence("There are up to 4 shafts, numbered in the order in which they came.");
        RampShafts x = new RampShafts();
        int[] micros = {4, 1, 2, 1};
        for (int number = 0; number < 4; number++) {
            due("not there yet", x.of(number, 2), NO_SUCH);
            due("shaft", x.shaft(micros[number]), number);
            due("shafts", x.count(SHAFTS), number + 1);
        }
        due("a fifth", x.shaft(1), TOO_MANY);
        due("a fifth", x.of(4, 2), NO_SUCH);
        for (int number = 0; number < 4; number++) due("micro of " + number, x.of(number, 2), micros[number]);

        sentence("A shaft makes micro steps of 1, 2 or 4 units");
        x = new RampShafts();
        for (int micro = -1; micro <= 9; micro++) {
            boolean fits = micro == 1 || micro == 2 || micro == 4;
            due("shaft(" + micro + ")", x.shaft(micro), fits ? micro / 2 : BAD_VALUE);
        }
        for (int number = 0; number < 3; number++) {
            x.move(number, 8);
            x.pass(60);
            due("a step of " + number, x.of(number, SAYS), ZERO + (1 << number));
        }
    }

    private static void loadsAndPlaces() {
        sentence("it has a load, 0 to 9 (0 at first)");
        RampShafts x = bench(1);
        due("at first", x.of(0, LOAD), 0);
        due("below", x.load(0, -1), BAD_VALUE);
        due("above", x.load(0, 10), BAD_VALUE);
        for (int load = 0; load <= 9; load++) due("load", x.load(0, load), Math.max(load - 1, 0));
        due("the most", x.of(0, LOAD), 9);
        due("the least again", x.load(0, 0), 9);

        sentence("a place that it says, a place where it is (0 both at first)");
        x = bench(1, 2, 4, 1);
        for (int shaft = 0; shaft < 4; shaft++) {
            due("says", x.of(shaft, SAYS), ZERO);
            due("stands", x.of(shaft, STANDS), ZERO);
        }

        sentence("up to 3 moves that wait, each to a place -9999 to 9999");
        x = bench(1);
        x.move(0, 1);
        due("first", x.move(0, -9999), 1);
        due("below", x.move(0, -10000), BAD_VALUE);
        due("above", x.move(0, 10000), BAD_VALUE);
        due("second", x.move(0, 9999), 2);
        due("third", x.move(0, -9999), 3);
        due("a fourth", x.move(0, 9999), TOO_MANY);
        due("third", x.waiting(0, 2), ZERO - 9999);
        due("no fourth", x.waiting(0, 3), NO_SUCH);
        x.pass(60);
        due("one is begun", x.of(0, WAITS), 2);
        due("a place is free", x.move(0, 0), 3);
        due("only one", x.move(0, 0), TOO_MANY);
    }

    // ---- the ramp

    private static void intervals() {
        sentence("The interval of a level is START less GAIN * level, but TOP at least.");
        RampShafts x = new RampShafts();
        Checks.settings(x, 60, 11, 7);
        int[] justAtTop = {60, 53, 46, 39, 32, 25, 18, 11, 11, 11};
        for (int level = 0; level < 10; level++) due("interval(" + level + ")", x.interval(level), justAtTop[level]);
        x.set(RampShafts.TOP, 12);
        due("one above TOP", x.interval(6), 18);
        due("one below TOP", x.interval(7), 12);
        x.set(RampShafts.TOP, 10);
        due("one above TOP", x.interval(7), 11);
        due("far below TOP", x.interval(8), 10);
        due("below 0", x.interval(99), 10);
        Checks.settings(x, 10, 50, 1);
        due("START below TOP", x.interval(0), 50);
        Checks.settings(x, 200, 2, 1);
        due("the last level", x.interval(99), 101);
        Checks.settings(x, 200, 2, 2);
        due("just at TOP", x.interval(99), 2);
        due("above TOP", x.interval(98), 4);
    }

    private static void highestIs(int start, int top, int gain, int want) {
        RampShafts x = bench(1);
        Checks.settings(x, start, top, gain);
        due("of " + start + ", " + top + ", " + gain, x.count(HIGHEST), want);
    }

    private static void highestLevels() {
        sentence("The highest level is the least one whose interval is TOP");
        highestIs(60, 10, 10, 5);
        highestIs(61, 10, 10, 6);
        highestIs(59, 10, 10, 5);
        highestIs(51, 10, 10, 5);
        highestIs(50, 10, 10, 4);
        highestIs(50, 10, 40, 1);
        highestIs(51, 10, 40, 2);
        highestIs(49, 10, 40, 1);
        highestIs(200, 2, 1, 198);
        highestIs(200, 2, 40, 5);
        highestIs(200, 40, 40, 4);
        highestIs(200, 39, 40, 5);
        sentence("(0 if START is TOP or less)");
        highestIs(30, 30, 10, 0);
        highestIs(29, 30, 10, 0);
        highestIs(31, 30, 10, 1);
        highestIs(31, 30, 1, 1);
        highestIs(32, 30, 1, 2);
        highestIs(10, 50, 1, 0);
        highestIs(10, 50, 40, 0);
        highestIs(50, 50, 40, 0);
        RampShafts x = bench(1);
        Checks.settings(x, 29, 30, 10);
        x.move(0, 9);
        due("the level 0 at first", x.of(0, NEXT), 30);
        for (int step = 1; step < 9; step++) {
            due("a step", x.pass(30), 1);
            due("the level", x.of(0, LEVEL), 0);
        }
    }

    private static void beginnings() {
        sentence("With 0 steps the move is over at once.");
        RampShafts x = bench(4, 1);
        for (int place = -3; place <= 3; place++) {
            due("move", x.move(0, place), 0);
            due("rests", x.of(0, MOVES), 0);
            due("next", x.of(0, NEXT), NONE);
            due("says", x.of(0, SAYS), ZERO);
        }
        due("rests in", x.restsIn(0), 0);
        due("one step", x.move(0, -4), 0);
        due("moves", x.of(0, MOVES), 1);
        x.plan(1, 1, 0);
        x.pass(1);
        due("a plan over at once", x.of(1, MOVES), 0);
        due("it does not wait", x.of(1, WAITS), 0);
        due("it is not planned any more", x.count(PLANS), 0);

        x = bench(1, 1);
        x.move(0, 0);
        x.move(1, 1);
        due("it makes no step where another one does", x.pass(60), 1);
        due("it makes no step where another one does", x.of(0, 9), 0);

        sentence("the next step comes at that time and the interval of the level 0, together");
        x = bench(1);
        x.pass(7);
        x.move(0, 3);
        due("next", x.of(0, NEXT), 60);
        due("not yet", x.pass(59), 0);
        due("then", x.pass(1), 1);
        due("time", x.count(TIME), 67);
        x = bench(1);
        Checks.settings(x, 10, 50, 40);
        x.plan(5, 0, 3);
        x.pass(5);
        due("next of a plan, TOP at least", x.of(0, NEXT), 50);
        due("not yet", x.pass(49), 0);
        due("then", x.pass(1), 1);
    }

    // ---- a step

    private static void grips() {
        sentence("If i is GRIP + PULL * load or more, the place where it is changes likewise; otherwise the step is lost.");
        int[][] due = {{60, 40, 20, 1, 0}, {59, 40, 20, 1, 1}, {61, 40, 20, 1, 0}, {200, 20, 20, 9, 0}, {200, 21, 20, 9, 1},
            {40, 40, 20, 0, 0}, {39, 40, 20, 0, 1}, {39, 39, 0, 9, 0}, {39, 40, 0, 9, 1}, {10, 0, 0, 9, 0}, {18, 0, 2, 9, 0},
            {17, 0, 2, 9, 1}};
        for (int[] row : due) {
            RampShafts x = bench(4);
            Checks.settings(x, row[0], 2, 1);
            Checks.grips(x, row[1], row[2]);
            x.load(0, row[3]);
            x.move(0, -4);
            String told = row[0] + " against " + row[1] + " + " + row[2] + " * " + row[3];
            due(told + ", to come", x.nextStep(0, 2), row[4]);
            due(told, x.pass(row[0]), 1);
            due(told + ", lost ones", x.of(0, 10), row[4]);
            due(told + ", lost ones", x.count(LOST), row[4]);
            due(told + ", stands", x.of(0, STANDS), row[4] == 1 ? ZERO : ZERO - 4);
            due(told + ", says", x.of(0, SAYS), ZERO - 4);
        }
    }

    private static void stepsOfARamp() {
        sentence("What the shaft says changes by its micro step.");
        int[] says = {-2, -4, -6, -8, -10, -12, -14, -16, -18};
        int[] stands = {-2, -4, -6, -6, -6, -6, -8, -10, -12};
        int[] lost = {0, 0, 0, 1, 2, 3, 3, 3, 3};
        RampShafts x = bench(2);
        x.set(RampShafts.GRIP, 31);
        x.move(0, -18);
        for (int step = 0; step < 9; step++) {
            due("a step", x.pass(x.of(0, NEXT)), 1);
            due("says behind step " + step, x.of(0, SAYS), ZERO + says[step]);
            due("stands behind step " + step, x.of(0, STANDS), ZERO + stands[step]);
            due("lost ones behind step " + step, x.of(0, 10), lost[step]);
            due("steps behind step " + step, x.of(0, 9), step + 1);
        }
        x.move(0, 2);
        x.pass(60);
        due("the other way, says", x.of(0, SAYS), ZERO - 16);
        due("the other way, stands", x.of(0, STANDS), ZERO - 10);
    }

    private static void settingsAsTheyAreNow() {
        sentence("the interval i is that of the level now, by the settings as they are now");
        RampShafts x = bench(1);
        x.set(RampShafts.GRIP, 40);
        x.move(0, 1);
        x.set(RampShafts.START, 39);
        due("as before", x.of(0, NEXT), 60);
        x.pass(60);
        due("lost by the interval of now", x.of(0, 10), 1);
        x = bench(1);
        x.move(0, 1);
        x.set(RampShafts.START, 10);
        x.set(RampShafts.GRIP, 10);
        x.pass(60);
        due("just enough now", x.of(0, 10), 0);
        x = bench(1);
        x.move(0, 1);
        x.pass(59);
        x.load(0, 9);
        Checks.grips(x, 7, 6);
        x.pass(1);
        due("lost by the load of now", x.of(0, 10), 1);
    }

    private static void movesThatWait() {
        sentence("With none left it rests, and begins the first move that waits, if there is one, at this time");
        RampShafts x = bench(1);
        x.move(0, 2);
        x.pass(60);
        due("one left", x.of(0, MOVES), 1);
        x.pass(50);
        due("none left, none waits", x.of(0, MOVES), 0);
        due("its level", x.of(0, LEVEL), 0);
        x.move(0, 3);
        x.move(0, -1);
        x.move(0, 5);
        due("a step", x.pass(60), 1);
        due("the first begins", x.of(0, LEFT), 4);
        due("its level", x.of(0, LEVEL), 0);
        due("at this time", x.of(0, NEXT), 60);
        due("one still waits", x.waiting(0, 0), ZERO + 5);

        sentence("(if that is over at once, the next one, and so on)");
        int[][] waits = {{1}, {1, 1}, {1, 1, 1}, {1, 4}, {1, 1, 4}, {4, 1, 1}, {1, 4, 1}};
        int[] left = {0, 0, 0, 3, 3, 3, 3};
        int[] still = {0, 0, 0, 0, 0, 2, 1};
        for (int run = 0; run < waits.length; run++) {
            x = bench(1);
            x.move(0, 1);
            for (int place : waits[run]) x.move(0, place);
            due("a step", x.pass(60), 1);
            due("steps left in run " + run, x.of(0, LEFT), left[run]);
            due("still wait in run " + run, x.of(0, WAITS), still[run]);
            due("next in run " + run, x.of(0, NEXT), left[run] > 0 ? 60 : NONE);
        }
    }

    private static void levels() {
        sentence("if the steps left are as many as the level, or fewer, the level is 1 less (0 at least)");
        levelsAre(new int[] {0});
        levelsAre(new int[] {0, 1});
        levelsAre(new int[] {0, 1, 0});
        levelsAre(new int[] {0, 1, 2, 1});
        levelsAre(new int[] {0, 1, 2, 1, 0});
        levelsAre(new int[] {0, 1, 2, 3, 2, 1});
        sentence("else, if the level is below the highest one, it is 1 more");
        levelsAre(new int[] {0, 1, 2, 3, 4, 3, 2, 1, 0});
        levelsAre(new int[] {0, 1, 2, 3, 4, 5, 4, 3, 2, 1});
        levelsAre(new int[] {0, 1, 2, 3, 4, 5, 4, 3, 2, 1, 0});
        sentence("else it is the highest one");
        levelsAre(new int[] {0, 1, 2, 3, 4, 5, 5, 4, 3, 2, 1, 0});
        levelsAre(new int[] {0, 1, 2, 3, 4, 5, 5, 5, 4, 3, 2, 1, 0});
    }

    /** The levels of a move's steps, by the settings at first. */
    private static void levelsAre(int[] want) {
        int[] intervals = {60, 50, 40, 30, 20, 10};
        RampShafts x = bench(2);
        x.move(0, -2 * want.length);
        for (int step = 0; step < want.length; step++) {
            String told = "step " + step + " of " + want.length;
            due("level of " + told, x.of(0, LEVEL), want[step]);
            due("steps left before " + told, x.of(0, LEFT), want.length - step);
            due("interval of " + told, x.of(0, NEXT), intervals[want[step]]);
            due("none before " + told, x.pass(intervals[want[step]] - 1), 0);
            due(told, x.pass(1), 1);
        }
        due("rests then", x.of(0, MOVES), 0);
    }

    private static void levelsByOtherSettings() {
        sentence("else, if the level is below the highest one, it is 1 more; else it is the highest one");
        RampShafts x = bench(1);
        x.move(0, 100);
        Checks.passed(x, 60 + 50 + 40 + 30);
        due("below the highest", x.of(0, LEVEL), 4);
        x.set(RampShafts.GAIN, 13);
        due("the highest is 4 now", x.count(HIGHEST), 4);
        x.pass(20);
        due("at the highest", x.of(0, LEVEL), 4);
        x.set(RampShafts.GAIN, 40);
        due("the highest is 2 now", x.count(HIGHEST), 2);
        due("its level is not changed by that", x.of(0, LEVEL), 4);
        due("nor its next step", x.of(0, NEXT), 10);
        x.pass(10);
        due("above the highest", x.of(0, LEVEL), 2);
        x.set(RampShafts.TOP, 50);
        x.set(RampShafts.START, 50);
        x.pass(10);
        due("the highest is 0", x.of(0, LEVEL), 0);
        due("its interval", x.of(0, NEXT), 50);
        Checks.settings(x, 60, 10, 10);
        x.pass(50);
        due("1 more only", x.of(0, LEVEL), 1);

        sentence("if the steps left are as many as the level, or fewer, the level is 1 less");
        x = bench(1);
        x.move(0, 7);
        Checks.passed(x, 60 + 50 + 40);
        due("level", x.of(0, LEVEL), 3);
        due("left", x.of(0, LEFT), 4);
        Checks.settings(x, 50, 50, 40);
        due("the highest is 0 now", x.count(HIGHEST), 0);
        x.pass(30);
        due("1 less, though it is above the highest one", x.of(0, LEVEL), 2);

        sentence("The next step comes the interval of that level later.");
        x = bench(1);
        x.move(0, 9);
        x.set(RampShafts.START, 45);
        x.pass(60);
        due("by the settings of now", x.of(0, NEXT), 35);
        x.set(RampShafts.START, 12);
        x.pass(35);
        due("TOP at least", x.of(0, NEXT), 10);
    }

    // ---- time

    private static void ticks() {
        sentence("In a tick the time is 1 more (0 at first).");
        RampShafts x = new RampShafts();
        due("at first", x.count(TIME), 0);
        x.pass(1);
        due("after a tick", x.count(TIME), 1);
        x.pass(999);
        due("after 1000 ticks", x.count(TIME), 1000);

        sentence("Then the moves that are planned for this time come");
        for (int in : new int[] {1, 2, 59, 60, 61, 999}) {
            x = bench(1);
            x.move(0, 1);
            x.plan(in, 0, 5);
            if (in > 1) x.pass(in - 1);
            due("not yet", x.count(PLANS), 1);
            due("not yet", x.of(0, WAITS), 0);
            x.pass(1);
            due("then", x.count(PLANS), 0);
            due("it waits, if the shaft moves", x.of(0, WAITS), in < 60 ? 1 : 0);
            due("left", x.of(0, LEFT), in < 60 ? 1 : 4);
            due("next", x.of(0, NEXT), in < 60 ? 60 - in : 60);
        }
    }

    private static void plansOfOneTime() {
        sentence("in the order in which they were planned: each begins, if its shaft rests, otherwise it waits");
        RampShafts x = bench(1, 1);
        x.plan(20, 0, 7);
        x.plan(20, 1, -1);
        x.plan(20, 0, 3);
        x.plan(19, 1, 8);
        x.plan(20, 1, 6);
        x.pass(19);
        due("only the earlier one", x.count(PLANS), 4);
        due("it begins", x.of(1, LEFT), 8);
        x.pass(1);
        due("all of them", x.count(PLANS), 0);
        due("the first begins", x.of(0, LEFT), 7);
        due("the second waits", x.waiting(0, 0), ZERO + 3);
        due("the first of the other waits", x.waiting(1, 0), ZERO - 1);
        due("the second of the other waits", x.waiting(1, 1), ZERO + 6);
        x = bench(1);
        x.plan(20, 0, 0);
        x.plan(20, 0, 2);
        x.plan(20, 0, 5);
        x.pass(20);
        due("one is over at once, the next begins", x.of(0, LEFT), 2);
        due("the third waits", x.of(0, WAITS), 1);
        // planned at different times for one time
        x = bench(1);
        x.plan(20, 0, 7);
        x.pass(5);
        x.plan(15, 0, 3);
        x.pass(15);
        due("the one planned earlier begins", x.of(0, LEFT), 7);
    }

    private static void plansWithNoPlace() {
        sentence("(if 3 wait there, it is gone)");
        for (int waits = 1; waits <= 3; waits++) {
            RampShafts x = bench(1);
            x.move(0, 40);
            for (int place = 1; place <= waits; place++) x.move(0, place);
            x.plan(5, 0, 9);
            x.pass(5);
            due("wait then", x.of(0, WAITS), Math.min(waits + 1, 3));
            due("the last of them", x.waiting(0, Math.min(waits, 2)), ZERO + (waits < 3 ? 9 : 3));
            due("none is planned", x.count(PLANS), 0);
        }

        RampShafts x = bench(1, 1);
        for (int planned = 1; planned <= 12; planned++) x.plan(9999, 0, planned);
        Checks.passed(x, 9998);
        due("12 of one time", x.count(PLANS), 12);
        x.pass(1);
        due("all of them come in one tick", x.count(PLANS), 0);
        due("the first begins", x.of(0, LEFT), 1);
        due("three wait", x.waiting(0, 2), ZERO + 4);
        x = bench(1, 1);
        x.move(0, 1);
        for (int place = 2; place <= 4; place++) x.move(0, place);
        for (int planned = 1; planned <= 11; planned++) x.plan(60, 1, planned);
        x.plan(60, 0, 9);
        x.pass(60);
        due("also the last one of 12 came before the step", x.of(0, WAITS), 2);

        sentence("Then the shafts whose next step is at this time make it");
        x = bench(1);
        x.move(0, 1);
        for (int place = 2; place <= 4; place++) x.move(0, place);
        x.plan(60, 0, 9);
        x.pass(60);
        due("it came before the place was free", x.of(0, WAITS), 2);
        due("so it is gone", x.waiting(0, 1), ZERO + 4);
        x = bench(1);
        x.move(0, 1);
        x.plan(60, 0, 3);
        due("a step", x.pass(60), 1);
        due("it waited for this step, and began", x.of(0, LEFT), 2);
        due("at this time", x.of(0, NEXT), 60);
        x = bench(1);
        x.move(0, 1);
        x.plan(60, 0, 0);
        x.pass(60);
        due("begun from 1, not from 0", x.of(0, LEFT), 1);
        due("begun from 1, not from 0", x.of(0, BEHIND), ZERO);
    }

    private static void stepsOfOneTime() {
        sentence("by numbers");
        RampShafts x = bench(1, 1, 1, 1);
        for (int shaft = 3; shaft >= 0; shaft--) x.move(shaft, 2);
        for (int rank = 0; rank < 8; rank++) {
            due("step " + rank, x.nextStep(rank, 1), rank % 4);
            due("step " + rank, x.nextStep(rank, 0), rank < 4 ? 60 : 110);
        }
        due("none before", x.pass(59), 0);
        due("all in one tick", x.pass(1), 4);
        due("none before", x.pass(49), 0);
        due("all in one tick", x.pass(1), 4);
    }

    // ---- texts

    private static void padLength() {
        sentence("The pad is a text of at most 80 characters");
        RampShafts x = new RampShafts();
        String full = "n1" + ";h0".repeat(26);
        Checks.write(x, full);
        due("full", x.count(PAD), 80);
        due("one more", x.put(';'), TOO_MANY);
        due("a full pad is read to its end", x.fault(), NONE);
        due("and carried out to its end", x.carryOut(), 27);
        due("then it is empty", x.count(PAD), 0);
        due("one change", x.count(UNDOABLE), 1);
        due("the fault of its last character", Checks.faultOf(full.substring(0, 79) + "x"), 79);
        due("the fault behind its last character", Checks.faultOf(full.substring(0, 77) + ";m1"), 80);
    }

    private static final String DIGITS = "0123456789", ORDERS = "nmpslht", END = ";";

    /** What may stand behind the beginning of a text, and whether the text may end there. */
    private static final String[][] GRAMMAR = {
        {"", ORDERS, ""}, {"n1;", ORDERS, ""}, {"t1;h2;", ORDERS, ""},
        {"n", DIGITS, ""}, {"n0", END, "ends"}, {"n9", END, "ends"},
        {"m", DIGITS, ""}, {"m0", "@", ""}, {"m9", "@", ""},
        {"m1@", "-" + DIGITS, ""}, {"m1@-", DIGITS, ""}, {"m1@0", END, "ends"}, {"m1@-0", END, "ends"},
        {"m1@9", DIGITS + END, "ends"}, {"m1@10", DIGITS + END, "ends"}, {"m1@999", DIGITS + END, "ends"},
        {"m1@1000", END, "ends"}, {"m1@9999", END, "ends"},
        {"m1@-9", DIGITS + END, "ends"}, {"m1@-100", DIGITS + END, "ends"}, {"m1@-9999", END, "ends"},
        {"p", DIGITS, ""}, {"p0", ":", ""}, {"p9", DIGITS + ":", ""}, {"p100", DIGITS + ":", ""}, {"p9999", ":", ""},
        {"p1:", DIGITS, ""}, {"p1:0", "@", ""}, {"p1:9", "@", ""}, {"p1:1@", "-" + DIGITS, ""}, {"p1:1@-", DIGITS, ""},
        {"p1:1@0", END, "ends"}, {"p1:1@7", DIGITS + END, "ends"}, {"p1:1@9999", END, "ends"}, {"p1:1@-9999", END, "ends"},
        {"s", DIGITS, ""}, {"s0", END, "ends"}, {"s9", END, "ends"},
        {"l", DIGITS, ""}, {"l0", "=", ""}, {"l9", "=", ""}, {"l1=", DIGITS, ""}, {"l1=0", END, "ends"}, {"l1=9", END, "ends"},
        {"h", DIGITS, ""}, {"h0", END, "ends"}, {"h9", END, "ends"},
        {"t", DIGITS, ""}, {"t0", END, "ends"}, {"t1", DIGITS + END, "ends"}, {"t10", DIGITS + END, "ends"},
        {"t100", DIGITS + END, "ends"}, {"t1000", END, "ends"}, {"t9999", END, "ends"},
        {"n1;m2@-30;p40:3@5;s1;l0=2;h3;t600;n4", END, "ends"},
    };

    private static void grammar() {
        for (String[] row : GRAMMAR) {
            String begun = row[0];
            sentence("if there is none and the text ends too early (also if it is empty), it is the length of the text");
            due("fault of \"" + begun + "\"", Checks.faultOf(begun), row[2].isEmpty() ? begun.length() : NONE);
            sentence("The fault is the index of the first character that cannot stand at its place");
            for (char sign = 33; sign <= 126; sign++) {
                int fault = Checks.faultOf(begun + sign);
                if (row[1].indexOf(sign) < 0) due("fault of \"" + begun + sign + "\"", fault, begun.length());
                else if (fault == begun.length()) Checks.fail("\"" + begun + sign + "\" has its fault at its end");
            }
        }
    }

    private static void numbers() {
        sentence("a number 0 to 9999, without leading zeros");
        String[] good = {"0", "1", "9", "10", "99", "100", "999", "1000", "9999"};
        for (String number : good) {
            due("t" + number, Checks.faultOf("t" + number), NONE);
            due("m1@" + number, Checks.faultOf("m1@" + number), NONE);
            due("m1@-" + number, Checks.faultOf("m1@-" + number), NONE);
            due("p" + number + ":0@0", Checks.faultOf("p" + number + ":0@0"), NONE);
        }
        for (String number : new String[] {"00", "01", "09", "000", "0999", "00000"}) {
            due("t" + number, Checks.faultOf("t" + number), 2);
            due("m1@" + number, Checks.faultOf("m1@" + number), 4);
            due("m1@-" + number, Checks.faultOf("m1@-" + number), 5);
            due("p" + number + ":0@0", Checks.faultOf("p" + number + ":0@0"), 2);
        }
        sentence("(also of a digit by which a number would be above 9999)");
        for (String number : new String[] {"10000", "99990", "12345", "99999", "100000", "999999999999"}) {
            due("t" + number, Checks.faultOf("t" + number), 5);
            due("m1@" + number, Checks.faultOf("m1@" + number), 7);
            due("m1@-" + number, Checks.faultOf("m1@-" + number), 8);
            due("p" + number + ":0@0", Checks.faultOf("p" + number + ":0@0"), 5);
        }
    }

    private static void firstFault() {
        sentence("when the text is read from left to right");
        due("two faults", Checks.faultOf("n1;x;m0;t01"), 3);
        due("two faults", Checks.faultOf("t01;"), 2);
        due("an order with an error is no fault", Checks.faultOf("n3;m9@0;p0:9@0;s9;l9=0;h9;t0;t9999"), NONE);
        due("only a ;", Checks.faultOf(";"), 0);
        due("an empty order", Checks.faultOf("n1;;n1"), 3);
        due("a last ;", Checks.faultOf("n1;"), 3);
        due("empty", Checks.faultOf(""), 0);
    }

    public static void main(String[] args) {
        calls();
        noneOnlyWithoutErrors();
        numbering();
        divisions();
        places();
        sets();
        settings();
        shafts();
        loadsAndPlaces();
        intervals();
        highestLevels();
        beginnings();
        grips();
        stepsOfARamp();
        settingsAsTheyAreNow();
        movesThatWait();
        levels();
        levelsByOtherSettings();
        ticks();
        plansOfOneTime();
        plansWithNoPlace();
        stepsOfOneTime();
        padLength();
        grammar();
        numbers();
        firstFault();
        Checks.end();
    }
}
