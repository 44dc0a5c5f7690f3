import java.util.ArrayList;
import java.util.List;

/**
 * Each call that is refused, with the error that applies first, and that it changes nothing, as no question does: an object
 * with the call and one without it answer alike afterwards, whatever is done next.
 */
public final class RefusalTests {
    private static final int NO_SUCH = Checks.NO_SUCH, BAD_VALUE = Checks.BAD_VALUE, BAD_TEXT = Checks.BAD_TEXT;
    private static final int TOO_MANY = Checks.TOO_MANY, NOT_POSSIBLE = Checks.NOT_POSSIBLE;
    private static final int MIN = Integer.MIN_VALUE, MAX = Integer.MAX_VALUE;

    private interface Call {
        int on(RampShafts x);
    }

    private record Named(String name, Call call) { }

    // ---- the benches on which calls are refused

    private static final Named NEW = new Named("a new bench", x -> 0);

    /** Two shafts, one that moves and one that rests; all kinds of states to lose. */
    private static final Named BUSY = new Named("a busy bench", x -> {
        x.shaft(2);
        x.save(0);
        x.shaft(4);
        x.set(RampShafts.GRIP, 40);
        x.load(1, 7);
        x.move(1, -9);
        x.pass(110);
        x.plan(400, 0, 8);
        x.plan(700, 1, -80);
        x.move(0, 50);
        x.move(0, -6);
        x.pass(110);
        Checks.write(x, "n1;l0=3;t70");
        return 0;
    });

    /** Four shafts, three moves that wait, twelve that are planned, a pad of 80 characters, and both slots in use. */
    private static final Named FULL = new Named("a full bench", x -> {
        x.shaft(1);
        x.shaft(2);
        x.save(1);
        x.shaft(4);
        x.shaft(1);
        x.load(2, 9);
        for (int place = 30; place < 34; place++) x.move(3, place);
        for (int plan = 0; plan < 12; plan++) x.plan(100 + plan % 5, plan % 4, -20 + plan);
        x.save(0);
        x.pass(61);
        Checks.write(x, "t2" + ";h0".repeat(26));
        return 0;
    });

    /** The time is the last one, 99999. */
    private static final Named LATE = new Named("a late bench", x -> {
        for (int hours = 0; hours < 100; hours++) x.pass(999);
        x.pass(99);
        x.shaft(1);
        x.move(0, 3);
        x.plan(2, 0, 4);
        x.save(1);
        Checks.write(x, "t1");
        return 0;
    });

    /** A text that ends too early. */
    private static final Named FAULTY = new Named("a bench with a fault", x -> {
        x.shaft(1);
        x.move(0, 3);
        Checks.write(x, "s0;n1;");
        return 0;
    });

    // ---- what is done after the refused call, to see that nothing was changed

    private static final List<Named> PROBES = probes();

    private static List<Named> probes() {
        List<Named> probes = new ArrayList<>();
        probes.add(new Named("nothing", x -> 0));
        probes.add(new Named("pass", x -> x.pass(500)));
        probes.add(new Named("carryOut", x -> x.carryOut()));
        probes.add(new Named("restore(0)", x -> x.restore(0)));
        probes.add(new Named("restore(1)", x -> x.restore(1)));
        for (int times = 1; times <= 7; times++) {
            int undone = times;
            probes.add(new Named("undo " + times + " times", x -> {
                for (int time = 1; time < undone; time++) x.undo();
                return x.undo();
            }));
        }
        return probes;
    }

    /** Everything that can be asked; less than 250 calls. */
    private static List<Integer> allAnswers(RampShafts x) {
        List<Integer> all = new ArrayList<>();
        for (int what = 0; what <= 14; what++) all.add(x.count(what));
        for (int shaft = 0; shaft < 4; shaft++) {
            for (int what = 0; what <= 11; what++) all.add(x.of(shaft, what));
            for (int rank = 0; rank < 3; rank++) all.add(x.waiting(shaft, rank));
            all.add(x.restsIn(shaft));
            all.add(x.stopsAt(shaft));
            all.add(x.bears(shaft));
        }
        for (int rank = 0; rank < 12; rank++) {
            for (int what = 0; what <= 2; what++) all.add(x.planned(rank, what));
        }
        for (int rank = 0; rank < 5; rank++) {
            for (int what = 0; what <= 2; what++) all.add(x.nextStep(rank, what));
        }
        all.add(x.fault());
        return all;
    }

    private static void refused(Named bench, String call, int error, Call refused) {
        RampShafts x = new RampShafts();
        bench.call().on(x);
        int answer = refused.on(x);
        if (answer != error) Checks.fail(bench.name() + ": " + call + " answered " + answer + ", due is " + error);
        changesNothing(bench, call, refused);
    }

    private static void changesNothing(Named bench, String told, Call call) {
        for (Named probe : PROBES) {
            RampShafts with = new RampShafts();
            RampShafts without = new RampShafts();
            bench.call().on(with);
            bench.call().on(without);
            call.on(with);
            int done = probe.call().on(with);
            if (done != probe.call().on(without) || !allAnswers(with).equals(allAnswers(without))) {
                Checks.fail(bench.name() + ": " + told + " changed something; seen by: " + probe.name());
                return;
            }
        }
    }

    /** The benches have to be as their names say, or nothing would be seen on them. */
    private static void benchesAreAsTold() {
        int[][] due = {{0, 0, 0, 0, 0}, {220, 2, 2, 11, 6}, {61, 4, 12, 80, 6}, {99999, 1, 1, 2, 6}, {0, 1, 0, 6, 2}};
        Named[] benches = {NEW, BUSY, FULL, LATE, FAULTY};
        int[] asked = {0, 1, 4, 13, 14};
        for (int bench = 0; bench < benches.length; bench++) {
            RampShafts x = new RampShafts();
            benches[bench].call().on(x);
            for (int i = 0; i < asked.length; i++) {
                int got = x.count(asked[i]);
                int want = due[bench][i];
                if (got != want) Checks.fail(benches[bench].name() + ": count(" + asked[i] + ") is " + got + ", not " + want);
            }
        }
        RampShafts x = new RampShafts();
        FULL.call().on(x);
        if (x.of(3, 8) != 3) Checks.fail("a full bench: three moves wait");
        if (x.fault() != RampShafts.NONE) Checks.fail("a full bench: its text has no fault");
    }

    // ---- the refused calls, by the promises

    private static void settings() {
        int[] least = {10, 2, 1, 0, 0}, most = {200, 50, 40, 40, 20};
        for (int setting : new int[] {-1, 5, 8, MIN, MAX}) {
            refused(BUSY, "set(" + setting + ", 20)", BAD_VALUE, x -> x.set(setting, 20));
        }
        for (int setting = 0; setting < 5; setting++) {
            for (int value : new int[] {least[setting] - 1, most[setting] + 1, MIN, MAX}) {
                int number = setting;
                refused(BUSY, "set(" + setting + ", " + value + ")", BAD_VALUE, x -> x.set(number, value));
            }
        }
    }

    private static void shafts() {
        for (int micro : new int[] {0, 3, 5, 6, 8, -1, -2, -4, MIN, MAX}) {
            refused(BUSY, "shaft(" + micro + ")", BAD_VALUE, x -> x.shaft(micro));
            refused(FULL, "shaft(" + micro + "), the value first", BAD_VALUE, x -> x.shaft(micro));
        }
        for (int micro : new int[] {1, 2, 4}) refused(FULL, "shaft(" + micro + ")", TOO_MANY, x -> x.shaft(micro));
    }

    /** A call with the number of a shaft that is not there; whatever else is wrong, this is told first. */
    private static void noShaft(String call, java.util.function.BiFunction<RampShafts, Integer, Integer> refused) {
        for (int shaft : new int[] {-1, 2, 3, 4, MIN, MAX}) {
            refused(BUSY, call + " of the shaft " + shaft, NO_SUCH, x -> refused.apply(x, shaft));
        }
        for (int shaft : new int[] {-1, 4}) {
            refused(FULL, call + " of the shaft " + shaft, NO_SUCH, x -> refused.apply(x, shaft));
        }
        refused(NEW, call + " of the shaft 0", NO_SUCH, x -> refused.apply(x, 0));
    }

    private static void loads() {
        noShaft("load 0", (x, shaft) -> x.load(shaft, 0));
        noShaft("load 10", (x, shaft) -> x.load(shaft, 10));
        noShaft("load -1", (x, shaft) -> x.load(shaft, -1));
        for (int load : new int[] {-1, 10, MIN, MAX}) {
            refused(BUSY, "load(1, " + load + ")", BAD_VALUE, x -> x.load(1, load));
        }
    }

    private static void moves() {
        noShaft("move to 0", (x, shaft) -> x.move(shaft, 0));
        noShaft("move to 10000", (x, shaft) -> x.move(shaft, 10000));
        for (int place : new int[] {-10000, 10000, MIN, MAX}) {
            refused(BUSY, "move(0, " + place + "), it moves", BAD_VALUE, x -> x.move(0, place));
            refused(BUSY, "move(1, " + place + "), it rests", BAD_VALUE, x -> x.move(1, place));
            refused(FULL, "move(3, " + place + "), the value first", BAD_VALUE, x -> x.move(3, place));
        }
        for (int place : new int[] {-9999, 0, 31, 9999}) {
            refused(FULL, "move(3, " + place + ")", TOO_MANY, x -> x.move(3, place));
        }
    }

    private static void plans() {
        noShaft("plan in 1 to 0", (x, shaft) -> x.plan(1, shaft, 0));
        noShaft("plan in 0 to 0", (x, shaft) -> x.plan(0, shaft, 0));
        noShaft("plan in 1 to 10000", (x, shaft) -> x.plan(1, shaft, 10000));
        for (int in : new int[] {0, -1, 10000, MIN, MAX}) {
            refused(BUSY, "plan(" + in + ", 0, 0)", BAD_VALUE, x -> x.plan(in, 0, 0));
            refused(FULL, "plan(" + in + ", 0, 0), the value first", BAD_VALUE, x -> x.plan(in, 0, 0));
        }
        for (int place : new int[] {-10000, 10000, MIN, MAX}) {
            refused(BUSY, "plan(1, 0, " + place + ")", BAD_VALUE, x -> x.plan(1, 0, place));
            refused(FULL, "plan(1, 0, " + place + "), the value first", BAD_VALUE, x -> x.plan(1, 0, place));
        }
        for (int in : new int[] {1, 40, 9999}) {
            refused(FULL, "plan(" + in + ", 0, 0)", TOO_MANY, x -> x.plan(in, 0, 0));
        }
        noShaft("plan, and 12 are planned", (x, shaft) -> x.plan(1, shaft, 0));
    }

    private static void stopsAndHomes() {
        noShaft("stop", (x, shaft) -> x.stop(shaft));
        refused(BUSY, "stop of a shaft that rests", NOT_POSSIBLE, x -> x.stop(1));
        noShaft("home", (x, shaft) -> x.home(shaft));
        refused(BUSY, "home of a shaft that moves", NOT_POSSIBLE, x -> x.home(0));
        refused(FULL, "home of a shaft that moves", NOT_POSSIBLE, x -> x.home(3));
    }

    private static void passing() {
        for (int ticks : new int[] {0, -1, 1000, MIN, MAX}) {
            refused(BUSY, "pass(" + ticks + ")", BAD_VALUE, x -> x.pass(ticks));
            refused(LATE, "pass(" + ticks + "), the value first", BAD_VALUE, x -> x.pass(ticks));
        }
        for (int ticks : new int[] {1, 2, 999}) {
            refused(LATE, "pass(" + ticks + ")", NOT_POSSIBLE, x -> x.pass(ticks));
        }
    }

    private static void asks() {
        noShaft("of 0", (x, shaft) -> x.of(shaft, 0));
        noShaft("of 12", (x, shaft) -> x.of(shaft, 12));
        for (int what : new int[] {-1, 12, MIN, MAX}) {
            refused(BUSY, "of(0, " + what + ")", BAD_VALUE, x -> x.of(0, what));
            refused(BUSY, "of(1, " + what + ")", BAD_VALUE, x -> x.of(1, what));
        }
        noShaft("waiting 0", (x, shaft) -> x.waiting(shaft, 0));
        for (int rank : new int[] {-1, 1, 2, 3, MIN, MAX}) {
            refused(BUSY, "waiting(0, " + rank + ")", NO_SUCH, x -> x.waiting(0, rank));
        }
        refused(BUSY, "waiting(1, 0), none waits", NO_SUCH, x -> x.waiting(1, 0));
        for (int rank : new int[] {-1, 3, MIN, MAX}) {
            refused(FULL, "waiting(3, " + rank + ")", NO_SUCH, x -> x.waiting(3, rank));
        }
        for (int what : new int[] {-1, 15, MIN, MAX}) {
            refused(BUSY, "count(" + what + ")", BAD_VALUE, x -> x.count(what));
        }
        for (int level : new int[] {-1, 100, MIN, MAX}) {
            refused(BUSY, "interval(" + level + ")", BAD_VALUE, x -> x.interval(level));
        }
    }

    private static void asksOfPlans() {
        for (int what : new int[] {-1, 0, 2, 3}) {
            refused(NEW, "planned(0, " + what + ")", NO_SUCH, x -> x.planned(0, what));
            for (int rank : new int[] {-1, 2, 3, MIN, MAX}) {
                refused(BUSY, "planned(" + rank + ", " + what + ")", NO_SUCH, x -> x.planned(rank, what));
            }
            for (int rank : new int[] {-1, 12, 13}) {
                refused(FULL, "planned(" + rank + ", " + what + ")", NO_SUCH, x -> x.planned(rank, what));
            }
        }
        for (int what : new int[] {-1, 3, MIN, MAX}) {
            refused(BUSY, "planned(1, " + what + ")", BAD_VALUE, x -> x.planned(1, what));
            refused(FULL, "planned(11, " + what + ")", BAD_VALUE, x -> x.planned(11, what));
        }
    }

    private static void whatIfs() {
        noShaft("restsIn", (x, shaft) -> x.restsIn(shaft));
        noShaft("stopsAt", (x, shaft) -> x.stopsAt(shaft));
        noShaft("bears", (x, shaft) -> x.bears(shaft));
        for (Named bench : new Named[] {NEW, BUSY}) {
            for (int rank : new int[] {-1, 100, MIN, MAX}) {
                refused(bench, "nextStep(" + rank + ", 0)", BAD_VALUE, x -> x.nextStep(rank, 0));
            }
            for (int what : new int[] {-1, 3, MIN, MAX}) {
                refused(bench, "nextStep(0, " + what + ")", BAD_VALUE, x -> x.nextStep(0, what));
                refused(bench, "nextStep(99, " + what + ")", BAD_VALUE, x -> x.nextStep(99, what));
            }
        }
        for (int steps : new int[] {0, -1, 1000, MIN, MAX}) {
            refused(BUSY, "moveOf(" + steps + ", 0)", BAD_VALUE, x -> x.moveOf(steps, 0));
            refused(BUSY, "moveOf(" + steps + ", 1)", BAD_VALUE, x -> x.moveOf(steps, 1));
            refused(BUSY, "bestGain(" + steps + ", 0)", BAD_VALUE, x -> x.bestGain(steps, 0));
        }
        for (int what : new int[] {-1, 2, MIN, MAX}) {
            refused(BUSY, "moveOf(1, " + what + ")", BAD_VALUE, x -> x.moveOf(1, what));
        }
        for (int load : new int[] {-1, 10, MIN, MAX}) {
            refused(BUSY, "bestGain(999, " + load + ")", BAD_VALUE, x -> x.bestGain(999, load));
        }
    }

    private static void texts() {
        // each with one thing that is wrong, at the first and at the last of the 8 characters
        long[] bad = {0, 32, 127, 255, 0x20L << 8 | '1', 0x7fL << 8 | '1', (long) '1' << 8 | 32, (long) '1' << 8 | 127,
            (long) '1' << 8, (long) '1' << 16 | '1', 1L << 8 | '1', 1L << 16 | '1', 1L << 63 | '1', 1L << 63, -1,
            0x2031313131313131L, 0x7f31313131313131L, 0x0131313131313131L, 0x3131313131313120L, 0x313131313131317fL,
            0x3131313131313100L, 0x3100313131313131L, 0x3131313100313131L, 0x0100313131313131L, 0x8000000000313131L};
        for (long characters : bad) {
            refused(BUSY, "put(" + characters + ")", BAD_VALUE, x -> x.put(characters));
            refused(FULL, "put(" + characters + "), the value first", BAD_VALUE, x -> x.put(characters));
        }
        refused(FULL, "put of 1 character", TOO_MANY, x -> x.put('1'));
        refused(FULL, "put of 8 characters", TOO_MANY, x -> x.put(Checks.packed("n1;n1;n1")));
        refused(NEW, "carryOut of an empty pad", BAD_TEXT, x -> x.carryOut());
        refused(FAULTY, "carryOut of a text that ends too early", BAD_TEXT, x -> x.carryOut());
        refused(new Named("a bench with a character that cannot stand", x -> {
            BUSY.call().on(x);
            Checks.write(x, "0:");
            return 0;
        }), "carryOut", BAD_TEXT, x -> x.carryOut());
    }

    private static void statesThatAreKept() {
        refused(NEW, "undo", NOT_POSSIBLE, x -> x.undo());
        refused(new Named("a bench with all changes undone", x -> {
            BUSY.call().on(x);
            for (int times = 0; times < 6; times++) x.undo();
            return 0;
        }), "undo", NOT_POSSIBLE, x -> x.undo());
        for (int slot : new int[] {-1, 2, MIN, MAX}) {
            refused(BUSY, "save(" + slot + ")", BAD_VALUE, x -> x.save(slot));
            refused(BUSY, "restore(" + slot + ")", BAD_VALUE, x -> x.restore(slot));
            refused(NEW, "restore(" + slot + "), the value first", BAD_VALUE, x -> x.restore(slot));
        }
        refused(NEW, "restore(0)", NOT_POSSIBLE, x -> x.restore(0));
        refused(BUSY, "restore(1), only the slot 0 has something", NOT_POSSIBLE, x -> x.restore(1));
        refused(LATE, "restore(0), only the slot 1 has something", NOT_POSSIBLE, x -> x.restore(0));
    }

    private static void questions() {
        for (Named bench : new Named[] {NEW, BUSY, FULL, LATE, FAULTY}) {
            changesNothing(bench, "fault()", x -> x.fault());
            for (int asked = 0; asked < 4; asked++) {
                int shaft = asked;
                changesNothing(bench, "restsIn(" + shaft + ")", x -> x.restsIn(shaft));
                changesNothing(bench, "stopsAt(" + shaft + ")", x -> x.stopsAt(shaft));
                changesNothing(bench, "bears(" + shaft + ")", x -> x.bears(shaft));
                changesNothing(bench, "of(" + shaft + ", 11)", x -> x.of(shaft, 11));
                changesNothing(bench, "waiting(" + shaft + ", 0)", x -> x.waiting(shaft, 0));
            }
            for (int rank : new int[] {0, 3, 99}) {
                changesNothing(bench, "nextStep(" + rank + ", 2)", x -> x.nextStep(rank, 2));
                changesNothing(bench, "planned(" + rank + ", 2)", x -> x.planned(rank, 2));
            }
            for (int steps : new int[] {1, 999}) {
                changesNothing(bench, "moveOf(" + steps + ", 0)", x -> x.moveOf(steps, 0));
                changesNothing(bench, "moveOf(" + steps + ", 1)", x -> x.moveOf(steps, 1));
                changesNothing(bench, "bestGain(" + steps + ", 9)", x -> x.bestGain(steps, 9));
            }
            changesNothing(bench, "interval(99)", x -> x.interval(99));
            changesNothing(bench, "count(14)", x -> x.count(14));
        }
    }

    public static void main(String[] args) {
        Checks.sentence("A call that returns an error changes nothing.");
        benchesAreAsTold();
        settings();
        shafts();
        loads();
        moves();
        plans();
        stopsAndHomes();
        passing();
        asks();
        asksOfPlans();
        whatIfs();
        texts();
        statesThatAreKept();
        Checks.sentence("what if; nothing changes");
        questions();
        Checks.end();
    }
}
