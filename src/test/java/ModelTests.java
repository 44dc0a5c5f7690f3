import java.util.ArrayList;
import java.util.List;
import java.util.Random;
import java.util.regex.Matcher;
import java.util.regex.Pattern;

/**
 * Runs of as many calls as an object is promised for, each answered by RampShafts and by a plain second program that goes
 * tick by tick.
 */
public final class ModelTests {
    private static final int RUNS = 8000, MOST_CALLS = 512;
    /** What sameState asks, and what the longest change asks. */
    private static final int STATE_CALLS = 214, CHANGE_CALLS = 16;

    private static final class Axis implements Cloneable {
        int micro, load, way, left, level, countdown, made, lost;
        long says, stands;
        List<Integer> queue = new ArrayList<>();

        Axis copy() {
            try {
                Axis copy = (Axis) clone();
                copy.queue = new ArrayList<>(queue);
                return copy;
            } catch (CloneNotSupportedException e) {
                throw new IllegalStateException(e);
            }
        }
    }

    private record Plan(int time, int axis, int place) { }

    private static final class World {
        int time;
        int[] settings = {60, 10, 10, 4, 2};
        List<Axis> axes = new ArrayList<>();
        List<Plan> plans = new ArrayList<>();

        World copy() {
            World copy = new World();
            copy.time = time;
            copy.settings = settings.clone();
            for (Axis axis : axes) copy.axes.add(axis.copy());
            copy.plans = new ArrayList<>(plans);
            return copy;
        }

        int interval(int level) {
            int wanted = settings[0] - settings[2] * level;
            return wanted < settings[1] ? settings[1] : wanted;
        }

        int highest() {
            int level = 0;
            while (interval(level) != settings[1]) level++;
            return level;
        }

        boolean isLost(int level, int load) {
            return interval(level) < settings[3] + settings[4] * load;
        }

        int next(int level, int left) {
            if (left <= level) return level > 0 ? level - 1 : 0;
            if (level < highest()) return level + 1;
            return highest();
        }

        void start(Axis axis, int place) {
            axis.left = (int) (Math.abs(place - axis.says) / axis.micro);
            axis.way = place > axis.says ? 1 : -1;
            axis.level = 0;
            axis.countdown = interval(0);
        }

        /** One tick; answers {shaft, lost} of each step that is made in it. */
        List<int[]> tick() {
            time++;
            for (Axis axis : axes) if (axis.left > 0) axis.countdown--;
            for (Plan plan : new ArrayList<>(plans)) {
                if (plan.time() != time) continue;
                plans.remove(plan);
                Axis axis = axes.get(plan.axis());
                if (axis.left == 0) start(axis, plan.place());
                else if (axis.queue.size() < 3) axis.queue.add(plan.place());
            }
            List<int[]> steps = new ArrayList<>();
            for (int i = 0; i < axes.size(); i++) {
                Axis axis = axes.get(i);
                if (axis.left > 0 && axis.countdown == 0) steps.add(new int[] {i, step(axis)});
            }
            return steps;
        }

        int step(Axis axis) {
            boolean lost = isLost(axis.level, axis.load);
            axis.says += (long) axis.way * axis.micro;
            axis.made++;
            if (lost) axis.lost++;
            else axis.stands += (long) axis.way * axis.micro;
            axis.left--;
            if (axis.left == 0) {
                axis.level = 0;
                while (axis.left == 0 && !axis.queue.isEmpty()) start(axis, axis.queue.remove(0));
            } else {
                axis.level = next(axis.level, axis.left);
                axis.countdown = interval(axis.level);
            }
            return lost ? 1 : 0;
        }

        boolean isOver(int axis) {
            for (Plan plan : plans) if (plan.axis() == axis) return false;
            return axes.get(axis).left == 0 && axes.get(axis).queue.isEmpty();
        }
    }

    private static final String NUMBER = "(0|[1-9][0-9]{0,3})";
    private static final String ORDER = "(n[0-9]|m[0-9]@-?" + NUMBER + "|p" + NUMBER + ":[0-9]@-?" + NUMBER
            + "|s[0-9]|l[0-9]=[0-9]|h[0-9]|t" + NUMBER + ")";
    private static final Pattern TEXT = Pattern.compile(ORDER + "(;" + ORDER + ")*");

    private static final class Model {
        World now = new World();
        String pad = "";
        final List<World> past = new ArrayList<>();
        final World[] slots = new World[2];

        int changed(World before, int answer) {
            if (answer >= 0) {
                past.add(before);
                if (past.size() > 6) past.remove(0);
            }
            return answer;
        }

        boolean has(int axis) {
            return axis >= 0 && axis < now.axes.size();
        }

        static boolean in(int value, int least, int most) {
            return least <= value && value <= most;
        }

        int set(int setting, int value) {
            int[][] ranges = {{10, 200}, {2, 50}, {1, 40}, {0, 40}, {0, 20}};
            if (!in(setting, 0, 4) || !in(value, ranges[setting][0], ranges[setting][1])) return -2;
            int before = now.settings[setting];
            now.settings[setting] = value;
            return before;
        }

        int shaft(int micro) {
            if (micro != 1 && micro != 2 && micro != 4) return -2;
            if (now.axes.size() == 4) return -4;
            Axis axis = new Axis();
            axis.micro = micro;
            now.axes.add(axis);
            return now.axes.size() - 1;
        }

        int load(int axis, int load) {
            if (!has(axis)) return -1;
            if (!in(load, 0, 9)) return -2;
            int before = now.axes.get(axis).load;
            now.axes.get(axis).load = load;
            return before;
        }

        int move(int number, int place) {
            if (!has(number)) return -1;
            if (!in(place, -9999, 9999)) return -2;
            Axis axis = now.axes.get(number);
            if (axis.left > 0) {
                if (axis.queue.size() == 3) return -4;
                axis.queue.add(place);
            } else {
                now.start(axis, place);
            }
            return axis.queue.size();
        }

        int plan(int in, int axis, int place) {
            if (!has(axis)) return -1;
            if (!in(in, 1, 9999) || !in(place, -9999, 9999)) return -2;
            if (now.plans.size() == 12) return -4;
            now.plans.add(new Plan(now.time + in, axis, place));
            return now.plans.size();
        }

        int stop(int number) {
            if (!has(number)) return -1;
            Axis axis = now.axes.get(number);
            if (axis.left == 0) return -5;
            axis.queue.clear();
            if (axis.left > axis.level) axis.left = axis.level;
            if (axis.left == 0) axis.level = 0;
            return axis.left;
        }

        int home(int number) {
            if (!has(number)) return -1;
            Axis axis = now.axes.get(number);
            if (axis.left > 0) return -5;
            int more = (int) (axis.says - axis.stands);
            axis.says = axis.stands;
            return 1000000 + more;
        }

        int pass(int ticks) {
            if (!in(ticks, 1, 999)) return -2;
            if (now.time + ticks > 99999) return -5;
            int made = 0;
            for (int i = 0; i < ticks; i++) made += now.tick().size();
            return made;
        }

        int of(int number, int what) {
            if (!has(number)) return -1;
            if (!in(what, 0, 11)) return -2;
            Axis axis = now.axes.get(number);
            int says = 1000000 + (int) axis.says;
            boolean moves = axis.left > 0;
            int[] answers = {says, 1000000 + (int) axis.stands, axis.micro, axis.load, moves ? 1 : 0, axis.left,
                moves ? axis.level : 0, moves ? axis.countdown : -6, axis.queue.size(), axis.made, axis.lost,
                says + axis.way * axis.micro * axis.left};
            return answers[what];
        }

        int waiting(int axis, int rank) {
            if (!has(axis) || !in(rank, 0, now.axes.get(axis).queue.size() - 1)) return -1;
            return 1000000 + now.axes.get(axis).queue.get(rank);
        }

        int planned(int rank, int what) {
            if (!in(rank, 0, now.plans.size() - 1)) return -1;
            if (!in(what, 0, 2)) return -2;
            List<Plan> sorted = new ArrayList<>(now.plans);
            sorted.sort((a, b) -> Integer.compare(a.time(), b.time()));
            Plan plan = sorted.get(rank);
            return what == 0 ? plan.time() : what == 1 ? plan.axis() : 1000000 + plan.place();
        }

        int count(int what) {
            if (!in(what, 0, 14)) return -2;
            if (what >= 8 && what <= 12) return now.settings[what - 8];
            int moving = 0, displaced = 0, made = 0, lost = 0;
            for (int i = 0; i < now.axes.size(); i++) {
                Axis axis = now.axes.get(i);
                if (axis.left > 0) moving += 1 << i;
                if (axis.says != axis.stands) displaced += 1 << i;
                made += axis.made;
                lost += axis.lost;
            }
            int[] answers = {now.time, now.axes.size(), moving, displaced, now.plans.size(), made, lost, now.highest(),
                0, 0, 0, 0, 0, pad.length(), past.size()};
            return answers[what];
        }

        int interval(int level) {
            return in(level, 0, 99) ? now.interval(level) : -2;
        }

        int restsIn(int axis) {
            if (!has(axis)) return -1;
            World world = now.copy();
            for (int ticks = 0; ticks <= 20000; ticks++) {
                if (world.isOver(axis)) return ticks;
                world.tick();
            }
            return -6;
        }

        int stopsAt(int axis) {
            if (!has(axis)) return -1;
            World kept = now;
            now = now.copy();
            now.plans.clear();
            stop(axis);
            while (!now.isOver(axis)) now.tick();
            int answer = 1000000 + (int) now.axes.get(axis).says;
            now = kept;
            return answer;
        }

        int nextStep(int rank, int what) {
            if (!in(rank, 0, 99) || !in(what, 0, 2)) return -2;
            World world = now.copy();
            int seen = 0;
            for (int ticks = 1; ticks <= 5000; ticks++) {
                for (int[] step : world.tick()) {
                    if (seen == rank) return what == 0 ? ticks : step[what - 1];
                    seen++;
                }
            }
            return -6;
        }

        /** {ticks, highest level, least interval} of a move of so many steps. */
        static int[] walk(World world, int steps) {
            int ticks = 0, peak = 0, least = 1000, level = 0;
            for (int left = steps; left > 0;) {
                int interval = world.interval(level);
                ticks += interval;
                peak = Math.max(peak, level);
                least = Math.min(least, interval);
                left--;
                level = world.next(level, left);
            }
            return new int[] {ticks, peak, least};
        }

        int moveOf(int steps, int what) {
            return in(steps, 1, 999) && in(what, 0, 1) ? walk(now, steps)[what] : -2;
        }

        int bestGain(int steps, int load) {
            if (!in(steps, 1, 999) || !in(load, 0, 9)) return -2;
            World world = now.copy();
            int best = -6;
            for (int gain = 1; gain <= 40; gain++) {
                world.settings[2] = gain;
                if (walk(world, steps)[2] >= world.settings[3] + world.settings[4] * load) best = gain;
            }
            return best;
        }

        int bears(int number) {
            if (!has(number)) return -1;
            Axis axis = now.axes.get(number);
            int best = -6;
            for (int load = 0; load <= 9; load++) if (!now.isLost(axis.left > 0 ? axis.level : 0, load)) best = load;
            return best;
        }

        int put(long characters) {
            StringBuilder text = new StringBuilder();
            boolean ended = false;
            for (int i = 0; i < 8; i++) {
                int code = (int) (characters >> (8 * i) & 255);
                if (code == 0) ended = true;
                else if (ended || code < 33 || code > 126) return -2;
                else text.insert(0, (char) code);
            }
            if (text.length() == 0) return -2;
            if (pad.length() + text.length() > 80) return -4;
            pad += text;
            return pad.length();
        }

        int wipe() {
            int had = pad.length();
            pad = "";
            return had;
        }

        static int faultOf(String text) {
            if (TEXT.matcher(text).matches()) return -6;
            for (int i = 0; i < text.length(); i++) {
                Matcher matcher = TEXT.matcher(text.substring(0, i + 1));
                if (!matcher.matches() && !matcher.hitEnd()) return i;
            }
            return text.length();
        }

        int carryOut() {
            if (faultOf(pad) != -6) return -3;
            int done = 0;
            for (String order : pad.split(";")) {
                if (order(order) < 0) break;
                done++;
            }
            pad = "";
            return done;
        }

        int order(String order) {
            String[] parts = order.substring(1).split("[@:=]");
            int[] n = new int[3];
            for (int i = 0; i < parts.length; i++) n[i] = Integer.parseInt(parts[i]);
            return switch (order.charAt(0)) {
                case 'n' -> shaft(n[0]);
                case 'm' -> move(n[0], n[1]);
                case 'p' -> plan(n[0], n[1], n[2]);
                case 's' -> stop(n[0]);
                case 'l' -> load(n[0], n[1]);
                case 'h' -> home(n[0]);
                default -> pass(n[0]);
            };
        }

        int undo() {
            if (past.isEmpty()) return -5;
            now = past.remove(past.size() - 1);
            return past.size();
        }

        int save(int slot) {
            if (!in(slot, 0, 1)) return -2;
            slots[slot] = now.copy();
            return now.axes.size();
        }

        int restore(int slot) {
            if (!in(slot, 0, 1)) return -2;
            if (slots[slot] == null) return -5;
            now = slots[slot].copy();
            return now.axes.size();
        }
    }

    private static Random random;
    private static int calls;

    private static int some(int least, int most) {
        return least + random.nextInt(most - least + 1);
    }

    private static boolean chance(int percent) {
        return random.nextInt(100) < percent;
    }

    private static int anyOf(int... values) {
        return values[random.nextInt(values.length)];
    }

    private static int number() {
        return chance(2) ? anyOf(-1, 4, Integer.MAX_VALUE, Integer.MIN_VALUE) : some(0, 3);
    }

    private static int place() {
        if (chance(4)) return anyOf(-9999, 9999, -10000, 10000, Integer.MIN_VALUE, Integer.MAX_VALUE);
        return chance(70) ? some(-40, 40) : some(-600, 600);
    }

    private static int value(int least, int most) {
        return chance(12) ? anyOf(least, most, least - 1, most + 1) : some(least, most);
    }

    private static String orderText() {
        String place = String.valueOf(chance(80) ? some(-60, 60) : some(-9999, 9999));
        if (chance(5)) place = anyOf(0, 1) == 0 ? "-0" : "05";
        return switch (some(0, 7)) {
            case 0 -> "n" + anyOf(1, 2, 4, 3);
            case 1, 2 -> "m" + some(0, 4) + "@" + place;
            case 3 -> "p" + some(0, 300) + ":" + some(0, 3) + "@" + place;
            case 4 -> "s" + some(0, 3);
            case 5 -> "l" + some(0, 3) + "=" + some(0, 9);
            case 6 -> "h" + some(0, 3);
            default -> "t" + (chance(85) ? some(1, 200) : some(0, 12000));
        };
    }

    private static String someText() {
        StringBuilder text = new StringBuilder();
        int orders = some(0, 6);
        for (int i = 0; i < orders; i++) text.append(i > 0 ? ";" : "").append(orderText());
        if (chance(20) && text.length() > 0) text.setLength(some(0, text.length()));
        if (chance(20)) text.insert(some(0, text.length()), "nmpslht0123456789@:=;-~!".charAt(some(0, 23)));
        return text.toString();
    }

    private static long pack(String text) {
        long packed = 0;
        for (int i = 0; i < text.length(); i++) packed = packed << 8 | text.charAt(i);
        return packed;
    }

    private static long characters() {
        if (chance(30)) return random.nextLong();
        if (chance(20)) return anyOf(0, 32, 33, 126, 127, 128, 0x6d00, 0x6d0031, -1);
        return pack("n1;m0@5;".substring(0, some(1, 8)));
    }

    private static void check(int run, String call, int got, int want) {
        calls++;
        if (got == want) return;
        System.out.println("run " + run + ": " + call + " answered " + got + ", due is " + want);
        System.exit(1);
    }

    private static void sameState(int run, RampShafts x, Model m) {
        for (int what = -1; what <= 15; what++) check(run, "count(" + what + ")", x.count(what), m.count(what));
        for (int shaft = -1; shaft <= 4; shaft++) {
            for (int what = -1; what <= 12; what++) {
                check(run, "of(" + shaft + ", " + what + ")", x.of(shaft, what), m.of(shaft, what));
            }
            for (int rank = -1; rank <= 3; rank++) {
                check(run, "waiting(" + shaft + ", " + rank + ")", x.waiting(shaft, rank), m.waiting(shaft, rank));
            }
            check(run, "stopsAt(" + shaft + ")", x.stopsAt(shaft), m.stopsAt(shaft));
            check(run, "bears(" + shaft + ")", x.bears(shaft), m.bears(shaft));
        }
        for (int rank = -1; rank <= 12; rank++) {
            for (int what = -1; what <= 3; what++) {
                check(run, "planned(" + rank + ", " + what + ")", x.planned(rank, what), m.planned(rank, what));
            }
        }
        check(run, "fault()", x.fault(), Model.faultOf(m.pad));
    }

    private static void change(int run, RampShafts x, Model m) {
        World before = m.now.copy();
        int a = number(), b = place();
        switch (some(0, 21)) {
            case 0 -> {
                int setting = value(0, 4);
                int value = switch (setting) {
                    case 0 -> value(10, 200);
                    case 1 -> value(2, 50);
                    case 2 -> value(1, 40);
                    case 3 -> value(0, 40);
                    default -> value(0, 20);
                };
                check(run, "set(" + setting + ", " + value + ")", x.set(setting, value), m.changed(before, m.set(setting, value)));
            }
            case 1 -> {
                int micro = chance(70) ? anyOf(1, 2, 4) : some(-1, 5);
                check(run, "shaft(" + micro + ")", x.shaft(micro), m.changed(before, m.shaft(micro)));
            }
            case 2 -> {
                int load = value(0, 9);
                check(run, "load(" + a + ", " + load + ")", x.load(a, load), m.changed(before, m.load(a, load)));
            }
            case 3, 4, 5, 6 ->
                check(run, "move(" + a + ", " + b + ")", x.move(a, b), m.changed(before, m.move(a, b)));
            case 7, 8, 9 -> {
                int in = chance(60) ? some(1, 60) : chance(50) ? value(1, 9999) : anyOf(100, 50, 20);
                check(run, "plan(" + in + ", " + a + ", " + b + ")", x.plan(in, a, b), m.changed(before, m.plan(in, a, b)));
            }
            case 10 -> check(run, "stop(" + a + ")", x.stop(a), m.changed(before, m.stop(a)));
            case 11 -> check(run, "home(" + a + ")", x.home(a), m.changed(before, m.home(a)));
            case 12, 13, 14, 15 -> {
                int ticks = chance(80) ? some(1, 120) : value(1, 999);
                check(run, "pass(" + ticks + ")", x.pass(ticks), m.changed(before, m.pass(ticks)));
            }
            case 16 -> check(run, "undo()", x.undo(), m.undo());
            case 17 -> {
                int slot = value(0, 1);
                check(run, "save(" + slot + ")", x.save(slot), m.save(slot));
            }
            case 18 -> {
                int slot = value(0, 1);
                check(run, "restore(" + slot + ")", x.restore(slot), m.changed(before, m.restore(slot)));
            }
            default -> text(run, x, m, before);
        }
    }

    private static void text(int run, RampShafts x, Model m, World before) {
        if (chance(30)) {
            long given = characters();
            check(run, "put(" + given + ")", x.put(given), m.put(given));
        }
        if (chance(70)) check(run, "wipe()", x.wipe(), m.wipe());
        String text = someText();
        for (int at = 0; at < text.length(); at += 8) {
            long given = pack(text.substring(at, Math.min(at + 8, text.length())));
            check(run, "put(" + given + ")", x.put(given), m.put(given));
        }
        check(run, "fault() of " + m.pad, x.fault(), Model.faultOf(m.pad));
        String pad = m.pad;
        check(run, "carryOut() of " + pad, x.carryOut(), m.changed(before, m.carryOut()));
    }

    private static void ask(int run, RampShafts x, Model m) {
        int a = number();
        switch (some(0, 8)) {
            case 0 -> check(run, "restsIn(" + a + ")", x.restsIn(a), m.restsIn(a));
            case 1 -> {
                int rank = value(0, chance(50) ? 5 : 99), what = value(0, 2);
                check(run, "nextStep(" + rank + ", " + what + ")", x.nextStep(rank, what), m.nextStep(rank, what));
            }
            case 2 -> {
                int steps = value(1, chance(50) ? 40 : 999), what = value(0, 1);
                check(run, "moveOf(" + steps + ", " + what + ")", x.moveOf(steps, what), m.moveOf(steps, what));
            }
            case 3 -> {
                int steps = value(1, chance(50) ? 40 : 999), load = value(0, 9);
                check(run, "bestGain(" + steps + ", " + load + ")", x.bestGain(steps, load), m.bestGain(steps, load));
            }
            case 4 -> {
                int level = value(0, 99);
                check(run, "interval(" + level + ")", x.interval(level), m.interval(level));
            }
            case 5 -> check(run, "stopsAt(" + a + ")", x.stopsAt(a), m.stopsAt(a));
            case 6 -> check(run, "bears(" + a + ")", x.bears(a), m.bears(a));
            case 7 -> {
                int what = value(0, 14);
                check(run, "count(" + what + ")", x.count(what), m.count(what));
            }
            default -> {
                int what = value(0, 11);
                check(run, "of(" + a + ", " + what + ")", x.of(a, what), m.of(a, what));
            }
        }
    }

    /** The bound of time is seen only by runs that begin late. */
    private static void beginLate(int run, RampShafts x, Model m) {
        for (int hours = 0; hours < 100; hours++) {
            World before = m.now.copy();
            int ticks = hours < 99 ? 999 : some(1, 999);
            check(run, "pass(" + ticks + ")", x.pass(ticks), m.changed(before, m.pass(ticks)));
        }
    }

    public static void main(String[] args) {
        int runs = args.length > 0 ? Integer.parseInt(args[0]) : RUNS;
        for (int run = 0; run < runs; run++) {
            random = new Random(run);
            calls = 0;
            RampShafts x = new RampShafts();
            Model m = new Model();
            int shafts = some(0, 4);
            for (int i = 0; i < shafts; i++) {
                World before = m.now.copy();
                int micro = anyOf(1, 2, 4);
                check(run, "shaft(" + micro + ")", x.shaft(micro), m.changed(before, m.shaft(micro)));
            }
            if (chance(3)) beginLate(run, x, m);
            while (calls + CHANGE_CALLS + STATE_CALLS <= MOST_CALLS) {
                if (chance(30)) ask(run, x, m);
                else change(run, x, m);
            }
            sameState(run, x, m);
            if (calls > MOST_CALLS) throw new IllegalStateException(calls + " calls");
        }
        System.out.println("all runs are as due");
    }
}
