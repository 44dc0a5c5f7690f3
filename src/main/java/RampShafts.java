/** Shafts that are stepped faster and slower by a ramp; ../shared/DOC.md says what each call does. */
public final class RampShafts {
    public static final int NO_SUCH = -1, BAD_VALUE = -2, BAD_TEXT = -3, TOO_MANY = -4, NOT_POSSIBLE = -5, NONE = -6;
    public static final int START = 0, TOP = 1, GAIN = 2, GRIP = 3, PULL = 4;

    private static final int MOST_SHAFTS = 4, MOST_WAITING = 3, MOST_PLANNED = 12;
    private static final int MOST_UNDONE = 6, SLOTS = 2, PAD_LENGTH = 80;
    private static final int MOST_LOAD = 9, FARTHEST = 9999, LONGEST_PLAN = 9999;
    private static final int MOST_TICKS = 999, LAST_TIME = 99999;
    private static final int MOST_LEVEL_ASKED = 99, MOST_STEPS_ASKED = 999, MOST_RANK_ASKED = 99;
    private static final int REST_HORIZON = 20000, STEP_HORIZON = 5000;
    private static final int PLACE_ZERO = 1000000;
    private static final int NEVER = 2147483647;

    private final Bench bench;
    private final Bench trial;
    private final History history;
    private final Bench[] slots;
    private final boolean[] saved;
    private final Reader reader;
    private final Pad pad;

    public RampShafts() {
        bench = new Bench();
        trial = new Bench();
        history = new History();
        slots = new Bench[SLOTS];
        for (int slot = 0; slot < slots.length; slot++) {
            slots[slot] = new Bench();
        }
        saved = new boolean[SLOTS];
        reader = new Reader();
        pad = reader.pad;
    }

    // ---- changes

    public int set(int setting, int value) {
        history.mark(bench);
        return recorded(bench.ramp.change(setting, value));
    }

    public int shaft(int micro) {
        history.mark(bench);
        return recorded(bench.addShaft(micro));
    }

    public int load(int shaft, int load) {
        history.mark(bench);
        return recorded(bench.changeLoad(shaft, load));
    }

    public int move(int shaft, int place) {
        history.mark(bench);
        return recorded(bench.moveTo(shaft, place));
    }

    public int plan(int in, int shaft, int place) {
        history.mark(bench);
        return recorded(bench.addPlan(in, shaft, place));
    }

    public int stop(int shaft) {
        history.mark(bench);
        return recorded(bench.halt(shaft));
    }

    public int home(int shaft) {
        history.mark(bench);
        return recorded(bench.bringHome(shaft));
    }

    public int pass(int ticks) {
        history.mark(bench);
        return recorded(bench.passTicks(ticks));
    }

    // ---- what there is

    public int of(int shaft, int what) {
        Shaft found = bench.find(shaft);
        if (found == null) {
            return NO_SUCH;
        }
        switch (what) {
            case 0: return found.says + PLACE_ZERO;
            case 1: return found.stands + PLACE_ZERO;
            case 2: return found.micro;
            case 3: return found.load;
            case 4: return found.moves() ? 1 : 0;
            case 5: return found.left;
            case 6: return found.level;
            case 7: return found.moves() ? found.next - bench.time : NONE;
            case 8: return found.waitCount;
            case 9: return found.steps;
            case 10: return found.lost;
            case 11: return found.saysAfter(found.left) + PLACE_ZERO;
            default: return BAD_VALUE;
        }
    }

    public int waiting(int shaft, int rank) {
        Shaft found = bench.find(shaft);
        if (found == null || rank < 0 || rank >= found.waitCount || rank >= found.waits.length) {
            return NO_SUCH;
        }
        return found.waits[rank] + PLACE_ZERO;
    }

    public int planned(int rank, int what) {
        if (rank < 0 || rank >= bench.planCount || rank >= MOST_PLANNED) {
            return NO_SUCH;
        }
        switch (what) {
            case 0: return bench.planTimes[rank];
            case 1: return bench.planShafts[rank];
            case 2: return bench.planPlaces[rank] + PLACE_ZERO;
            default: return BAD_VALUE;
        }
    }

    public int count(int what) {
        switch (what) {
            case 0: return bench.time;
            case 1: return bench.shaftCount;
            case 2: return bench.movingSet();
            case 3: return bench.displacedSet();
            case 4: return bench.planCount;
            case 5: return bench.stepsSoFar();
            case 6: return bench.lostSoFar();
            case 7: return bench.ramp.highestLevel();
            case 8: case 9: case 10: case 11: case 12: return bench.ramp.valueOf(what - 8);
            case 13: return pad.length;
            case 14: return history.kept;
            default: return BAD_VALUE;
        }
    }

    public int interval(int level) {
        if (level < 0 || level > MOST_LEVEL_ASKED) {
            return BAD_VALUE;
        }
        return bench.ramp.intervalOf(level);
    }

    // ---- what if; nothing changes

    public int restsIn(int shaft) {
        trial.take(bench);
        return trial.ticksUntilRest(shaft);
    }

    public int stopsAt(int shaft) {
        Shaft found = bench.find(shaft);
        if (found == null) {
            return NO_SUCH;
        }
        return found.saysAfter(found.leftIfHalted()) + PLACE_ZERO;
    }

    public int nextStep(int rank, int what) {
        if (rank < 0 || rank > MOST_RANK_ASKED || what < 0 || what > 2) {
            return BAD_VALUE;
        }
        trial.take(bench);
        int number = trial.goToStep(rank);
        Shaft found = trial.find(number);
        if (found == null) {
            return NONE;
        }
        switch (what) {
            case 0: return trial.time - bench.time;
            case 1: return number;
            default: return trial.ramp.grips(found.level, found.load) ? 0 : 1;
        }
    }

    public int moveOf(int steps, int what) {
        if (steps < 1 || steps > MOST_STEPS_ASKED || what < 0 || what > 1) {
            return BAD_VALUE;
        }
        return what == 0 ? bench.ramp.ticksOf(steps) : bench.ramp.peakOf(steps);
    }

    public int bestGain(int steps, int load) {
        if (steps < 1 || steps > MOST_STEPS_ASKED || load < 0 || load > MOST_LOAD) {
            return BAD_VALUE;
        }
        Ramp tried = trial.ramp;
        tried.take(bench.ramp);
        for (int gain = Ramp.MOST_GAIN; gain >= Ramp.LEAST_GAIN; gain--) {
            tried.gain = gain;
            // An interval is the shorter the higher its level is: the peak is lost first.
            if (tried.grips(tried.peakOf(steps), load)) {
                return gain;
            }
        }
        return NONE;
    }

    public int bears(int shaft) {
        Shaft found = bench.find(shaft);
        if (found == null) {
            return NO_SUCH;
        }
        for (int load = MOST_LOAD; load >= 0; load--) {
            if (bench.ramp.grips(found.level, load)) {
                return load;
            }
        }
        return NONE;
    }

    // ---- texts

    public int put(long characters) {
        int added = Pad.lengthOf(characters);
        if (added < 1) {
            return BAD_VALUE;
        }
        if (pad.length + added > PAD_LENGTH) {
            return TOO_MANY;
        }
        for (int behind = added - 1; behind >= 0; behind--) {
            pad.append((char) ((characters >>> (8 * behind)) & 255));
        }
        return pad.length;
    }

    public int wipe() {
        int had = pad.length;
        pad.length = 0;
        return had;
    }

    public int fault() {
        return reader.findFault();
    }

    public int carryOut() {
        if (reader.findFault() != NONE) {
            return BAD_TEXT;
        }
        history.mark(bench);
        reader.begin();
        int done = 0;
        for (int orders = 0; orders < PAD_LENGTH; orders++) {
            if (!reader.readOrder() || isError(carryOutOrder())) {
                break;
            }
            done++;
            if (!reader.skip(';')) {
                break;
            }
        }
        pad.length = 0;
        return recorded(done);
    }

    // ---- undo, saving

    public int undo() {
        Bench latest = history.latest();
        if (latest == null) {
            return NOT_POSSIBLE;
        }
        bench.take(latest);
        history.dropLatest();
        return history.kept;
    }

    public int save(int slot) {
        if (slot < 0 || slot >= SLOTS) {
            return BAD_VALUE;
        }
        slots[slot].take(bench);
        saved[slot] = true;
        return bench.shaftCount;
    }

    public int restore(int slot) {
        if (slot < 0 || slot >= SLOTS) {
            return BAD_VALUE;
        }
        if (!saved[slot]) {
            return NOT_POSSIBLE;
        }
        history.mark(bench);
        bench.take(slots[slot]);
        return recorded(bench.shaftCount);
    }

    private static boolean isError(int answer) {
        return answer < 0;
    }

    private int recorded(int answer) {
        if (!isError(answer)) {
            history.keepMarked();
        }
        return answer;
    }

    private int carryOutOrder() {
        switch (reader.order) {
            case 'n': return bench.addShaft(reader.digit);
            case 'm': return bench.moveTo(reader.digit, reader.value);
            case 'p': return bench.addPlan(reader.number, reader.digit, reader.value);
            case 's': return bench.halt(reader.digit);
            case 'l': return bench.changeLoad(reader.digit, reader.value);
            case 'h': return bench.bringHome(reader.digit);
            case 't': return bench.passTicks(reader.number);
            default: return BAD_TEXT;
        }
    }

    /** The settings, and what follows from them for levels and loads. */
    private static final class Ramp {
        static final int LEAST_GAIN = 1, MOST_GAIN = 40;

        int start = 60;
        int top = 10;
        int gain = 10;
        int grip = 4;
        int pull = 2;

        void take(Ramp other) {
            start = other.start;
            top = other.top;
            gain = other.gain;
            grip = other.grip;
            pull = other.pull;
        }

        int valueOf(int setting) {
            switch (setting) {
                case START: return start;
                case TOP: return top;
                case GAIN: return gain;
                case GRIP: return grip;
                case PULL: return pull;
                default: return BAD_VALUE;
            }
        }

        int change(int setting, int value) {
            if (!isInRange(setting, value)) {
                return BAD_VALUE;
            }
            int previous = valueOf(setting);
            switch (setting) {
                case START: start = value; break;
                case TOP: top = value; break;
                case GAIN: gain = value; break;
                case GRIP: grip = value; break;
                default: pull = value; break;
            }
            return previous;
        }

        static boolean isInRange(int setting, int value) {
            switch (setting) {
                case START: return value >= 10 && value <= 200;
                case TOP: return value >= 2 && value <= 50;
                case GAIN: return value >= LEAST_GAIN && value <= MOST_GAIN;
                case GRIP: return value >= 0 && value <= 40;
                case PULL: return value >= 0 && value <= 20;
                default: return false;
            }
        }

        int intervalOf(int level) {
            int wanted = start - gain * level;
            return wanted > top ? wanted : top;
        }

        int highestLevel() {
            if (start <= top || gain < 1) {
                return 0;
            }
            return (start - top + gain - 1) / gain;
        }

        /** The level of the next step, when a step at a level is made and some steps are left. */
        int levelAfter(int level, int left) {
            if (left <= level) {
                return Math.max(level - 1, 0);
            }
            return Math.min(level + 1, highestLevel());
        }

        boolean grips(int level, int load) {
            return intervalOf(level) >= grip + pull * load;
        }

        int ticksOf(int steps) {
            int ticks = 0;
            int level = 0;
            for (int left = steps - 1; left >= 0; left--) {
                ticks += intervalOf(level);
                level = levelAfter(level, left);
            }
            return ticks;
        }

        /** The level rises while more steps than it are left, so at most up to half of all steps. */
        int peakOf(int steps) {
            return Math.min(highestLevel(), steps / 2);
        }
    }

    /** One shaft; with no steps left it rests, and then its level is 0 and no move waits. */
    private static final class Shaft {
        int micro;
        int load;
        int says;
        int stands;
        int way;
        int left;
        int level;
        int next;
        int steps;
        int lost;
        int waitCount;
        final int[] waits = new int[MOST_WAITING];

        void take(Shaft other) {
            micro = other.micro;
            load = other.load;
            says = other.says;
            stands = other.stands;
            way = other.way;
            left = other.left;
            level = other.level;
            next = other.next;
            steps = other.steps;
            lost = other.lost;
            waitCount = other.waitCount;
            for (int rank = 0; rank < MOST_WAITING; rank++) {
                waits[rank] = other.waits[rank];
            }
        }

        boolean moves() {
            return left > 0;
        }

        int saysAfter(int made) {
            return says + way * micro * made;
        }

        int leftIfHalted() {
            return Math.min(left, level);
        }

        void begin(int place, int now, Ramp ramp) {
            int distance = Math.abs(place - says);
            way = place < says ? -1 : 1;
            left = micro < 1 ? 0 : distance / micro;
            level = 0;
            next = now + ramp.intervalOf(0);
        }

        boolean canWait() {
            return waitCount >= 0 && waitCount < MOST_WAITING;
        }

        void beginOrWait(int place, int now, Ramp ramp) {
            if (!moves()) {
                begin(place, now, ramp);
            } else if (canWait()) {
                waits[waitCount] = place;
                waitCount++;
            }
        }

        /** Begins moves that wait, until one of them is not over at once; none if the shaft moves. */
        void beginWaiting(int now, Ramp ramp) {
            for (int tried = 0; tried < MOST_WAITING && waitCount > 0 && !moves(); tried++) {
                int place = waits[0];
                for (int rank = 1; rank < MOST_WAITING; rank++) {
                    waits[rank - 1] = waits[rank];
                }
                waitCount--;
                begin(place, now, ramp);
            }
        }

        void makeStep(int now, Ramp ramp) {
            int change = way * micro;
            says += change;
            steps++;
            if (ramp.grips(level, load)) {
                stands += change;
            } else {
                lost++;
            }
            left--;
            if (moves()) {
                level = ramp.levelAfter(level, left);
                next = now + ramp.intervalOf(level);
            } else {
                level = 0;
            }
        }

        void slowDown() {
            left = leftIfHalted();
            waitCount = 0;
        }
    }

    /** All that undo and the slots keep: the settings, the shafts, the plans and the time. */
    private static final class Bench {
        final Ramp ramp;
        final Shaft[] shafts;
        final int[] planTimes;
        final int[] planShafts;
        final int[] planPlaces;
        int shaftCount;
        int planCount;
        int time;

        Bench() {
            ramp = new Ramp();
            shafts = new Shaft[MOST_SHAFTS];
            for (int number = 0; number < shafts.length; number++) {
                shafts[number] = new Shaft();
            }
            planTimes = new int[MOST_PLANNED];
            planShafts = new int[MOST_PLANNED];
            planPlaces = new int[MOST_PLANNED];
        }

        void take(Bench other) {
            ramp.take(other.ramp);
            for (int number = 0; number < MOST_SHAFTS; number++) {
                shafts[number].take(other.shafts[number]);
            }
            for (int rank = 0; rank < MOST_PLANNED; rank++) {
                planTimes[rank] = other.planTimes[rank];
                planShafts[rank] = other.planShafts[rank];
                planPlaces[rank] = other.planPlaces[rank];
            }
            shaftCount = other.shaftCount;
            planCount = other.planCount;
            time = other.time;
        }

        Shaft find(int number) {
            if (number < 0 || number >= shaftCount || number >= shafts.length) {
                return null;
            }
            return shafts[number];
        }

        static boolean isPlace(int place) {
            return place >= -FARTHEST && place <= FARTHEST;
        }

        int addShaft(int micro) {
            if (micro != 1 && micro != 2 && micro != 4) {
                return BAD_VALUE;
            }
            if (shaftCount < 0 || shaftCount >= shafts.length) {
                return TOO_MANY;
            }
            shafts[shaftCount].micro = micro;
            shaftCount++;
            return shaftCount - 1;
        }

        int changeLoad(int number, int load) {
            Shaft shaft = find(number);
            if (shaft == null) {
                return NO_SUCH;
            }
            if (load < 0 || load > MOST_LOAD) {
                return BAD_VALUE;
            }
            int previous = shaft.load;
            shaft.load = load;
            return previous;
        }

        int moveTo(int number, int place) {
            Shaft shaft = find(number);
            if (shaft == null) {
                return NO_SUCH;
            }
            if (!isPlace(place)) {
                return BAD_VALUE;
            }
            if (shaft.moves() && !shaft.canWait()) {
                return TOO_MANY;
            }
            shaft.beginOrWait(place, time, ramp);
            return shaft.waitCount;
        }

        int addPlan(int in, int number, int place) {
            if (find(number) == null) {
                return NO_SUCH;
            }
            if (in < 1 || in > LONGEST_PLAN || !isPlace(place)) {
                return BAD_VALUE;
            }
            if (planCount < 0 || planCount >= MOST_PLANNED) {
                return TOO_MANY;
            }
            int rank = planCount;
            // Plans of the same time stay in front: they were planned earlier.
            for (; rank > 0 && planTimes[rank - 1] > time + in; rank--) {
                copyPlan(rank - 1, rank);
            }
            planTimes[rank] = time + in;
            planShafts[rank] = number;
            planPlaces[rank] = place;
            planCount++;
            return planCount;
        }

        void copyPlan(int from, int to) {
            if (from < 0 || from >= MOST_PLANNED || to < 0 || to >= MOST_PLANNED) {
                return;
            }
            planTimes[to] = planTimes[from];
            planShafts[to] = planShafts[from];
            planPlaces[to] = planPlaces[from];
        }

        int halt(int number) {
            Shaft shaft = find(number);
            if (shaft == null) {
                return NO_SUCH;
            }
            if (!shaft.moves()) {
                return NOT_POSSIBLE;
            }
            shaft.slowDown();
            return shaft.left;
        }

        int bringHome(int number) {
            Shaft shaft = find(number);
            if (shaft == null) {
                return NO_SUCH;
            }
            if (shaft.moves()) {
                return NOT_POSSIBLE;
            }
            int more = shaft.says - shaft.stands;
            shaft.says = shaft.stands;
            return more + PLACE_ZERO;
        }

        int passTicks(int ticks) {
            if (ticks < 1 || ticks > MOST_TICKS) {
                return BAD_VALUE;
            }
            if (time + ticks > LAST_TIME) {
                return NOT_POSSIBLE;
            }
            int end = time + ticks;
            int made = 0;
            // Each event is later than the one before: there are no more of them than ticks.
            for (int events = 0; events < ticks && nextEvent() <= end; events++) {
                arriveAt(nextEvent());
                made += makeSteps();
            }
            time = end;
            return made;
        }

        /** The time at which a plan or a step comes next. */
        int nextEvent() {
            int event = planCount > 0 ? planTimes[0] : NEVER;
            for (int number = 0; number < shafts.length; number++) {
                if (shafts[number].moves()) {
                    event = Math.min(event, shafts[number].next);
                }
            }
            return event;
        }

        /** Only a time is fit before which nothing comes; its steps are not made yet. */
        void arriveAt(int event) {
            time = event;
            for (int come = 0; come < MOST_PLANNED && planCount > 0 && planTimes[0] == time; come++) {
                Shaft shaft = find(planShafts[0]);
                if (shaft != null) {
                    shaft.beginOrWait(planPlaces[0], time, ramp);
                }
                for (int rank = 1; rank < planCount; rank++) {
                    copyPlan(rank, rank - 1);
                }
                planCount--;
            }
        }

        int makeSteps() {
            int made = 0;
            for (int number = 0; number < shafts.length; number++) {
                if (isDue(number)) {
                    shafts[number].makeStep(time, ramp);
                    shafts[number].beginWaiting(time, ramp);
                    made++;
                }
            }
            return made;
        }

        boolean isDue(int number) {
            Shaft shaft = find(number);
            return shaft != null && shaft.moves() && shaft.next == time;
        }

        boolean hasPlan(int number) {
            for (int rank = 0; rank < planCount && rank < MOST_PLANNED; rank++) {
                if (planShafts[rank] == number) {
                    return true;
                }
            }
            return false;
        }

        int ticksUntilRest(int number) {
            Shaft shaft = find(number);
            if (shaft == null) {
                return NO_SUCH;
            }
            int begun = time;
            for (int events = 0; events <= REST_HORIZON; events++) {
                if (!shaft.moves() && !hasPlan(number)) {
                    return time - begun;
                }
                int event = nextEvent();
                if (event - begun > REST_HORIZON) {
                    return NONE;
                }
                arriveAt(event);
                makeSteps();
            }
            return NONE;
        }

        /** Goes on until just before the step of a rank is made; answers its shaft, or NONE. */
        int goToStep(int rank) {
            int begun = time;
            int ahead = rank;
            for (int events = 0; events <= STEP_HORIZON; events++) {
                int event = nextEvent();
                if (event - begun > STEP_HORIZON) {
                    return NONE;
                }
                arriveAt(event);
                for (int number = 0; number < shafts.length; number++) {
                    if (isDue(number)) {
                        if (ahead == 0) {
                            return number;
                        }
                        ahead--;
                    }
                }
                makeSteps();
            }
            return NONE;
        }

        int movingSet() {
            int set = 0;
            for (int number = 0; number < shafts.length; number++) {
                if (shafts[number].moves()) {
                    set |= 1 << number;
                }
            }
            return set;
        }

        int displacedSet() {
            int set = 0;
            for (int number = 0; number < shafts.length; number++) {
                if (shafts[number].says != shafts[number].stands) {
                    set |= 1 << number;
                }
            }
            return set;
        }

        int stepsSoFar() {
            int sum = 0;
            for (int number = 0; number < shafts.length; number++) {
                sum += shafts[number].steps;
            }
            return sum;
        }

        int lostSoFar() {
            int sum = 0;
            for (int number = 0; number < shafts.length; number++) {
                sum += shafts[number].lost;
            }
            return sum;
        }
    }

    /** A ring of states, one more than are kept: a state is marked before it is known whether it is to be kept. */
    private static final class History {
        final Bench[] ring;
        int marked;
        int kept;

        History() {
            ring = new Bench[MOST_UNDONE + 1];
            for (int place = 0; place < ring.length; place++) {
                ring[place] = new Bench();
            }
        }

        void mark(Bench state) {
            if (marked >= 0 && marked < ring.length) {
                ring[marked].take(state);
            }
        }

        void keepMarked() {
            marked = marked + 1 < ring.length ? marked + 1 : 0;
            kept = Math.min(kept + 1, MOST_UNDONE);
        }

        Bench latest() {
            int place = placeOfLatest();
            if (kept < 1 || place < 0 || place >= ring.length) {
                return null;
            }
            return ring[place];
        }

        void dropLatest() {
            marked = placeOfLatest();
            kept--;
        }

        private int placeOfLatest() {
            return marked > 0 ? marked - 1 : MOST_UNDONE;
        }
    }

    /** The text of orders. */
    private static final class Pad {
        final char[] signs = new char[PAD_LENGTH];
        int length;

        /** How many characters a number holds, 0 if it holds anything else. */
        static int lengthOf(long characters) {
            long rest = characters;
            int held = 0;
            for (int place = 0; place < 8 && rest != 0; place++) {
                long code = rest & 255;
                if (code < 33 || code > 126) {
                    return 0;
                }
                held++;
                rest >>>= 8;
            }
            return held;
        }

        void append(char sign) {
            if (length >= 0 && length < signs.length) {
                signs[length] = sign;
                length++;
            }
        }

        /** The character at an index, 0 behind the text. */
        char signAt(int index) {
            if (index < 0 || index >= length || index >= signs.length) {
                return 0;
            }
            return signs[index];
        }
    }

    /** Reads the pad from left to right; where it can't go on is the fault. */
    private static final class Reader {
        final Pad pad = new Pad();
        int at;
        int order;
        int number;
        int digit;
        int value;

        void begin() {
            at = 0;
        }

        int findFault() {
            begin();
            for (int orders = 0; orders < PAD_LENGTH; orders++) {
                if (!readOrder()) {
                    return at;
                }
                if (at == pad.length) {
                    return NONE;
                }
                if (!skip(';')) {
                    return at;
                }
            }
            return at;
        }

        boolean readOrder() {
            order = pad.signAt(at);
            switch (order) {
                case 'n': case 's': case 'h':
                    at++;
                    return readDigit();
                case 'm':
                    at++;
                    return readDigit() && skip('@') && readPlace();
                case 'p':
                    at++;
                    return readNumber() && skip(':') && readDigit() && skip('@') && readPlace();
                case 'l':
                    at++;
                    return readDigit() && skip('=') && readLoad();
                case 't':
                    at++;
                    return readNumber();
                default:
                    return false;
            }
        }

        boolean skip(char sign) {
            if (pad.signAt(at) != sign) {
                return false;
            }
            at++;
            return true;
        }

        private boolean readDigit() {
            digit = takeDigit();
            return digit >= 0;
        }

        private boolean readLoad() {
            value = takeDigit();
            return value >= 0;
        }

        private boolean readNumber() {
            number = takeNumber();
            return number >= 0;
        }

        private boolean readPlace() {
            boolean below = skip('-');
            int size = takeNumber();
            value = below ? -size : size;
            return size >= 0;
        }

        /** The digit that stands next, -1 if none does. */
        private int takeDigit() {
            char sign = pad.signAt(at);
            if (sign < '0' || sign > '9') {
                return -1;
            }
            at++;
            return sign - '0';
        }

        /** The number that stands next, -1 if none does; a digit too many is left, for nothing reads it there. */
        private int takeNumber() {
            int result = takeDigit();
            if (result < 1) {
                return result;
            }
            for (int digits = 1; digits < 4; digits++) {
                int following = takeDigit();
                if (following < 0) {
                    break;
                }
                result = result * 10 + following;
            }
            return result;
        }
    }
}
