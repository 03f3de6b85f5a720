/**
 * Pointing of a dish: two axes with play in their worms, days with gusts, a queue of targets
 * and lists of targets as texts. What each call does is told by ../shared/DOC.md.
 *
 * All rows are made in the constructor and used again, so that no later call makes an object.
 */
public final class DishPointer {
    public static final int INVALID_ARGUMENT = -100001;
    public static final int NOT_POSSIBLE = -100002;
    public static final int LIMIT_REACHED = -100003;
    public static final int NOT_FOUND = -100004;

    private static final int FULL_TURN = 36000;
    private static final int DAY_MINUTES = 1440;
    private static final int LAST_TIME = 43200;
    private static final int LAST_GUST_DAY = 29;
    private static final int MOST_GUST = 99;
    private static final int MOST_MINUTES = 2000;

    private static final int AZIMUTH_END = 27000;
    private static final int ELEVATION_LEAST = 500;
    private static final int ELEVATION_MOST = 9000;
    private static final int TARGET_ELEVATION_MOST = 8500;

    private static final int OVERSHOOT = 0;
    private static final int WIND = 1;
    private static final int PUSH_LIMIT = 2;
    private static final int HOLD_LIMIT = 3;
    private static final int[] SETTING_MOST = {500, 27000, 100, 100};

    private static final int PLAY = 0;
    private static final int SIDE = 1;
    private static final int SPEED = 2;
    private static final int[] AXIS_LEAST = {0, 0, 1};
    private static final int[] AXIS_MOST = {300, 2, 2000};

    private static final int FROM_BELOW = 1;
    private static final int FROM_ABOVE = 2;

    private static final int HOLD = 0;
    private static final int PUSH = 1;
    private static final int CALM = 2;

    private static final int WAITING = 0;
    private static final int UNDER_WAY = 1;
    private static final int DONE = 2;
    private static final int MISSED = 3;
    private static final int EMPTY = 4;

    private static final int MAX_TARGETS = 10;
    private static final int MAX_HISTORY = 5;
    private static final int MAX_SIGNS = 100;
    private static final int MAX_DIGITS = 5;

    private static final int NO_TARGET = -1;
    private static final int NO_FORM = -1;
    private static final int FIRST_SIGN = 32;
    private static final int LAST_SIGN = 126;
    private static final char[] PART_LETTERS = {'a', 'e', 'f', 't', 'd', 'p'};
    private static final int PRIORITY_PART = 5;
    private static final int PARTS = 6;

    private static final int FORM_FAULT = 1;
    private static final int RANGE_FAULT = 2;
    private static final int ROOM_FAULT = 3;

    private final State now;
    private final State trial;
    private final History history;
    private final TargetText text;

    public DishPointer() {
        now = new State();
        trial = new State();
        history = new History();
        text = new TargetText();
    }

    // ---- settings

    public int set(int what, int value) {
        if (!isBetween(what, 0, SETTING_MOST.length - 1) || !isBetween(value, 0, SETTING_MOST[what])) {
            return INVALID_ARGUMENT;
        }
        history.record(now);
        return now.changeSetting(what, value);
    }

    public int setAxis(int axis, int what, int value) {
        if (!isBetween(axis, 0, 1) || !isBetween(what, 0, AXIS_MOST.length - 1)
                || !isBetween(value, AXIS_LEAST[what], AXIS_MOST[what])) {
            return INVALID_ARGUMENT;
        }
        history.record(now);
        return now.axisNumber(axis).change(what, value);
    }

    public int gust(int day, int gust) {
        if (!isBetween(day, 0, LAST_GUST_DAY) || !isBetween(gust, 0, MOST_GUST)) {
            return INVALID_ARGUMENT;
        }
        if (day * DAY_MINUTES < now.time) {
            return NOT_POSSIBLE;
        }
        history.record(now);
        return now.changeGust(day, gust);
    }

    public int count(int what) {
        switch (what) {
            case 4:
                return MAX_TARGETS - now.targetsIn(EMPTY);
            case 5:
                return now.targetsIn(WAITING);
            case 6:
                return now.targetsIn(DONE);
            case 7:
                return now.targetsIn(MISSED);
            case 8:
                return foundTarget(now.numberUnderWay());
            case 9:
                return now.minutesUntilDone();
            case 10:
                return history.size;
            case 11:
                return text.length;
            default:
                return now.tell(what);
        }
    }

    public int axis(int axis, int what) {
        if (!isBetween(axis, 0, 1)) {
            return INVALID_ARGUMENT;
        }
        return now.axisNumber(axis).tell(what);
    }

    // ---- ways

    public int way(int axis, int place, int what) {
        if (!isBetween(axis, 0, 1) || !isBetween(place, -AZIMUTH_END, AZIMUTH_END) || !isBetween(what, 0, 3)) {
            return INVALID_ARGUMENT;
        }
        return now.plannedWay(axis, place).tell(what);
    }

    public int placeFor(int azimuth) {
        if (!isBetween(azimuth, 0, FULL_TURN - 1)) {
            return INVALID_ARGUMENT;
        }
        Way around = now.wayAround(azimuth);
        return around.possible ? around.place : NOT_FOUND;
    }

    public int slew(int azimuth, int elevation) {
        if (!isBetween(azimuth, 0, FULL_TURN - 1) || !isBetween(elevation, ELEVATION_LEAST, ELEVATION_MOST)) {
            return INVALID_ARGUMENT;
        }
        if (now.numberUnderWay() != NO_TARGET || now.kindOfDay() == HOLD) {
            return NOT_POSSIBLE;
        }
        Way around = now.wayAround(azimuth);
        Way rise = now.wayRise(elevation);
        if (!around.possible || !rise.possible) {
            return NOT_POSSIBLE;
        }
        history.record(now);
        return now.followWays(around, rise);
    }

    public int isWound() {
        return Math.abs(now.azimuth.motor) > now.settings[WIND] ? 1 : 0;
    }

    // ---- targets

    public int add(int azimuth, int elevation, int from, int to, int dwell, int priority) {
        if (!isTargetInRange(azimuth, elevation, from, to, dwell, priority)) {
            return INVALID_ARGUMENT;
        }
        if (now.targetsIn(EMPTY) == 0) {
            return LIMIT_REACHED;
        }
        history.record(now);
        return now.append(azimuth, elevation, from, to, dwell, priority);
    }

    public int drop(int target) {
        if (!now.hasTarget(target)) {
            return INVALID_ARGUMENT;
        }
        if (now.targets[target].state == UNDER_WAY) {
            return NOT_POSSIBLE;
        }
        history.record(now);
        now.remove(target);
        return MAX_TARGETS - now.targetsIn(EMPTY);
    }

    public int target(int target, int what) {
        if (!now.hasTarget(target)) {
            return INVALID_ARGUMENT;
        }
        return now.targets[target].tell(what);
    }

    public int why(int target) {
        if (!now.hasTarget(target)) {
            return INVALID_ARGUMENT;
        }
        return now.reasonAgainst(now.targets[target]);
    }

    public int next() {
        return foundTarget(now.bestToBegin());
    }

    public int run(int minutes) {
        if (!isBetween(minutes, 0, MOST_MINUTES)) {
            return INVALID_ARGUMENT;
        }
        if (now.time + minutes > LAST_TIME) {
            return LIMIT_REACHED;
        }
        history.record(now);
        int doneBefore = now.targetsIn(DONE);
        now.letPass(minutes);
        return now.targetsIn(DONE) - doneBefore;
    }

    public int ifRun(int minutes) {
        if (!isBetween(minutes, 0, MOST_MINUTES)) {
            return INVALID_ARGUMENT;
        }
        if (now.time + minutes > LAST_TIME) {
            return LIMIT_REACHED;
        }
        trial.copyFrom(now);
        trial.letPass(minutes);
        return trial.targetsIn(DONE);
    }

    public int undo() {
        if (history.size == 0) {
            return NOT_POSSIBLE;
        }
        history.restoreLatest(now);
        return history.size;
    }

    // ---- texts

    public int type(int character) {
        if (!isBetween(character, FIRST_SIGN, LAST_SIGN)) {
            return INVALID_ARGUMENT;
        }
        if (text.length >= MAX_SIGNS) {
            return LIMIT_REACHED;
        }
        text.append((char) character);
        return text.length;
    }

    public int clearText() {
        int length = text.length;
        text.length = 0;
        return length;
    }

    public int fault(int what) {
        if (!isBetween(what, 0, 1)) {
            return INVALID_ARGUMENT;
        }
        text.check(now.targetsIn(EMPTY));
        if (text.faultReason == 0) {
            return NOT_FOUND;
        }
        return what == 0 ? text.faultPlace : text.faultReason;
    }

    public int enter() {
        text.check(now.targetsIn(EMPTY));
        if (text.faultReason != 0) {
            return NOT_POSSIBLE;
        }
        history.record(now);
        int[] read = text.numbers;
        int start = 0;
        for (int entry = 0; entry < text.entries; entry++) {
            start = text.readTarget(start);
            now.append(read[0], read[1], read[2], read[3], read[4], read[5]);
        }
        return text.entries;
    }

    // ---- what several calls share

    private static boolean isBetween(int value, int least, int most) {
        return value >= least && value <= most;
    }

    private static int foundTarget(int number) {
        return number == NO_TARGET ? NOT_FOUND : number;
    }

    private static boolean isTargetInRange(int azimuth, int elevation, int from, int to, int dwell, int priority) {
        return isBetween(azimuth, 0, FULL_TURN - 1)
                && isBetween(elevation, ELEVATION_LEAST, TARGET_ELEVATION_MOST)
                && isBetween(from, 0, LAST_TIME)
                && isBetween(to, 0, LAST_TIME)
                && from < to
                && isBetween(dwell, 1, 600)
                && isBetween(priority, 0, 9);
    }

    /** One axis: its motor, and how far the dish hangs behind it. */
    private static final class Axis {
        final int least;
        final int most;
        final int start;
        int play;
        int side;
        int speed;
        int motor;
        int slack;
        int wentUp;
        int wentDown;

        Axis(int least, int most, int start, int play, int speed) {
            this.least = least;
            this.most = most;
            this.start = start;
            this.motor = start;
            this.play = play;
            this.speed = speed;
        }

        void copyFrom(Axis other) {
            play = other.play;
            side = other.side;
            speed = other.speed;
            motor = other.motor;
            slack = other.slack;
            wentUp = other.wentUp;
            wentDown = other.wentDown;
        }

        int dish() {
            return motor - slack;
        }

        boolean reaches(int place) {
            return place >= least && place <= most;
        }

        int change(int what, int value) {
            int previous = tell(what);
            switch (what) {
                case PLAY:
                    play = value;
                    slack = Math.min(slack, play);
                    break;
                case SIDE:
                    side = value;
                    break;
                case SPEED:
                    speed = value;
                    break;
                default:
                    break;
            }
            return previous;
        }

        void moveTo(int place) {
            int up = place - motor;
            motor = place;
            if (up >= 0) {
                wentUp += up;
                slack = Math.min(slack + up, play);
            } else {
                wentDown -= up;
                slack = Math.max(slack + up, 0);
            }
        }

        void follow(Way way) {
            moveTo(way.turn);
            moveTo(way.end);
        }

        int tell(int what) {
            switch (what) {
                case PLAY:
                    return play;
                case SIDE:
                    return side;
                case SPEED:
                    return speed;
                case 3:
                    return motor;
                case 4:
                    return slack;
                case 5:
                    return dish();
                case 6:
                    return wentUp;
                case 7:
                    return wentDown;
                case 8:
                    return start + wentUp - wentDown;
                default:
                    return INVALID_ARGUMENT;
            }
        }
    }

    /** The way of an axis to a place; one that does not turn round has the motor's place as its turn. */
    private static final class Way {
        int place;
        int turn;
        int end;
        int length;
        int time;
        boolean turns;
        boolean possible;

        void plan(Axis axis, int to, int overshoot) {
            int dish = axis.dish();
            boolean stays;
            place = to;
            switch (axis.side) {
                case FROM_BELOW:
                    stays = dish == to && axis.slack == axis.play;
                    turns = dish >= to && !stays;
                    turn = to - overshoot;
                    end = to + axis.play;
                    break;
                case FROM_ABOVE:
                    stays = dish == to && axis.slack == 0;
                    turns = dish <= to && !stays;
                    turn = to + axis.play + overshoot;
                    end = to;
                    break;
                default:
                    stays = dish == to;
                    turns = false;
                    end = dish < to ? to + axis.play : to;
                    break;
            }
            if (stays) {
                end = axis.motor;
            }
            if (!turns) {
                turn = axis.motor;
            }
            possible = axis.reaches(turn) && axis.reaches(end);
            length = Math.abs(turn - axis.motor) + Math.abs(end - turn);
            time = axis.speed > 0 ? (length + axis.speed - 1) / axis.speed : 0;
        }

        int tell(int what) {
            if (!possible) {
                return NOT_FOUND;
            }
            switch (what) {
                case 0:
                    return end;
                case 1:
                    return length;
                case 2:
                    return time;
                default:
                    return turns ? turn : NOT_FOUND;
            }
        }
    }

    /** One place in the queue; the places behind the last target are EMPTY. */
    private static final class Target {
        int azimuth;
        int elevation;
        int from;
        int to;
        int dwell;
        int priority;
        int state = EMPTY;
        int begunAt;
        int slewedAt;
        int doneAt;
        int error;
        int breaks;
        int place;
        boolean slewLookedAt;

        void copyFrom(Target other) {
            azimuth = other.azimuth;
            elevation = other.elevation;
            from = other.from;
            to = other.to;
            dwell = other.dwell;
            priority = other.priority;
            state = other.state;
            begunAt = other.begunAt;
            slewedAt = other.slewedAt;
            doneAt = other.doneAt;
            error = other.error;
            breaks = other.breaks;
            place = other.place;
            slewLookedAt = other.slewLookedAt;
        }

        int tell(int what) {
            switch (what) {
                case 0:
                    return azimuth;
                case 1:
                    return elevation;
                case 2:
                    return from;
                case 3:
                    return to;
                case 4:
                    return dwell;
                case 5:
                    return priority;
                case 6:
                    return state;
                case 7:
                    return ifBegun(begunAt);
                case 8:
                    return ifBegun(slewedAt);
                case 9:
                    return ifBegun(doneAt);
                case 10:
                    return state == DONE ? error : NOT_FOUND;
                case 11:
                    return breaks;
                case 12:
                    return ifBegun(place);
                default:
                    return INVALID_ARGUMENT;
            }
        }

        private int ifBegun(int value) {
            return state == UNDER_WAY || state == DONE ? value : NOT_FOUND;
        }

        boolean isBetterThan(Target other) {
            if (priority != other.priority) {
                return priority > other.priority;
            }
            return to < other.to;
        }
    }

    /** Everything that the history records. */
    private static final class State {
        int time;
        int slews;
        int holds;
        final int[] settings = {100, 18000, 30, 60};
        // One more than can be set: the gust of the last day stays 0.
        final int[] gusts = new int[LAST_GUST_DAY + 2];
        final Axis azimuth = new Axis(-AZIMUTH_END, AZIMUTH_END, 0, 40, 600);
        final Axis elevation = new Axis(ELEVATION_LEAST, ELEVATION_MOST, ELEVATION_MOST, 20, 300);
        final Target[] targets = new Target[MAX_TARGETS];
        // Ways are planned anew whenever they are asked for, so they are not copied.
        final Way lowWay = new Way();
        final Way highWay = new Way();
        final Way riseWay = new Way();

        State() {
            for (int number = 0; number < targets.length; number++) {
                targets[number] = new Target();
            }
        }

        void copyFrom(State other) {
            time = other.time;
            slews = other.slews;
            holds = other.holds;
            System.arraycopy(other.settings, 0, settings, 0, settings.length);
            System.arraycopy(other.gusts, 0, gusts, 0, gusts.length);
            azimuth.copyFrom(other.azimuth);
            elevation.copyFrom(other.elevation);
            for (int number = 0; number < targets.length; number++) {
                targets[number].copyFrom(other.targets[number]);
            }
        }

        // -- settings and days

        int changeSetting(int what, int value) {
            int previous = settings[what];
            settings[what] = value;
            return previous;
        }

        int changeGust(int day, int gust) {
            int previous = gusts[day];
            gusts[day] = gust;
            return previous;
        }

        Axis axisNumber(int number) {
            return number == 0 ? azimuth : elevation;
        }

        int day() {
            return time / DAY_MINUTES;
        }

        int gustToday() {
            int day = day();
            return day >= 0 && day < gusts.length ? gusts[day] : 0;
        }

        int kindOfDay() {
            int gust = gustToday();
            if (gust >= settings[HOLD_LIMIT]) {
                return HOLD;
            }
            return gust >= settings[PUSH_LIMIT] ? PUSH : CALM;
        }

        int tell(int what) {
            switch (what) {
                case 0:
                    return time;
                case 1:
                    return day();
                case 2:
                    return gustToday();
                case 3:
                    return kindOfDay();
                case 12:
                    return settings[OVERSHOOT];
                case 13:
                    return settings[WIND];
                case 14:
                    return settings[PUSH_LIMIT];
                case 15:
                    return settings[HOLD_LIMIT];
                case 16:
                    return slews;
                case 17:
                    return holds;
                case 18:
                    return Math.floorMod(azimuth.dish(), FULL_TURN);
                default:
                    return INVALID_ARGUMENT;
            }
        }

        // -- ways

        Way plannedWay(int axisNumber, int place) {
            Way way = axisNumber == 0 ? highWay : riseWay;
            way.plan(axisNumber(axisNumber), place, settings[OVERSHOOT]);
            return way;
        }

        Way wayRise(int toElevation) {
            riseWay.plan(elevation, toElevation, settings[OVERSHOOT]);
            return riseWay;
        }

        /** The way that is taken to an azimuth; one that is not possible if there is none. */
        Way wayAround(int toAzimuth) {
            lowWay.plan(azimuth, toAzimuth - FULL_TURN, settings[OVERSHOOT]);
            highWay.plan(azimuth, toAzimuth, settings[OVERSHOOT]);
            if (!lowWay.possible || !highWay.possible) {
                return lowWay.possible ? lowWay : highWay;
            }
            return isLowWayTaken() ? lowWay : highWay;
        }

        private boolean isLowWayTaken() {
            int low = Math.abs(lowWay.place);
            int high = Math.abs(highWay.place);
            boolean lowUnwound = low <= settings[WIND];
            boolean highUnwound = high <= settings[WIND];
            if (lowUnwound != highUnwound) {
                return lowUnwound;
            }
            if (lowWay.length != highWay.length) {
                return lowWay.length < highWay.length;
            }
            return low <= high;
        }

        /** Returns the time of the slew. */
        int followWays(Way around, Way rise) {
            azimuth.follow(around);
            elevation.follow(rise);
            slews++;
            return Math.max(around.time, rise.time);
        }

        // -- the queue

        boolean hasTarget(int number) {
            return number >= 0 && number < targets.length && targets[number].state != EMPTY;
        }

        int targetsIn(int state) {
            int found = 0;
            for (Target target : targets) {
                if (target.state == state) {
                    found++;
                }
            }
            return found;
        }

        int numberUnderWay() {
            for (int number = 0; number < targets.length; number++) {
                if (targets[number].state == UNDER_WAY) {
                    return number;
                }
            }
            return NO_TARGET;
        }

        int minutesUntilDone() {
            for (Target target : targets) {
                if (target.state == UNDER_WAY) {
                    return target.doneAt - time;
                }
            }
            return NOT_FOUND;
        }

        /** Returns the number of the new target, NO_TARGET if there is no room. */
        int append(int toAzimuth, int toElevation, int from, int to, int dwell, int priority) {
            int number = targets.length - targetsIn(EMPTY);
            if (number >= targets.length) {
                return NO_TARGET;
            }
            Target target = targets[number];
            target.azimuth = toAzimuth;
            target.elevation = toElevation;
            target.from = from;
            target.to = to;
            target.dwell = dwell;
            target.priority = priority;
            target.state = WAITING;
            target.breaks = 0;
            return number;
        }

        void remove(int number) {
            for (int i = Math.max(number, 0); i < targets.length - 1; i++) {
                targets[i].copyFrom(targets[i + 1]);
            }
            targets[targets.length - 1].state = EMPTY;
        }

        int reasonAgainst(Target target) {
            if (target.state != WAITING) {
                return 1;
            }
            if (numberUnderWay() != NO_TARGET) {
                return 2;
            }
            if (kindOfDay() == HOLD) {
                return 3;
            }
            if (time < target.from) {
                return 4;
            }
            Way rise = wayRise(target.elevation);
            if (!rise.possible) {
                return 5;
            }
            Way around = wayAround(target.azimuth);
            if (!around.possible) {
                return 6;
            }
            return time + Math.max(around.time, rise.time) + target.dwell > target.to ? 7 : 0;
        }

        int bestToBegin() {
            int best = NO_TARGET;
            for (int number = 0; number < targets.length; number++) {
                if (reasonAgainst(targets[number]) == 0
                        && (best == NO_TARGET || targets[number].isBetterThan(targets[best]))) {
                    best = number;
                }
            }
            return best;
        }

        // -- minutes

        void letPass(int minutes) {
            int first = time;
            int last = first + minutes;
            int wake = first;
            for (int minute = first; minute <= last; minute++) {
                if (minute >= wake) {
                    time = minute;
                    if (minute > first && minute % DAY_MINUTES == 0 && kindOfDay() == HOLD) {
                        beginHold();
                    }
                    endWhatIsOver();
                    int best = bestToBegin();
                    if (best != NO_TARGET) {
                        begin(targets[best]);
                    }
                    wake = nextEvent();
                }
            }
            time = last;
        }

        /** The next minute at which something can happen: until then neither reasons nor states change. */
        private int nextEvent() {
            int event = (day() + 1) * DAY_MINUTES;
            for (Target target : targets) {
                if (target.state == UNDER_WAY) {
                    event = sooner(event, target.slewedAt);
                    event = sooner(event, target.doneAt);
                } else if (target.state == WAITING) {
                    event = sooner(event, target.from);
                    event = sooner(event, target.to);
                }
            }
            return event;
        }

        private int sooner(int event, int minute) {
            return minute > time && minute < event ? minute : event;
        }

        private void beginHold() {
            holds++;
            for (Target target : targets) {
                if (target.state == UNDER_WAY) {
                    target.state = WAITING;
                    target.breaks++;
                }
            }
            elevation.moveTo(ELEVATION_MOST);
        }

        private void endWhatIsOver() {
            for (Target target : targets) {
                if (target.state == UNDER_WAY) {
                    goOnWith(target);
                }
            }
            for (Target target : targets) {
                if (target.state == WAITING && target.to <= time) {
                    target.state = MISSED;
                }
            }
        }

        private void goOnWith(Target target) {
            lookAtSlew(target);
            if (time >= target.doneAt) {
                target.state = DONE;
                target.error = azimuth.dish() - target.place;
            }
        }

        /** Once only: several runs may do the minute at which a slew is finished. */
        private void lookAtSlew(Target target) {
            if (target.slewLookedAt || time < target.slewedAt) {
                return;
            }
            target.slewLookedAt = true;
            if (kindOfDay() == PUSH) {
                azimuth.slack = day() % 2 == 0 ? 0 : azimuth.play;
            }
        }

        private void begin(Target target) {
            Way around = wayAround(target.azimuth);
            Way rise = wayRise(target.elevation);
            target.state = UNDER_WAY;
            target.place = around.place;
            target.begunAt = time;
            target.slewedAt = time + followWays(around, rise);
            target.doneAt = target.slewedAt + target.dwell;
            target.slewLookedAt = false;
            lookAtSlew(target);
        }
    }

    /** The states before the latest changes, the oldest one first. */
    private static final class History {
        final State[] states = new State[MAX_HISTORY];
        int size;

        History() {
            for (int i = 0; i < states.length; i++) {
                states[i] = new State();
            }
        }

        void record(State state) {
            if (size >= states.length) {
                dropOldest();
            }
            states[size].copyFrom(state);
            size++;
        }

        /** The room of the oldest state is kept for the next one. */
        private void dropOldest() {
            State oldest = states[0];
            for (int i = 0; i < states.length - 1; i++) {
                states[i] = states[i + 1];
            }
            states[states.length - 1] = oldest;
            size = states.length - 1;
        }

        void restoreLatest(State state) {
            if (size >= 1 && size <= states.length) {
                size--;
                state.copyFrom(states[size]);
            }
        }
    }

    /** The text, and what was read in it last. */
    private static final class TargetText {
        final char[] signs = new char[MAX_SIGNS];
        int length;
        final int[] numbers = new int[PARTS];
        int entries;
        int faultPlace;
        int faultReason;

        void append(char sign) {
            if (length < signs.length) {
                signs[length] = sign;
                length++;
            }
        }

        private char signAt(int place) {
            return place >= 0 && place < length && place < signs.length ? signs[place] : 0;
        }

        /** Counts the entries up to the first fault; a reason 0 means that there is none. */
        void check(int room) {
            entries = 0;
            faultReason = 0;
            int start = 0;
            for (int entry = 0; entry < MAX_SIGNS && start < length; entry++) {
                int end = readTarget(start);
                faultReason = reasonAgainstEntry(end, room);
                if (faultReason != 0) {
                    faultPlace = start;
                    return;
                }
                entries++;
                start = end;
            }
        }

        private int reasonAgainstEntry(int end, int room) {
            if (end == NO_FORM) {
                return FORM_FAULT;
            }
            if (!isTargetInRange(numbers[0], numbers[1], numbers[2], numbers[3], numbers[4], numbers[5])) {
                return RANGE_FAULT;
            }
            return entries >= room ? ROOM_FAULT : 0;
        }

        /** Reads the target that begins at start; returns where the next one begins, or NO_FORM. */
        int readTarget(int start) {
            int at = start;
            for (int part = 0; part < PRIORITY_PART; part++) {
                at = readPart(at, part);
            }
            numbers[PRIORITY_PART] = 0;
            if (signAt(at) == PART_LETTERS[PRIORITY_PART]) {
                at = readPart(at, PRIORITY_PART);
            }
            return signAt(at) == ';' ? at + 1 : NO_FORM;
        }

        /** Returns where the part ends, or NO_FORM, at which nothing can be read any more. */
        private int readPart(int start, int part) {
            if (signAt(start) != PART_LETTERS[part]) {
                return NO_FORM;
            }
            int number = 0;
            int digits = 0;
            while (digits < MAX_DIGITS && isDigit(signAt(start + 1 + digits))) {
                number = number * 10 + (signAt(start + 1 + digits) - '0');
                digits++;
            }
            numbers[part] = number;
            return digits == 0 ? NO_FORM : start + 1 + digits;
        }

        private static boolean isDigit(char sign) {
            return sign >= '0' && sign <= '9';
        }
    }
}
