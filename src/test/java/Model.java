import java.util.ArrayDeque;
import java.util.ArrayList;
import java.util.Comparator;
import java.util.Deque;
import java.util.List;
import java.util.Optional;
import java.util.regex.Matcher;
import java.util.regex.Pattern;

/**
 * The document once more, in its plainest form: every motor goes hundredth by hundredth, every
 * minute is done, and every state is copied. ModelTest compares the program with it.
 */
final class Model {
    private static final int INVALID = -100001;
    private static final int NOT_POSSIBLE = -100002;
    private static final int LIMIT = -100003;
    private static final int NOT_FOUND = -100004;

    private World world = new World();
    private final Deque<World> history = new ArrayDeque<>();
    private final StringBuilder text = new StringBuilder();

    private static final class Motor {
        int low;
        int high;
        int start;
        int at;
        int play;
        int slack;
        int side;
        int speed;
        int ups;
        int downs;

        Motor copy() {
            Motor m = new Motor();
            m.low = low;
            m.high = high;
            m.start = start;
            m.at = at;
            m.play = play;
            m.slack = slack;
            m.side = side;
            m.speed = speed;
            m.ups = ups;
            m.downs = downs;
            return m;
        }

        void go(int place) {
            while (at < place) {
                at++;
                ups++;
                if (slack < play) {
                    slack++;
                }
            }
            while (at > place) {
                at--;
                downs++;
                if (slack > 0) {
                    slack--;
                }
            }
        }
    }

    /** The places to which a motor goes, one behind the other. */
    private record Path(int place, List<Integer> stops, int from, int low, int high, int speed) {
        boolean possible() {
            return stops.stream().allMatch(stop -> stop >= low && stop <= high);
        }

        int length() {
            int sum = 0;
            int at = from;
            for (int stop : stops) {
                sum += Math.abs(stop - at);
                at = stop;
            }
            return sum;
        }

        int time() {
            int minutes = 0;
            while ((long) minutes * speed < length()) {
                minutes++;
            }
            return minutes;
        }
    }

    private static final class Aim {
        int azimuth;
        int elevation;
        int from;
        int to;
        int dwell;
        int priority;
        String state = "waits";
        int begun;
        int slewed;
        int done;
        boolean looked;
        int error;
        int broken;
        int place;

        Aim copy() {
            Aim a = new Aim();
            a.azimuth = azimuth;
            a.elevation = elevation;
            a.from = from;
            a.to = to;
            a.dwell = dwell;
            a.priority = priority;
            a.state = state;
            a.begun = begun;
            a.slewed = slewed;
            a.done = done;
            a.looked = looked;
            a.error = error;
            a.broken = broken;
            a.place = place;
            return a;
        }
    }

    private static final class World {
        Motor[] motors = {new Motor(), new Motor()};
        int[] settings = {100, 18000, 30, 60};
        int[] gusts = new int[31];
        List<Aim> aims = new ArrayList<>();
        int time;
        int slews;
        int holds;

        World() {
            motors[0].low = -27000;
            motors[0].high = 27000;
            motors[0].play = 40;
            motors[0].speed = 600;
            motors[1].low = 500;
            motors[1].high = 9000;
            motors[1].start = 9000;
            motors[1].at = 9000;
            motors[1].play = 20;
            motors[1].speed = 300;
        }

        World copy() {
            World w = new World();
            w.motors = new Motor[] {motors[0].copy(), motors[1].copy()};
            w.settings = settings.clone();
            w.gusts = gusts.clone();
            aims.forEach(aim -> w.aims.add(aim.copy()));
            w.time = time;
            w.slews = slews;
            w.holds = holds;
            return w;
        }

        boolean isHold() {
            return gusts[time / 1440] >= settings[3];
        }

        boolean isPush() {
            return !isHold() && gusts[time / 1440] >= settings[2];
        }

        Path path(int axis, int t) {
            Motor m = motors[axis];
            int dish = m.at - m.slack;
            List<Integer> stops = new ArrayList<>();
            if (m.side == 0) {
                if (dish < t) {
                    stops.add(t + m.play);
                } else if (dish > t) {
                    stops.add(t);
                }
            } else if (m.side == 1) {
                if (dish < t) {
                    stops.add(t + m.play);
                } else if (!(dish == t && m.slack == m.play)) {
                    stops.add(t - settings[0]);
                    stops.add(t + m.play);
                }
            } else {
                if (dish > t) {
                    stops.add(t);
                } else if (!(dish == t && m.slack == 0)) {
                    stops.add(t + m.play + settings[0]);
                    stops.add(t);
                }
            }
            return new Path(t, stops, m.at, m.low, m.high, m.speed);
        }

        Optional<Path> around(int z) {
            List<Path> paths = new ArrayList<>(List.of(path(0, z), path(0, z - 36000)));
            paths.removeIf(path -> !path.possible());
            Comparator<Path> windFirst =
                Comparator.comparingInt(path -> path.place() >= -settings[1] && path.place() <= settings[1] ? 0 : 1);
            return paths.stream().min(windFirst
                .thenComparingInt(Path::length)
                .thenComparingInt(path -> Math.abs(path.place()))
                .thenComparingInt(Path::place));
        }

        int slew(Path around, Path rise) {
            around.stops().forEach(stop -> motors[0].go(stop));
            rise.stops().forEach(stop -> motors[1].go(stop));
            slews++;
            return Math.max(around.time(), rise.time());
        }

        Optional<Aim> underWay() {
            return aims.stream().filter(aim -> aim.state.equals("under way")).findFirst();
        }

        int number(String state) {
            return (int) aims.stream().filter(aim -> aim.state.equals(state)).count();
        }

        int why(Aim aim) {
            if (!aim.state.equals("waits")) {
                return 1;
            }
            if (underWay().isPresent()) {
                return 2;
            }
            if (isHold()) {
                return 3;
            }
            if (time < aim.from) {
                return 4;
            }
            Path rise = path(1, aim.elevation);
            if (!rise.possible()) {
                return 5;
            }
            Optional<Path> around = around(aim.azimuth);
            if (around.isEmpty()) {
                return 6;
            }
            int end = time + Math.max(around.get().time(), rise.time()) + aim.dwell;
            return end > aim.to ? 7 : 0;
        }

        Optional<Aim> next() {
            Comparator<Aim> priorityFirst = Comparator.comparingInt(aim -> -aim.priority);
            return aims.stream().filter(aim -> why(aim) == 0)
                .min(priorityFirst.thenComparingInt(aim -> aim.to).thenComparingInt(aims::indexOf));
        }

        void push() {
            if (isPush()) {
                motors[0].slack = time / 1440 % 2 == 0 ? 0 : motors[0].play;
            }
        }

        void minute() {
            underWay().ifPresent(aim -> {
                if (aim.slewed == time && !aim.looked) {
                    aim.looked = true;
                    push();
                }
                if (aim.done == time) {
                    aim.state = "done";
                    aim.error = motors[0].at - motors[0].slack - aim.place;
                }
            });
            for (Aim aim : aims) {
                if (aim.state.equals("waits") && aim.to <= time) {
                    aim.state = "missed";
                }
            }
            next().ifPresent(aim -> {
                Path around = around(aim.azimuth).get();
                Path rise = path(1, aim.elevation);
                int slewTime = slew(around, rise);
                aim.state = "under way";
                aim.place = around.place();
                aim.begun = time;
                aim.slewed = time + slewTime;
                aim.done = time + slewTime + aim.dwell;
                aim.looked = slewTime == 0;
                if (aim.looked) {
                    push();
                }
            });
        }

        void run(int minutes) {
            minute();
            for (int i = 0; i < minutes; i++) {
                time++;
                if (time % 1440 == 0 && isHold()) {
                    holds++;
                    underWay().ifPresent(aim -> {
                        aim.state = "waits";
                        aim.broken++;
                    });
                    motors[1].go(9000);
                }
                minute();
            }
        }
    }

    private static boolean in(int value, int low, int high) {
        return low <= value && value <= high;
    }

    private void change() {
        history.addLast(world.copy());
        if (history.size() == 6) {
            history.removeFirst();
        }
    }

    int set(int what, int value) {
        if (!in(what, 0, 3) || !in(value, 0, new int[] {500, 27000, 100, 100}[what])) {
            return INVALID;
        }
        change();
        int previous = world.settings[what];
        world.settings[what] = value;
        return previous;
    }

    int setAxis(int axis, int what, int value) {
        if (!in(axis, 0, 1)) {
            return INVALID;
        }
        Motor m = world.motors[axis];
        int previous;
        if (what == 0 && in(value, 0, 300)) {
            change();
            previous = m.play;
            m.play = value;
            if (m.slack > value) {
                m.slack = value;
            }
        } else if (what == 1 && in(value, 0, 2)) {
            change();
            previous = m.side;
            m.side = value;
        } else if (what == 2 && in(value, 1, 2000)) {
            change();
            previous = m.speed;
            m.speed = value;
        } else {
            return INVALID;
        }
        return previous;
    }

    int gust(int day, int gust) {
        if (!in(day, 0, 29) || !in(gust, 0, 99)) {
            return INVALID;
        }
        if (1440 * day < world.time) {
            return NOT_POSSIBLE;
        }
        change();
        int previous = world.gusts[day];
        world.gusts[day] = gust;
        return previous;
    }

    int count(int what) {
        if (!in(what, 0, 18)) {
            return INVALID;
        }
        int dish = world.motors[0].at - world.motors[0].slack;
        int[] answers = {world.time, world.time / 1440, world.gusts[world.time / 1440],
            world.isHold() ? 0 : world.isPush() ? 1 : 2, world.aims.size(), world.number("waits"),
            world.number("done"), world.number("missed"),
            world.underWay().map(world.aims::indexOf).orElse(NOT_FOUND),
            world.underWay().map(aim -> aim.done - world.time).orElse(NOT_FOUND),
            history.size(), text.length(), world.settings[0], world.settings[1], world.settings[2],
            world.settings[3], world.slews, world.holds, (dish + 72000) % 36000};
        return answers[what];
    }

    int axis(int axis, int what) {
        if (!in(axis, 0, 1) || !in(what, 0, 8)) {
            return INVALID;
        }
        Motor m = world.motors[axis];
        return new int[] {m.play, m.side, m.speed, m.at, m.slack, m.at - m.slack, m.ups, m.downs,
            m.start + m.ups - m.downs}[what];
    }

    int way(int axis, int place, int what) {
        if (!in(axis, 0, 1) || !in(place, -27000, 27000) || !in(what, 0, 3)) {
            return INVALID;
        }
        Path path = world.path(axis, place);
        if (!path.possible()) {
            return NOT_FOUND;
        }
        List<Integer> stops = path.stops();
        return switch (what) {
            case 0 -> stops.isEmpty() ? path.from() : stops.get(stops.size() - 1);
            case 1 -> path.length();
            case 2 -> path.time();
            default -> stops.size() == 2 ? stops.get(0) : NOT_FOUND;
        };
    }

    int placeFor(int azimuth) {
        if (!in(azimuth, 0, 35999)) {
            return INVALID;
        }
        return world.around(azimuth).map(Path::place).orElse(NOT_FOUND);
    }

    int slew(int azimuth, int elevation) {
        if (!in(azimuth, 0, 35999) || !in(elevation, 500, 9000)) {
            return INVALID;
        }
        Optional<Path> around = world.around(azimuth);
        Path rise = world.path(1, elevation);
        if (world.underWay().isPresent() || world.isHold() || around.isEmpty() || !rise.possible()) {
            return NOT_POSSIBLE;
        }
        change();
        return world.slew(around.get(), rise);
    }

    int isWound() {
        return in(world.motors[0].at, -world.settings[1], world.settings[1]) ? 0 : 1;
    }

    private static boolean possible(int azimuth, int elevation, int from, int to, int dwell, int priority) {
        return in(azimuth, 0, 35999) && in(elevation, 500, 8500) && in(from, 0, 43200) && in(to, 0, 43200)
            && to > from && in(dwell, 1, 600) && in(priority, 0, 9);
    }

    private int append(int azimuth, int elevation, int from, int to, int dwell, int priority) {
        Aim aim = new Aim();
        aim.azimuth = azimuth;
        aim.elevation = elevation;
        aim.from = from;
        aim.to = to;
        aim.dwell = dwell;
        aim.priority = priority;
        world.aims.add(aim);
        return world.aims.size() - 1;
    }

    int add(int azimuth, int elevation, int from, int to, int dwell, int priority) {
        if (!possible(azimuth, elevation, from, to, dwell, priority)) {
            return INVALID;
        }
        if (world.aims.size() == 10) {
            return LIMIT;
        }
        change();
        return append(azimuth, elevation, from, to, dwell, priority);
    }

    int drop(int target) {
        if (!in(target, 0, world.aims.size() - 1)) {
            return INVALID;
        }
        if (world.aims.get(target).state.equals("under way")) {
            return NOT_POSSIBLE;
        }
        change();
        world.aims.remove(target);
        return world.aims.size();
    }

    int target(int target, int what) {
        if (!in(target, 0, world.aims.size() - 1) || !in(what, 0, 12)) {
            return INVALID;
        }
        Aim aim = world.aims.get(target);
        boolean done = aim.state.equals("done");
        boolean begun = done || aim.state.equals("under way");
        return new int[] {aim.azimuth, aim.elevation, aim.from, aim.to, aim.dwell, aim.priority,
            List.of("waits", "under way", "done", "missed").indexOf(aim.state),
            begun ? aim.begun : NOT_FOUND, begun ? aim.slewed : NOT_FOUND, begun ? aim.done : NOT_FOUND,
            done ? aim.error : NOT_FOUND, aim.broken, begun ? aim.place : NOT_FOUND}[what];
    }

    int why(int target) {
        return in(target, 0, world.aims.size() - 1) ? world.why(world.aims.get(target)) : INVALID;
    }

    int next() {
        return world.next().map(world.aims::indexOf).orElse(NOT_FOUND);
    }

    int run(int minutes) {
        if (!in(minutes, 0, 2000)) {
            return INVALID;
        }
        if (world.time + minutes > 43200) {
            return LIMIT;
        }
        change();
        int before = world.number("done");
        world.run(minutes);
        return world.number("done") - before;
    }

    int ifRun(int minutes) {
        if (!in(minutes, 0, 2000)) {
            return INVALID;
        }
        if (world.time + minutes > 43200) {
            return LIMIT;
        }
        World other = world.copy();
        other.run(minutes);
        return other.number("done");
    }

    int undo() {
        if (history.isEmpty()) {
            return NOT_POSSIBLE;
        }
        world = history.removeLast();
        return history.size();
    }

    int type(int character) {
        if (!in(character, 32, 126)) {
            return INVALID;
        }
        if (text.length() == 100) {
            return LIMIT;
        }
        return text.append((char) character).length();
    }

    int clearText() {
        int length = text.length();
        text.setLength(0);
        return length;
    }

    private static final Pattern TARGET = Pattern.compile(
        "a([0-9]{1,5})e([0-9]{1,5})f([0-9]{1,5})t([0-9]{1,5})d([0-9]{1,5})(?:p([0-9]{1,5}))?;");

    /** The numbers of all targets in the text, or the place and the reason of its fault. */
    private int[] read(List<int[]> targets) {
        String rest = text.toString();
        int place = 0;
        while (!rest.isEmpty()) {
            Matcher matcher = TARGET.matcher(rest);
            if (!matcher.lookingAt()) {
                return new int[] {place, 1};
            }
            int[] n = new int[6];
            for (int i = 0; i < 6; i++) {
                n[i] = matcher.group(i + 1) == null ? 0 : Integer.parseInt(matcher.group(i + 1));
            }
            if (!possible(n[0], n[1], n[2], n[3], n[4], n[5])) {
                return new int[] {place, 2};
            }
            if (world.aims.size() + targets.size() == 10) {
                return new int[] {place, 3};
            }
            targets.add(n);
            place += matcher.end();
            rest = rest.substring(matcher.end());
        }
        return null;
    }

    int fault(int what) {
        if (!in(what, 0, 1)) {
            return INVALID;
        }
        int[] found = read(new ArrayList<>());
        return found == null ? NOT_FOUND : found[what];
    }

    int enter() {
        List<int[]> targets = new ArrayList<>();
        if (read(targets) != null) {
            return NOT_POSSIBLE;
        }
        change();
        targets.forEach(n -> append(n[0], n[1], n[2], n[3], n[4], n[5]));
        return targets.size();
    }
}
