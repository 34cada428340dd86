import java.util.ArrayList;
import java.util.Comparator;
import java.util.List;
import java.util.NoSuchElementException;
import java.util.Random;

/** Long runs of calls drawn from a fixed seed, each answer beside that of a slow model written from the Terms. */
public final class ModelTest {
    private static final int NONE = RopeMountain.NONE;
    private static final int THROWS = -99;
    private static final int OBJECTS = 400;
    private static final int CALLS = 512;

    private final Random random;
    private final RopeMountain x = new RopeMountain();
    private final Model model = new Model();
    private final int run;

    private ModelTest(int run) {
        this.run = run;
        this.random = new Random(1000L + run);
    }

    public static void main(String[] args) {
        for (int run = 0; run < OBJECTS && Check.isClean(); run++) {
            ModelTest t = new ModelTest(run);
            t.setUp();
            for (int k = 0; k < CALLS - 40 && Check.isClean(); k++) {
                t.callAny();
            }
        }
        Check.end();
    }

    private int upTo(int most) {
        return random.nextInt(most + 1);
    }

    /** Mostly within the bounds, at times just outside. */
    private int around(int least, int most) {
        int out = random.nextInt(24);
        if (out == 0) {
            return least - 1;
        }
        if (out == 1) {
            return most + 1;
        }
        return least + upTo(most - least);
    }

    private void due(String call, long got, long want) {
        Check.due("run " + run + ": " + call, got, want);
    }

    private void setUp() {
        mountain(1 + upTo(5));
        high(upTo(model.n));
        int climbers = upTo(12);
        for (int i = 0; i < climbers; i++) {
            climber(upTo(3), upTo(4), upTo(random.nextBoolean() ? 8 : 60));
        }
        for (int i = 0; i < 6; i++) {
            pitch(upTo(5), 1 + upTo(4), 1 + upTo(2));
        }
        windAny();
        windAny();
    }

    private void callAny() {
        int kind = random.nextInt(100);
        if (kind < 30) {
            runHours(kind < 20 ? upTo(6) : around(0, 20));
        } else if (kind < 55) {
            lookAtAll();
        } else if (kind < 58) {
            windAny();
        } else if (kind < 64) {
            team(around(0, 3), around(0, 1), upTo(1) == 0 ? upTo(20) : around(0, 201));
        } else if (kind < 67) {
            climber(around(0, 3), around(0, 4), upTo(2) == 0 ? around(0, 200) : upTo(12));
        } else if (kind < 70) {
            due("begin()", x.begin(), model.begin());
        } else if (kind < 73) {
            high(around(0, model.n));
        } else if (kind < 78) {
            pitch(around(0, 5), around(1, 8), around(1, 6));
        } else if (kind < 79) {
            mountain(around(1, 6));
        } else if (kind < 85) {
            tries(around(1, 3), around(0, 10), around(0, 10), around(0, 10), around(0, 2));
        } else if (kind < 86) {
            plan(upTo(9) == 0 ? around(1, 3) : around(1, 2));
        } else {
            bottles(around(0, model.n), around(0, 200), around(0, 2000));
        }
    }

    private void mountain(int n) {
        due("mountain(" + n + ")", x.mountain(n) ? 1 : 0, model.mountain(n) ? 1 : 0);
    }

    private void pitch(int s, int length, int width) {
        due("pitch(" + s + ", " + length + ", " + width + ")",
            x.pitch(s, length, width) ? 1 : 0, model.pitch(s, length, width) ? 1 : 0);
    }

    private void high(int camp) {
        due("high(" + camp + ")", x.high(camp), model.high(camp));
    }

    private void windAny() {
        int from = upTo(2) == 0 ? around(0, 199) : upTo(30);
        int to = from + upTo(9) - 1;
        boolean is = upTo(2) > 0;
        due("wind(" + from + ", " + to + ", " + is + ")",
            x.wind(from, to, is) ? 1 : 0, model.wind(from, to, is) ? 1 : 0);
    }

    private void climber(int team, int pace, int breath) {
        due("climber(" + team + ", " + pace + ", " + breath + ")",
            x.climber(team, pace, breath), model.climber(team, pace, breath));
    }

    private void team(int team, int what, int v) {
        due("team(" + team + ", " + what + ", " + v + ")", x.team(team, what, v), model.team(team, what, v));
    }

    private void runHours(int n) {
        due("run(" + n + ")", x.run(n), model.run(n));
    }

    private void tries(int m, int a, int b, int c, int what) {
        due("tries(" + m + ", " + a + ", " + b + ", " + c + ", " + what + ")",
            x.tries(m, a, b, c, what), model.tries(m, a, b, c, what));
    }

    private void plan(int m) {
        due("plan(" + m + ")", x.plan(m), model.plan(m));
        for (int t = 0; t < 4; t++) {
            team(t, 0, upTo(4) == 0 ? upTo(9) : model.start[t]);
        }
    }

    private void bottles(int camp, int b, int leaving) {
        due("need(" + camp + ", " + b + ")", x.need(camp, b), model.need(camp, b));
        due("comes(" + camp + ", " + leaving + ")", x.comes(camp, leaving), model.comes(camp, leaving));
    }

    private void lookAtAll() {
        for (int what = -1; what <= 8; what++) {
            due("count(" + what + ")", x.count(what), model.count(what));
        }
        for (int c = -1; c <= model.climbers.size(); c++) {
            for (int what = -1; what <= 7; what++) {
                due("of(" + c + ", " + what + ")", askOf(c, what), model.of(c, what));
            }
            due("fetch(" + c + ")", x.fetch(c), model.fetch(c));
        }
        for (int p = -1; p <= 7; p++) {
            due("on(" + p + ")", x.on(p), model.on(p));
            due("at(" + p + ")", x.at(p), model.at(p));
        }
    }

    private int askOf(int c, int what) {
        try {
            return x.of(c, what);
        } catch (NoSuchElementException e) {
            return THROWS;
        }
    }

    private static final class Climber {
        int number;
        int team;
        int pace;
        int told;
        int breath;
        int state;
        /** The camp it is at, or NONE on a pitch. */
        int camp;
        int from;
        int to;
        int left;
        int since;
        int summit;
        int waits;

        void toFoot(int hour) {
            breath = told;
            state = 0;
            camp = 0;
            left = 0;
            since = hour;
            summit = NONE;
            waits = 0;
        }

        int pitch() {
            return Math.min(from, to);
        }
    }

    /** Words of the Terms one by one; slow, and not shared with the class in any line. */
    private static final class Model {
        int n = 2;
        int high = 1;
        int hour = 0;
        int[] length = {2, 2, 2, 2, 2, 2};
        int[] width = {1, 1, 1, 1, 1, 1};
        boolean[] windy = new boolean[200];
        int[] start = {0, 0, 0, 0};
        int[] turn = {200, 200, 200, 200};
        List<Climber> climbers = new ArrayList<>();

        boolean mountain(int count) {
            if (count < 1 || count > 6) {
                return false;
            }
            n = count;
            length = new int[] {2, 2, 2, 2, 2, 2};
            width = new int[] {1, 1, 1, 1, 1, 1};
            if (high > n) {
                high = n;
            }
            begin();
            return true;
        }

        boolean pitch(int s, int l, int w) {
            if (s < 0 || s >= n || l < 1 || l > 8 || w < 1 || w > 6) {
                return false;
            }
            length[s] = l;
            width[s] = w;
            return true;
        }

        int high(int camp) {
            if (camp < 0 || camp > n) {
                return NONE;
            }
            int was = high;
            high = camp;
            return was;
        }

        boolean wind(int from, int to, boolean is) {
            if (from < 0 || from > 199 || to < 0 || to > 199 || from > to) {
                return false;
            }
            for (int h = from; h <= to; h++) {
                windy[h] = is;
            }
            return true;
        }

        int climber(int team, int pace, int breath) {
            if (team < 0 || team > 3 || pace < 0 || pace > 4 || breath < 0 || breath > 200
                    || climbers.size() == 12) {
                return NONE;
            }
            Climber c = new Climber();
            c.number = climbers.size();
            c.team = team;
            c.pace = pace;
            c.told = breath;
            c.toFoot(hour);
            climbers.add(c);
            return c.number;
        }

        int team(int team, int what, int v) {
            if (team < 0 || team > 3 || what < 0 || what > 1 || v < 0 || v > (what == 0 ? 100 : 200)) {
                return NONE;
            }
            int was = what == 0 ? start[team] : turn[team];
            if (what == 0) {
                start[team] = v;
            } else {
                turn[team] = v;
            }
            return was;
        }

        int begin() {
            hour = 0;
            for (Climber c : climbers) {
                c.toFoot(0);
            }
            return climbers.size();
        }

        int run(int count) {
            if (count < 0 || count > 100) {
                return NONE;
            }
            for (int k = 0; k < count; k++) {
                if (hour < 200) {
                    anHour();
                }
            }
            return hour;
        }

        void anHour() {
            for (Climber c : climbers) {
                if (c.camp == NONE) {
                    c.left--;
                    if (c.left == 0) {
                        c.camp = c.to;
                        c.since = hour;
                    }
                }
            }
            for (Climber c : climbers) {
                if (c.camp != NONE) {
                    stepTwo(c);
                }
            }
            for (int s = n - 1; s >= 0; s--) {
                stepThree(s);
            }
            for (Climber c : climbers) {
                stepFour(c);
            }
            for (Climber c : climbers) {
                if (c.camp > 0 && (c.state == 0 || c.state == 2)) {
                    c.waits++;
                }
            }
            hour++;
        }

        void stepTwo(Climber c) {
            boolean late = !(hour < turn[c.team]) && !(hour < start[c.team]);
            if (c.camp == n && c.state == 0) {
                c.state = 1;
                if (c.summit == NONE) {
                    c.summit = hour;
                }
            } else if (c.state == 0 || (c.state == 1 && c.since < hour)) {
                if (c.camp == n || late || c.breath == 0) {
                    c.state = 2;
                }
            }
            if (c.state == 2 && c.camp == 0) {
                c.state = 3;
            }
        }

        void stepThree(int s) {
            if (windy[hour]) {
                return;
            }
            List<Climber> down = new ArrayList<>();
            List<Climber> up = new ArrayList<>();
            for (Climber c : climbers) {
                if (c.camp == s + 1 && c.state == 2) {
                    down.add(c);
                } else if (c.camp == s && c.state == 0 && (s > 0 || hour >= start[c.team])) {
                    up.add(c);
                }
            }
            Comparator<Climber> order = Comparator.<Climber>comparingInt(c -> c.since)
                .thenComparingInt(c -> c.number);
            down.sort(order);
            up.sort(order);
            List<Climber> line = new ArrayList<>(down);
            line.addAll(up);
            for (Climber c : line.subList(0, Math.min(width[s], line.size()))) {
                int takes = c.state == 0 ? length[s] + c.pace : length[s];
                c.left = c.breath == 0 ? takes + takes : takes;
                c.from = c.camp;
                c.to = c.state == 0 ? s + 1 : s;
                c.camp = NONE;
            }
        }

        void stepFour(Climber c) {
            if (c.camp == NONE) {
                if (c.pitch() >= high && c.breath > 0) {
                    c.breath--;
                }
                return;
            }
            if (c.camp < high || c.state == 3) {
                return;
            }
            if (c.breath > 0) {
                c.breath--;
            }
            if (c.breath == 0 && hour - c.since >= 6) {
                c.state = 4;
            }
        }

        int count(int what) {
            int summits = 0;
            int home = 0;
            int stranded = 0;
            int waits = 0;
            for (Climber c : climbers) {
                summits += c.summit >= 0 ? 1 : 0;
                home += c.state == 3 ? 1 : 0;
                stranded += c.state == 4 ? 1 : 0;
                waits += c.waits;
            }
            int[] answers = {n, climbers.size(), hour, high, summits, home, stranded, waits};
            return what < 0 || what > 7 ? NONE : answers[what];
        }

        int of(int number, int what) {
            if (number < 0 || number >= climbers.size() || what < 0 || what > 6) {
                return THROWS;
            }
            Climber c = climbers.get(number);
            boolean at = c.camp != NONE;
            int[] answers = {c.state, at ? c.camp : c.from, at ? 0 : c.left, c.breath, c.summit, c.waits,
                at ? c.since : NONE};
            return answers[what];
        }

        int on(int s) {
            return s < 0 || s >= n ? NONE
                : (int) climbers.stream().filter(c -> c.camp == NONE && c.pitch() == s).count();
        }

        int at(int camp) {
            return camp < 0 || camp > n ? NONE
                : (int) climbers.stream().filter(c -> c.camp == camp).count();
        }

        int fetch(int number) {
            if (number < 0 || number >= climbers.size() || climbers.get(number).state != 4) {
                return NONE;
            }
            int there = climbers.get(number).camp;
            int best = NONE;
            int fewest = Integer.MAX_VALUE;
            for (Climber c : climbers) {
                if (c.camp == NONE || c.state == 3 || c.state == 4) {
                    continue;
                }
                int all = 0;
                int highOnes = 0;
                for (int s = 0; s < n; s++) {
                    boolean isUp = c.camp <= s && s < there;
                    boolean isDown = there <= s && s < c.camp;
                    int hours = isUp ? length[s] + c.pace : isDown ? length[s] : 0;
                    all += hours;
                    highOnes += s >= high ? hours : 0;
                }
                if (c.breath >= 2 * highOnes && all < fewest) {
                    best = c.number;
                    fewest = all;
                }
            }
            return best;
        }

        /** A run on a copy: summits, stranded, waits. */
        int[] result(int[] starts) {
            Model copy = new Model();
            copy.n = n;
            copy.high = high;
            copy.length = length;
            copy.width = width;
            copy.windy = windy;
            copy.turn = turn;
            copy.start = starts;
            for (Climber c : climbers) {
                copy.climber(c.team, c.pace, c.told);
            }
            copy.run(100);
            return new int[] {copy.count(4), copy.count(6), copy.count(7)};
        }

        int tries(int m, int a, int b, int c, int what) {
            int[] hours = {a, b, c};
            int[] starts = start.clone();
            if (m < 1 || m > 3 || what < 0 || what > 2) {
                return NONE;
            }
            for (int t = 0; t < m; t++) {
                if (hours[t] < 0 || hours[t] > 10) {
                    return NONE;
                }
                starts[t] = hours[t];
            }
            return result(starts)[what];
        }

        int plan(int m) {
            if (m < 1 || m > 3) {
                return NONE;
            }
            List<int[]> plans = new ArrayList<>();
            for (int a = 0; a <= 10; a += 2) {
                for (int b = 0; b <= (m > 1 ? 10 : 0); b += 2) {
                    for (int c = 0; c <= (m > 2 ? 10 : 0); c += 2) {
                        plans.add(new int[] {a, m > 1 ? b : start[1], m > 2 ? c : start[2], start[3]});
                    }
                }
            }
            int[] best = null;
            int[] bestResult = null;
            for (int[] p : plans) {
                int[] r = result(p);
                if (best == null || isBetter(r, bestResult)) {
                    best = p;
                    bestResult = r;
                }
            }
            start = best;
            begin();
            return bestResult[0];
        }

        boolean isBetter(int[] r, int[] than) {
            if (r[0] != than[0]) {
                return r[0] > than[0];
            }
            return r[1] != than[1] ? r[1] < than[1] : r[2] < than[2];
        }

        /** The most that come over one high pitch with 0 .. b: each load by load. */
        int[] mostOver(int b) {
            int[] most = new int[b + 1];
            for (int have = 1; have <= b; have++) {
                most[have] = most[have - 1];
                for (int load = 1; load <= 4 && load <= have; load++) {
                    most[have] = Math.max(most[have], most[have - load] + load - 1);
                }
            }
            return most;
        }

        int comes(int camp, int b) {
            if (camp < 0 || camp > n || b < 0 || b > 2000) {
                return NONE;
            }
            int[] most = mostOver(b);
            int bottles = b;
            for (int s = 0; s < camp; s++) {
                bottles = s >= high ? most[bottles] : bottles;
            }
            return bottles;
        }

        int need(int camp, int b) {
            if (camp < 0 || camp > n || b < 0 || b > 200) {
                return NONE;
            }
            int[] most = mostOver(2000);
            for (int leave = 0; leave <= 2000; leave++) {
                int bottles = leave;
                for (int s = 0; s < camp; s++) {
                    bottles = s >= high ? most[bottles] : bottles;
                }
                if (bottles >= b) {
                    return leave;
                }
            }
            return NONE;
        }
    }
}
