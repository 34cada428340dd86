import java.util.ArrayList;
import java.util.List;
import java.util.Random;
import java.util.function.Supplier;

/** The boundary sentences of Terms 3 and of promises 15 and 16: runs that are tried, and the best plan. */
public final class BoundsOfPlansTest {
    private static final int NONE = RopeMountain.NONE;
    private static final int LEAST = Integer.MIN_VALUE;
    private static final int MOST = Integer.MAX_VALUE;
    private static final int[] FAR = {LEAST, LEAST + 1, -1000, 1000, MOST - 1, MOST};
    private static final int[] COUNTS = {4, 6, 7};

    public static void main(String[] args) {
        triesOfANewObject();
        triesTakesOneToThreeTeams();
        triesTakesHoursUpToTen();
        triesLooksAtHoursAskedAlone();
        triesKeepsTheOtherStarts();
        triesRefusesOthers();
        triesRunsOneHundredHours();
        triesBeginsAnew();
        planOfANewObject();
        planRefusesAnotherNumber();
        planTakesOneToThreeTeams();
        planBeginsAndKeepsTheRest();
        planTakesEvenHoursUpToTen();
        planTakesTheMostSummits();
        planTakesTheFewestStranded();
        planTakesTheFewestWaits();
        planOfTwelveStrandedByAllStarts();
        planTakesTheLessStart();
        planIsTheBestOfAllRuns();
        Check.end();
    }

    private static void due(String what, long got, long want) {
        Check.due(what, got, want);
    }

    /** A RUN in the words of Terms 3: begin(), those STARTS, 100 HOURS; summits, stranded, waits. */
    private static int[] runOf(Supplier<RopeMountain> make, int m, int... starts) {
        RopeMountain x = make.get();
        x.begin();
        for (int t = 0; t < m; t++) {
            x.team(t, 0, starts[t]);
        }
        x.run(100);
        int[] answers = new int[3];
        for (int what = 0; what < 3; what++) {
            answers[what] = x.count(COUNTS[what]);
        }
        return answers;
    }

    private static void dueTries(String where, Supplier<RopeMountain> make, int m, int... starts) {
        int[] want = runOf(make, m, starts);
        for (int what = 0; what < 3; what++) {
            String call = "tries(" + m + ", " + starts[0] + ", " + starts[1] + ", " + starts[2] + ", " + what + ")";
            due(where + ": " + call, make.get().tries(m, starts[0], starts[1], starts[2], what), want[what]);
        }
    }

    private static void triesOfANewObject() {
        for (int m = 1; m <= 3; m++) {
            for (int what = 0; what < 3; what++) {
                int teams = m;
                int asked = what;
                Twins.dueUnchanged("tries", RopeMountain::new, x -> x.tries(teams, 0, 5, 10, asked), 0);
                Twins.dueUnchanged("tries", Twins::told, x -> x.tries(teams, 10, 0, 1, asked), 0);
            }
        }
    }

    private static void triesTakesOneToThreeTeams() {
        for (int m = 1; m <= 3; m++) {
            int teams = m;
            int[] want = runOf(Twins::full, m, 3, 10, 0);
            for (int what = 0; what < 3; what++) {
                int asked = what;
                Twins.dueUnchanged("tries(" + m + ", 3, 10, 0, " + what + ")", Twins::full,
                    x -> x.tries(teams, 3, 10, 0, asked), want[what]);
            }
        }
    }

    private static void triesTakesHoursUpToTen() {
        for (int hour = 0; hour <= 10; hour++) {
            dueTries("hour of team 0", Twins::full, 1, hour, 0, 0);
            dueTries("hour of team 1", Twins::full, 2, 0, hour, 0);
            dueTries("hour of team 2", Twins::full, 3, 0, 0, hour);
            dueTries("hours of all", Twins::full, 3, hour, 10 - hour, hour);
        }
        // Each hour is a start of its own: it is calm in one hour for pitch 0 and in one for pitch 1.
        for (int hour = 0; hour <= 10; hour++) {
            for (int start = 0; start <= 10; start++) {
                RopeMountain x = new RopeMountain();
                x.climber(0, 0, 50);
                x.wind(0, 199, true);
                x.wind(hour, hour, false);
                x.wind(hour + 2, hour + 2, false);
                boolean isUp = start <= hour;
                due("start " + start + ", calm in " + hour, x.tries(1, start, 0, 0, 0), isUp ? 1 : 0);
            }
        }
    }

    private static void triesLooksAtHoursAskedAlone() {
        int[] one = runOf(Twins::full, 1, 4);
        int[] two = runOf(Twins::full, 2, 4, 6);
        int[] notAsked = {-1, 11, LEAST, MOST};
        for (int free : notAsked) {
            for (int what = 0; what < 3; what++) {
                due("one team: the rest is free", Twins.full().tries(1, 4, free, free, what), one[what]);
                due("two teams: the rest is free", Twins.full().tries(2, 4, 6, free, what), two[what]);
                due("three teams: none is free", Twins.full().tries(3, 4, 6, free, what), NONE);
                due("two teams: b is not free", Twins.full().tries(2, 4, free, 0, what), NONE);
                due("one team: a is not free", Twins.full().tries(1, free, 0, 0, what), NONE);
            }
        }
    }

    private static void triesKeepsTheOtherStarts() {
        for (int late = 0; late < 4; late++) {
            RopeMountain x = new RopeMountain();
            for (int t = 0; t < 4; t++) {
                x.climber(t, 0, 50);
            }
            // A start in hour 98 or later leaves no time to come to the top in 100 hours.
            x.team(late, 0, 98);
            for (int m = 1; m <= 3; m++) {
                due("late " + late + ", teams " + m, x.tries(m, 0, 0, 0, 0), late < m ? 4 : 3);
            }
            due("the start is as it was", x.team(late, 0, 98), 98);
        }
    }

    private static void triesRefusesOthers() {
        int[][] refused = {{0, 0, 0, 0, 0}, {4, 0, 0, 0, 0}, {-1, 0, 0, 0, 0}, {5, 0, 0, 0, 0}, {1, -1, 0, 0, 0},
            {1, 11, 0, 0, 0}, {2, 0, -1, 0, 0}, {2, 0, 11, 0, 0}, {3, 0, 0, -1, 0}, {3, 0, 0, 11, 0},
            {2, -1, 0, 0, 0}, {2, 11, 0, 0, 0}, {3, -1, 0, 0, 0}, {3, 11, 0, 0, 0}, {3, 0, -1, 0, 0},
            {3, 0, 11, 0, 0}, {1, 0, 0, 0, -1}, {1, 0, 0, 0, 3}, {3, 10, 10, 10, 3}, {2, 0, 0, 0, 4},
            {0, 11, 11, 11, 3}};
        for (int[] r : refused) {
            dueRefusedTries(r);
        }
        for (int far : FAR) {
            dueRefusedTries(new int[] {far, 0, 0, 0, 0});
            dueRefusedTries(new int[] {1, far, 0, 0, 0});
            dueRefusedTries(new int[] {2, 0, far, 0, 0});
            dueRefusedTries(new int[] {3, 0, 0, far, 0});
            dueRefusedTries(new int[] {1, 0, 0, 0, far});
            dueRefusedTries(new int[] {far, far, far, far, far});
        }
    }

    private static void dueRefusedTries(int[] r) {
        Twins.dueNone("tries(" + r[0] + ", " + r[1] + ", " + r[2] + ", " + r[3] + ", " + r[4] + ")",
            x -> x.tries(r[0], r[1], r[2], r[3], r[4]));
    }

    private static void triesRunsOneHundredHours() {
        // The top in hour 99 is within, in hour 100 it is not.
        for (int calm = 96; calm <= 99; calm++) {
            RopeMountain x = new RopeMountain();
            x.climber(0, 0, 200);
            x.wind(12, calm - 1, true);
            due("pitch 1 begun in hour " + calm, x.tries(1, 10, 0, 0, 0), calm + 2 <= 99 ? 1 : 0);
            // Camp 1 from hour 12 on; at the top in hour 98 it goes down in 99.
            due("waits up to hour " + calm, x.tries(1, 10, 0, 0, 2), calm - 12);
        }
        for (int breath = 86; breath <= 90; breath++) {
            RopeMountain x = new RopeMountain();
            x.climber(0, 0, breath);
            x.wind(12, 199, true);
            // Breath is one less from hour 12 on, and 0 behind hour 11 + breath.
            boolean isWithin = 11 + breath <= 99;
            due("stranded with breath " + breath, x.tries(1, 10, 0, 0, 1), isWithin ? 1 : 0);
            due("waits with breath " + breath, x.tries(1, 10, 0, 0, 2), isWithin ? breath - 1 : 88);
        }
    }

    private static void triesBeginsAnew() {
        int[] hours = {0, 1, 100, 200};
        for (int hour : hours) {
            RopeMountain x = Twins.full();
            x.begin();
            x.run(hour / 2);
            x.run(hour - hour / 2);
            int[] want = runOf(Twins::full, 3, 2, 4, 6);
            for (int what = 0; what < 3; what++) {
                due("tried in hour " + hour, x.tries(3, 2, 4, 6, what), want[what]);
            }
            due("the hour is as it was", x.count(2), hour);
        }
    }

    private static void dueStarts(String where, RopeMountain x, int... want) {
        for (int t = 0; t < want.length; t++) {
            due(where + ": start of " + t, x.team(t, 0, want[t]), want[t]);
        }
    }

    private static void planOfANewObject() {
        for (int m = 1; m <= 3; m++) {
            RopeMountain x = new RopeMountain();
            due("plan(" + m + ") of a new object", x.plan(m), 0);
            dueStarts("plan of a new object", x, 0, 0, 0, 0);
            RopeMountain y = Twins.told();
            due("plan(" + m + ") of one without climbers", y.plan(m), 0);
            dueStarts("plan without climbers", y, 0, m > 1 ? 0 : 5, m > 2 ? 0 : 10, 15);
            due("it begins", y.count(2), 0);
        }
    }

    private static void planRefusesAnotherNumber() {
        int[] refused = {0, 4, -1, 5, -3};
        for (int m : refused) {
            Twins.dueNone("plan(" + m + ")", x -> x.plan(m));
        }
        for (int m : FAR) {
            Twins.dueNone("plan(" + m + ")", x -> x.plan(m));
        }
    }

    private static void planTakesOneToThreeTeams() {
        for (int m = 1; m <= 3; m++) {
            RopeMountain x = new RopeMountain();
            for (int i = 0; i < 12; i++) {
                x.climber(i % 4, 0, 200);
            }
            x.pitch(0, 2, 6);
            x.pitch(1, 2, 6);
            for (int t = 0; t < 4; t++) {
                x.team(t, 0, 98);
            }
            // Who is not in the plan starts too late for the top.
            due("plan(" + m + ")", x.plan(m), 3 * m);
            dueStarts("plan(" + m + ")", x, 0, m > 1 ? 0 : 98, m > 2 ? 0 : 98, 98);
        }
    }

    private static void planBeginsAndKeepsTheRest() {
        RopeMountain x = Twins.full();
        due("plan(3)", x.plan(3), runOf(Twins::full, 3, startsOf(x, 3))[0]);
        int[] breath = {200, 9, 150, 60, 3, 40, 33, 0, 12, 120, 80, 1};
        for (int c = 0; c < 12; c++) {
            Check.dueOf("plan begins", x, c, 0, 0, 0, breath[c], NONE, 0, 0);
        }
        int[] counts = {3, 12, 0, 1, 0, 0, 0, 0};
        for (int what = 0; what < 8; what++) {
            due("plan begins: count(" + what + ")", x.count(what), counts[what]);
        }
        due("start of team 3", x.team(3, 0, 30), 30);
        int[] turn = {60, 16, 200, 40};
        for (int t = 0; t < 4; t++) {
            due("turn of " + t, x.team(t, 1, turn[t]), turn[t]);
        }
        // What is run then is the plan's run.
        int[] starts = startsOf(x, 3);
        int[] want = runOf(Twins::full, 3, starts);
        x.run(100);
        for (int what = 0; what < 3; what++) {
            due("its run: count(" + COUNTS[what] + ")", x.count(COUNTS[what]), want[what]);
        }
    }

    private static int[] startsOf(RopeMountain x, int m) {
        int[] starts = new int[m];
        for (int t = 0; t < m; t++) {
            starts[t] = x.team(t, 0, 0);
            x.team(t, 0, starts[t]);
        }
        return starts;
    }

    /**
     * One climber who comes to camp 1 in the 12th hour behind its start, and to the top only if it is calm then:
     * it has breath for no hour there. The start in that hour alone makes it so.
     */
    private static RopeMountain onlyInHour(int team, int hour) {
        RopeMountain x = new RopeMountain();
        x.pitch(0, 8, 1);
        x.climber(team, 4, 1);
        x.wind(12, 199, true);
        x.wind(hour + 12, hour + 12, false);
        return x;
    }

    private static void planTakesEvenHoursUpToTen() {
        for (int team = 0; team < 3; team++) {
            for (int hour = 0; hour <= 12; hour++) {
                boolean isPlanned = hour <= 10 && hour % 2 == 0;
                for (int m = team + 1; m <= 3; m++) {
                    RopeMountain x = onlyInHour(team, hour);
                    due("the top only by hour " + hour, x.plan(m), isPlanned ? 1 : 0);
                    // Else the last start ahead of it: not stranded, and the fewest waits.
                    int[] want = new int[4];
                    want[team] = Math.min(hour / 2 * 2, 10);
                    dueStarts("the top only by hour " + hour, x, want);
                }
                for (int tried = 0; tried <= 10; tried++) {
                    due("start " + tried + " for the top only by " + hour,
                        onlyInHour(team, hour).tries(3, tried, tried, tried, 0), tried == hour ? 1 : 0);
                }
            }
        }
    }

    /** Start 0: one at the top, all twelve stranded later; a later start: all turn back at the foot. */
    private static RopeMountain summitOrAllSafe(int breath) {
        RopeMountain x = new RopeMountain();
        x.pitch(0, 1, 6);
        x.pitch(1, 1, 1);
        for (int i = 0; i < 12; i++) {
            x.climber(0, 0, breath);
        }
        x.team(0, 1, 2);
        x.wind(2, 199, true);
        return x;
    }

    private static void planTakesTheMostSummits() {
        int[] breath = {1, 95};
        int[] waits = {5 * 6 + 6 * 6 + 5, 5 * 94 + 6 * 94 + 92};
        for (int k = 0; k < 2; k++) {
            RopeMountain x = summitOrAllSafe(breath[k]);
            due("one summit", x.tries(1, 0, 0, 0, 0), 1);
            due("twelve stranded", x.tries(1, 0, 0, 0, 1), 12);
            due("waits", x.tries(1, 0, 0, 0, 2), waits[k]);
            for (int start = 2; start <= 10; start += 2) {
                for (int what = 0; what < 3; what++) {
                    due("start " + start + " is safe", x.tries(1, start, 0, 0, what), 0);
                }
            }
            x.team(0, 0, 8);
            due("the most summits", x.plan(1), 1);
            dueStarts("the most summits", x, 0);
        }
    }

    private static void planTakesTheFewestStranded() {
        // Start 0: ten of team 0 wait above for long, and keep the one of team 3 at the foot, where it is safe.
        RopeMountain x = new RopeMountain();
        x.pitch(0, 2, 5);
        for (int i = 0; i < 11; i++) {
            x.climber(0, 0, 200);
        }
        x.climber(3, 0, 1);
        x.wind(2, 199, true);
        due("start 0: stranded", x.tries(1, 0, 0, 0, 1), 0);
        due("start 0: waits", x.tries(1, 0, 0, 0, 2), 5 * 98 + 5 * 97);
        for (int start = 2; start <= 10; start += 2) {
            due("start " + start + ": stranded", x.tries(1, start, 0, 0, 1), 1);
            due("start " + start + ": waits", x.tries(1, start, 0, 0, 2), 6);
        }
        x.team(0, 0, 4);
        due("no summits", x.plan(1), 0);
        dueStarts("the fewest stranded", x, 0, 0, 0, 0);
    }

    private static void planTakesTheFewestWaits() {
        // Start 0 waits at camp 1 for the wind's end; a start within the wind waits at the foot, where none counts.
        for (int last = 2; last <= 11; last++) {
            RopeMountain x = new RopeMountain();
            x.pitch(0, 2, 6);
            x.pitch(1, 2, 6);
            for (int i = 0; i < 12; i++) {
                x.climber(i < 6 ? 0 : 1, 0, 200);
            }
            x.team(1, 0, 60);
            x.wind(2, last, true);
            due("waits of start 0", x.tries(1, 0, 0, 0, 2), 6 * (last - 1));
            due("summits", x.plan(1), 12);
            dueStarts("wind 2 .. " + last, x, 2, 60);
        }
        RopeMountain y = new RopeMountain();
        y.climber(0, 0, 200);
        y.climber(0, 0, 200);
        y.pitch(0, 2, 2);
        y.wind(4, 4, true);
        // Start 0: one waits for the rope in hour 2, the other at the top in none; start 2: both in 4, one in 5.
        due("waits of 0", y.tries(1, 0, 0, 0, 2), 1);
        due("waits of 2", y.tries(1, 2, 0, 0, 2), 3);
        due("waits of 4", y.tries(1, 4, 0, 0, 2), 1);
        due("both at the top", y.plan(1), 2);
        dueStarts("the fewest waits, the less start", y, 0);
    }

    private static void planOfTwelveStrandedByAllStarts() {
        // The foot is high, and it is calm in hour 2 alone: who starts later is stranded there, without waits.
        RopeMountain x = new RopeMountain();
        x.high(0);
        x.pitch(0, 1, 6);
        for (int i = 0; i < 12; i++) {
            x.climber(0, 0, 20);
        }
        x.wind(0, 199, true);
        x.wind(2, 2, false);
        for (int start = 0; start <= 10; start += 2) {
            due("start " + start + ": no summits", x.tries(1, start, 0, 0, 0), 0);
            due("start " + start + ": all stranded", x.tries(1, start, 0, 0, 1), 12);
            due("start " + start + ": waits", x.tries(1, start, 0, 0, 2), start <= 2 ? 6 * 16 : 0);
        }
        due("no summits", x.plan(1), 0);
        dueStarts("all stranded: the fewest waits", x, 4);
    }

    private static void planTakesTheLessStart() {
        // Climbers that come to camp 1 together wait for one another there; two hours apart none waits.
        int[][] teams = {{0, 1, 2}, {2, 1, 0}, {1, 2, 0}};
        for (int[] order : teams) {
            RopeMountain x = new RopeMountain();
            x.pitch(0, 2, 3);
            for (int team : order) {
                x.climber(team, 0, 50);
                x.team(team, 0, 10);
            }
            due("all at the top", x.plan(3), 3);
            dueStarts("the less start of team 0, then of 1", x, 0, 2, 4, 0);
            for (int what = 1; what < 3; what++) {
                due("none stranded, no waits", x.tries(3, 4, 2, 0, what), 0);
                due("none stranded, no waits", x.tries(3, 0, 2, 4, what), 0);
                due("none stranded, no waits", x.tries(3, 0, 4, 2, what), 0);
            }
            due("together: waits", x.tries(3, 0, 0, 2, 2) > 0 ? 1 : 0, 1);
        }
        RopeMountain alone = new RopeMountain();
        alone.climber(2, 0, 50);
        alone.team(0, 0, 9);
        alone.team(1, 0, 8);
        alone.team(2, 0, 7);
        due("teams without climbers", alone.plan(3), 1);
        dueStarts("teams without climbers", alone, 0, 0, 0, 0);
    }

    /** Objects in which much is at stake: little breath, narrow ropes, wind within the starts. */
    private static RopeMountain harsh(int seed) {
        Random random = new Random(seed);
        RopeMountain x = new RopeMountain();
        int n = 1 + random.nextInt(4);
        x.mountain(n);
        x.high(random.nextInt(n + 1));
        for (int s = 0; s < n; s++) {
            x.pitch(s, 1 + random.nextInt(4), 1 + random.nextInt(3));
        }
        for (int t = 0; t < 4; t++) {
            x.team(t, 0, random.nextInt(14));
            x.team(t, 1, random.nextInt(4) == 0 ? random.nextInt(30) : 200);
        }
        int climbers = 1 + random.nextInt(12);
        for (int i = 0; i < climbers; i++) {
            x.climber(random.nextInt(4), random.nextInt(3), random.nextInt(4) == 0 ? 60 : random.nextInt(16));
        }
        for (int k = 0; k < 3; k++) {
            int from = random.nextInt(25);
            x.wind(from, from + random.nextInt(9), true);
        }
        x.run(random.nextInt(40));
        return x;
    }

    private static boolean isBetter(int[] run, int[] than) {
        if (run[0] != than[0]) {
            return run[0] > than[0];
        }
        return run[1] != than[1] ? run[1] < than[1] : run[2] < than[2];
    }

    /** All plans, the less start of team 0 first, then of team 1, then of team 2. */
    private static List<int[]> plansOf(int m) {
        List<int[]> plans = new ArrayList<>();
        for (int a = 0; a <= 10; a += 2) {
            for (int b = 0; b <= (m > 1 ? 10 : 0); b += 2) {
                for (int c = 0; c <= (m > 2 ? 10 : 0); c += 2) {
                    plans.add(new int[] {a, b, c});
                }
            }
        }
        return plans;
    }

    private static void planIsTheBestOfAllRuns() {
        for (int seed = 0; seed < 120; seed++) {
            int drawn = seed;
            int m = 1 + seed % 3;
            Supplier<RopeMountain> make = () -> harsh(drawn);
            int[] best = null;
            int[] starts = new int[m];
            for (int[] tried : plansOf(m)) {
                int[] run = runOf(make, m, tried);
                if (best == null || isBetter(run, best)) {
                    best = run;
                    System.arraycopy(tried, 0, starts, 0, m);
                }
            }
            RopeMountain x = make.get();
            due("plan(" + m + ") of seed " + seed, x.plan(m), best[0]);
            dueStarts("plan(" + m + ") of seed " + seed, x, starts);
            due("it begins", x.count(2), 0);
        }
    }
}
