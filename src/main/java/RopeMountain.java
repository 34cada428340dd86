import java.util.Arrays;
import java.util.NoSuchElementException;

/** One way up a mountain by fixed ropes; ../shared/DOC.md says what each call promises. */
public final class RopeMountain {
    public static final int NONE = -1;

    private static final int MOST_PITCHES = 6;
    private static final int LONGEST = 8;
    private static final int WIDEST = 6;
    private static final int LAST_HOUR = 200;
    private static final int MOST_RUN = 100;
    private static final int MOST_CLIMBERS = 12;
    private static final int TEAMS = 4;
    private static final int SLOWEST = 4;
    private static final int MOST_BREATH = 200;
    private static final int LATEST_START = 100;
    private static final int MOST_PLANNED = 3;
    private static final int PLAN_HOURS = 100;
    private static final int LATEST_PLANNED = 10;
    private static final int STARTS_PER_TEAM = 6;
    private static final int HOURS_BETWEEN_STARTS = 2;
    private static final int MOST_NEEDED = 200;
    private static final int MOST_LEAVING = 2000;
    private static final int LOAD = 4;
    private static final int HOURS_TO_STRAND = 6;

    private static final int UP = 0;
    private static final int TOP = 1;
    private static final int DOWN = 2;
    private static final int HOME = 3;
    private static final int STRANDED = 4;

    private final Ropes ropes;
    private final Party party;
    private final Climb climb;
    /** Plans are tried out here, so that what stands needs no saving and no new rows are made. */
    private final Climb trial;

    public RopeMountain() {
        ropes = new Ropes();
        party = new Party();
        climb = new Climb(ropes, party, party.start);
        trial = new Climb(ropes, party, new int[TEAMS]);
    }

    public boolean mountain(int n) {
        if (!isWithin(n, 1, MOST_PITCHES)) {
            return false;
        }
        ropes.layAnew(n);
        climb.reset();
        return true;
    }

    public boolean pitch(int s, int length, int width) {
        if (!ropes.hasPitch(s) || !isWithin(length, 1, LONGEST) || !isWithin(width, 1, WIDEST)) {
            return false;
        }
        ropes.length[s] = length;
        ropes.width[s] = width;
        return true;
    }

    public int high(int camp) {
        if (!ropes.hasCamp(camp)) {
            return NONE;
        }
        int was = ropes.high;
        ropes.high = camp;
        return was;
    }

    public boolean wind(int from, int to, boolean is) {
        if (from < 0 || to < from || to >= LAST_HOUR) {
            return false;
        }
        for (int h = from; h <= to; h++) {
            ropes.windy[h] = is;
        }
        return true;
    }

    public int climber(int team, int pace, int breath) {
        if (!isWithin(team, 0, TEAMS - 1) || !isWithin(pace, 0, SLOWEST)
                || !isWithin(breath, 0, MOST_BREATH) || party.size >= MOST_CLIMBERS) {
            return NONE;
        }
        int number = party.join(team, pace, breath);
        climb.putAtFoot(number);
        return number;
    }

    public int team(int team, int what, int v) {
        if (!isWithin(team, 0, TEAMS - 1) || !isWithin(what, 0, 1)) {
            return NONE;
        }
        if (!isWithin(v, 0, what == 0 ? LATEST_START : LAST_HOUR)) {
            return NONE;
        }
        int[] row = what == 0 ? party.start : party.turn;
        int was = row[team];
        row[team] = v;
        return was;
    }

    public int begin() {
        climb.reset();
        return party.size;
    }

    public int run(int n) {
        if (!isWithin(n, 0, MOST_RUN)) {
            return NONE;
        }
        for (int k = 0; k < n && climb.hour < LAST_HOUR; k++) {
            climb.passHour();
        }
        return climb.hour;
    }

    public int count(int what) {
        switch (what) {
            case 0: return ropes.pitches;
            case 1: return party.size;
            case 2: return climb.hour;
            case 3: return ropes.high;
            case 4: return climb.summits();
            case 5: return climb.inState(HOME);
            case 6: return climb.inState(STRANDED);
            case 7: return climb.allWaits();
            default: return NONE;
        }
    }

    public int of(int climber, int what) throws NoSuchElementException {
        if (!party.has(climber)) {
            throw new NoSuchElementException("no such climber");
        }
        switch (what) {
            case 0: return climb.state[climber];
            case 1: return climb.camp[climber];
            case 2: return climb.toGo[climber];
            case 3: return climb.breath[climber];
            case 4: return climb.summit[climber];
            case 5: return climb.waits[climber];
            case 6: return climb.since[climber];
            default: throw new NoSuchElementException("nothing of a climber has this number");
        }
    }

    public int on(int s) {
        return ropes.hasPitch(s) ? climb.howManyOn(s) : NONE;
    }

    public int at(int camp) {
        return ropes.hasCamp(camp) ? climb.howManyAt(camp) : NONE;
    }

    public int fetch(int climber) {
        if (!party.has(climber) || climb.state[climber] != STRANDED) {
            return NONE;
        }
        return climb.fetcherTo(climb.camp[climber]);
    }

    public int tries(int m, int a, int b, int c, int what) {
        if (!isWithin(m, 1, MOST_PLANNED) || !isWithin(what, 0, 2) || !areTriable(m, a, b, c)) {
            return NONE;
        }
        trial.takeStarts();
        trial.start[0] = a;
        if (m > 1) {
            trial.start[1] = b;
        }
        if (m > 2) {
            trial.start[2] = c;
        }
        trial.tryOut();
        if (what == 0) {
            return trial.summits();
        }
        return what == 1 ? trial.inState(STRANDED) : trial.allWaits();
    }

    public int plan(int m) {
        if (!isWithin(m, 1, MOST_PLANNED)) {
            return NONE;
        }
        trial.takeStarts();
        int best = bestPlan(m);
        // The trial has gone past the best plan, so that one is run again for its summits.
        readPlan(best, m);
        trial.tryOut();
        System.arraycopy(trial.start, 0, party.start, 0, m);
        climb.reset();
        return trial.summits();
    }

    public int need(int camp, int b) {
        if (!ropes.hasCamp(camp) || !isWithin(b, 0, MOST_NEEDED)) {
            return NONE;
        }
        int bottles = b;
        for (int s = camp - 1; s >= ropes.high; s--) {
            int carriers = (bottles + LOAD - 2) / (LOAD - 1);
            bottles += carriers;
        }
        return bottles;
    }

    public int comes(int camp, int b) {
        if (!ropes.hasCamp(camp) || !isWithin(b, 0, MOST_LEAVING)) {
            return NONE;
        }
        int bottles = b;
        for (int s = ropes.high; s < camp; s++) {
            int carriers = (bottles + LOAD - 1) / LOAD;
            bottles -= carriers;
        }
        return bottles;
    }

    private static boolean isWithin(int v, int least, int most) {
        return v >= least && v <= most;
    }

    private static boolean areTriable(int m, int a, int b, int c) {
        return isWithin(a, 0, LATEST_PLANNED)
                && (m < 2 || isWithin(b, 0, LATEST_PLANNED))
                && (m < 3 || isWithin(c, 0, LATEST_PLANNED));
    }

    /** Plans are numbered so that of two the one with the less starts, team 0 first, comes first. */
    private int bestPlan(int m) {
        int plans = 1;
        for (int t = 0; t < m; t++) {
            plans *= STARTS_PER_TEAM;
        }
        int best = 0;
        int most = NONE;
        int perfect = merit(party.size, 0, 0);
        for (int p = 0; p < plans && most < perfect; p++) {
            if (!readPlan(p, m)) {
                continue;
            }
            trial.tryOut();
            int reached = merit(trial.summits(), trial.inState(STRANDED), trial.allWaits());
            if (reached > most) {
                most = reached;
                best = p;
            }
        }
        return best;
    }

    /** Sets the trial's starts; false if an earlier plan differs only in teams that have nobody. */
    private boolean readPlan(int plan, int m) {
        boolean isNew = true;
        int rest = plan;
        for (int t = m - 1; t >= 0; t--) {
            int start = rest % STARTS_PER_TEAM * HOURS_BETWEEN_STARTS;
            rest /= STARTS_PER_TEAM;
            trial.start[t] = start;
            if (start > 0 && !party.hasAnyOf(t)) {
                isNew = false;
            }
        }
        return isNew;
    }

    /** One number that is greater for the better run: summits weigh most, then stranded, then waits. */
    private static int merit(int summits, int stranded, int waits) {
        int mostWaits = MOST_CLIMBERS * PLAN_HOURS;
        int saved = summits * (MOST_CLIMBERS + 1) + MOST_CLIMBERS - stranded;
        return saved * (mostWaits + 1) + mostWaits - waits;
    }

    /** The way up as told: pitches, which of them are high, the hours of wind. */
    private static final class Ropes {
        int pitches;
        int high;
        final int[] length;
        final int[] width;
        final boolean[] windy;

        Ropes() {
            high = 1;
            length = new int[MOST_PITCHES];
            width = new int[MOST_PITCHES];
            windy = new boolean[LAST_HOUR];
            layAnew(2);
        }

        void layAnew(int n) {
            pitches = n;
            high = Math.min(high, n);
            Arrays.fill(length, 2);
            Arrays.fill(width, 1);
        }

        boolean hasPitch(int s) {
            return isWithin(s, 0, pitches - 1);
        }

        boolean hasCamp(int camp) {
            return isWithin(camp, 0, pitches);
        }

        boolean isWindy(int hour) {
            return isWithin(hour, 0, LAST_HOUR - 1) && windy[hour];
        }
    }

    /** The climbers and teams as told. */
    private static final class Party {
        int size;
        final int[] team;
        final int[] pace;
        final int[] breath;
        final int[] start;
        final int[] turn;

        Party() {
            team = new int[MOST_CLIMBERS];
            pace = new int[MOST_CLIMBERS];
            breath = new int[MOST_CLIMBERS];
            start = new int[TEAMS];
            turn = new int[TEAMS];
            Arrays.fill(turn, LAST_HOUR);
        }

        boolean has(int climber) {
            return isWithin(climber, 0, size - 1);
        }

        boolean hasAnyOf(int aTeam) {
            for (int i = 0; i < size; i++) {
                if (team[i] == aTeam) {
                    return true;
                }
            }
            return false;
        }

        /** The caller has seen that there is room. */
        int join(int aTeam, int aPace, int aBreath) {
            int number = size;
            team[number] = aTeam;
            pace[number] = aPace;
            breath[number] = aBreath;
            size++;
            return number;
        }
    }

    /** Where everybody is at an hour. A climber is on a pitch just when it has hours to go. */
    private static final class Climb {
        private static final int BEHIND_ALL_GOING_DOWN = LAST_HOUR + 1;

        final Ropes ropes;
        final Party party;
        final int[] start;
        int hour;
        final int[] state;
        final int[] camp;
        final int[] toGo;
        final int[] breath;
        final int[] since;
        final int[] summit;
        final int[] waits;
        final int[] wanted;
        final int[] place;

        Climb(Ropes theRopes, Party theParty, int[] theStarts) {
            ropes = theRopes;
            party = theParty;
            start = theStarts;
            state = new int[MOST_CLIMBERS];
            camp = new int[MOST_CLIMBERS];
            toGo = new int[MOST_CLIMBERS];
            breath = new int[MOST_CLIMBERS];
            since = new int[MOST_CLIMBERS];
            summit = new int[MOST_CLIMBERS];
            waits = new int[MOST_CLIMBERS];
            wanted = new int[MOST_CLIMBERS];
            place = new int[MOST_CLIMBERS];
        }

        void reset() {
            hour = 0;
            for (int i = 0; i < party.size; i++) {
                putAtFoot(i);
            }
        }

        void putAtFoot(int i) {
            state[i] = UP;
            camp[i] = 0;
            toGo[i] = 0;
            breath[i] = party.breath[i];
            since[i] = hour;
            summit[i] = NONE;
            waits[i] = 0;
        }

        void takeStarts() {
            System.arraycopy(party.start, 0, start, 0, TEAMS);
        }

        /** Ends as soon as nobody moves any more: nothing that is asked of a plan changes then. */
        void tryOut() {
            reset();
            for (int k = 0; k < PLAN_HOURS && !isOver(); k++) {
                passHour();
            }
        }

        private boolean isOver() {
            for (int i = 0; i < party.size; i++) {
                if (state[i] != HOME && state[i] != STRANDED) {
                    return false;
                }
            }
            return true;
        }

        void passHour() {
            for (int i = 0; i < party.size; i++) {
                if (toGo[i] > 0) {
                    goOn(i);
                }
            }
            for (int i = 0; i < party.size; i++) {
                if (toGo[i] == 0) {
                    decide(i);
                }
            }
            if (!ropes.isWindy(hour)) {
                beginPitches();
            }
            for (int i = 0; i < party.size; i++) {
                breathe(i);
            }
            for (int i = 0; i < party.size; i++) {
                if (toGo[i] == 0 && camp[i] > 0 && (state[i] == UP || state[i] == DOWN)) {
                    waits[i]++;
                }
            }
            hour++;
        }

        private void goOn(int i) {
            toGo[i]--;
            if (toGo[i] == 0) {
                camp[i] += state[i] == UP ? 1 : -1;
                since[i] = hour;
            }
        }

        private void decide(int i) {
            if (state[i] == UP && camp[i] == ropes.pitches) {
                state[i] = TOP;
                summit[i] = hour;
            } else if (turnsBack(i)) {
                state[i] = DOWN;
            }
            if (state[i] == DOWN && camp[i] == 0) {
                state[i] = HOME;
            }
        }

        private boolean turnsBack(int i) {
            if (state[i] == TOP) {
                return since[i] < hour;
            }
            if (state[i] != UP) {
                return false;
            }
            int t = party.team[i];
            return breath[i] == 0 || (hour >= party.turn[t] && hour >= start[t]);
        }

        private void beginPitches() {
            for (int i = 0; i < party.size; i++) {
                wanted[i] = pitchWanted(i);
                place[i] = state[i] == DOWN ? since[i] : since[i] + BEHIND_ALL_GOING_DOWN;
            }
            for (int s = ropes.pitches - 1; s >= 0; s--) {
                letBegin(s);
            }
        }

        private int pitchWanted(int i) {
            if (toGo[i] > 0) {
                return NONE;
            }
            if (state[i] == DOWN) {
                return camp[i] - 1;
            }
            boolean mayLeave = camp[i] > 0 || hour >= start[party.team[i]];
            return state[i] == UP && mayLeave ? camp[i] : NONE;
        }

        private void letBegin(int s) {
            for (int k = 0; k < ropes.width[s]; k++) {
                int first = firstInLine(s);
                if (first == NONE) {
                    return;
                }
                wanted[first] = NONE;
                since[first] = NONE;
                int hours = hoursFor(first, s, state[first] == UP);
                toGo[first] = breath[first] == 0 ? 2 * hours : hours;
            }
        }

        private int firstInLine(int s) {
            int first = NONE;
            for (int i = 0; i < party.size; i++) {
                if (wanted[i] == s && (first == NONE || place[i] < place[first])) {
                    first = i;
                }
            }
            return first;
        }

        /** What a pitch takes one that is not weak. */
        private int hoursFor(int i, int s, boolean up) {
            return up ? ropes.length[s] + party.pace[i] : ropes.length[s];
        }

        private void breathe(int i) {
            if (state[i] == HOME || state[i] == STRANDED) {
                return;
            }
            boolean atCamp = toGo[i] == 0;
            int where = atCamp ? camp[i] : pitchUnder(i);
            if (where < ropes.high) {
                return;
            }
            breath[i] = Math.max(breath[i] - 1, 0);
            if (atCamp && breath[i] == 0 && hour - since[i] >= HOURS_TO_STRAND) {
                state[i] = STRANDED;
            }
        }

        /** The pitch that a climber is on, when it is on one. */
        private int pitchUnder(int i) {
            return state[i] == UP ? camp[i] : camp[i] - 1;
        }

        int summits() {
            int all = 0;
            for (int i = 0; i < party.size; i++) {
                if (summit[i] != NONE) {
                    all++;
                }
            }
            return all;
        }

        int inState(int asked) {
            int all = 0;
            for (int i = 0; i < party.size; i++) {
                if (state[i] == asked) {
                    all++;
                }
            }
            return all;
        }

        int allWaits() {
            int all = 0;
            for (int i = 0; i < party.size; i++) {
                all += waits[i];
            }
            return all;
        }

        int howManyOn(int s) {
            int all = 0;
            for (int i = 0; i < party.size; i++) {
                if (toGo[i] > 0 && pitchUnder(i) == s) {
                    all++;
                }
            }
            return all;
        }

        int howManyAt(int aCamp) {
            int all = 0;
            for (int i = 0; i < party.size; i++) {
                if (toGo[i] == 0 && camp[i] == aCamp) {
                    all++;
                }
            }
            return all;
        }

        int fetcherTo(int aCamp) {
            int best = NONE;
            int fewest = 0;
            for (int i = 0; i < party.size; i++) {
                if (!couldReach(i, aCamp)) {
                    continue;
                }
                int hours = hoursTo(aCamp, i, 0);
                if (best == NONE || hours < fewest) {
                    best = i;
                    fewest = hours;
                }
            }
            return best;
        }

        private boolean couldReach(int i, int aCamp) {
            if (toGo[i] > 0 || state[i] == HOME || state[i] == STRANDED) {
                return false;
            }
            return breath[i] >= 2 * hoursTo(aCamp, i, ropes.high);
        }

        /** Hours to a camp on those pitches between that are not below the lowest one asked. */
        private int hoursTo(int aCamp, int i, int lowest) {
            int hours = 0;
            int above = Math.max(camp[i], aCamp);
            for (int s = Math.max(Math.min(camp[i], aCamp), lowest); s < above; s++) {
                hours += hoursFor(i, s, camp[i] < aCamp);
            }
            return hours;
        }
    }
}
