import java.util.NoSuchElementException;

/** Promise by promise: ordinary inputs, the edges the document names, wrong inputs; worked out by hand. */
public final class PromisesTest {
    private static final int NONE = RopeMountain.NONE;
    private static final int LEAST = Integer.MIN_VALUE;
    private static final int MOST = Integer.MAX_VALUE;

    public static void main(String[] args) {
        aNewObject();
        mountain();
        mountainKeepsWhatIsNoPitch();
        pitch();
        pitchWidth();
        high();
        highPlaces();
        wind();
        climber();
        team();
        begin();
        run();
        count();
        of();
        onAndAt();
        goingDownBeginsFirst();
        earlierAtTheCampBeginsFirst();
        lessNumberBeginsFirst();
        theTop();
        turning();
        weakAtTheFoot();
        weakTakesTwice();
        stranding();
        strandedAtTheFoot();
        homeKeepsItsBreath();
        fetch();
        fetchByBreath();
        fetchByHours();
        fetchByOneThatIsWeak();
        tries();
        triesChangesNothing();
        plan();
        planOrder();
        need();
        comes();
        Check.end();
    }

    private static void due(String what, long got, long want) {
        Check.due(what, got, want);
    }

    private static void due(String what, boolean got, boolean want) {
        Check.due(what, got, want);
    }

    private static void aNewObject() {
        RopeMountain x = new RopeMountain();
        int[] want = {2, 0, 0, 1, 0, 0, 0, 0};
        for (int what = 0; what < want.length; what++) {
            due("new: count(" + what + ")", x.count(what), want[what]);
        }
        due("new: at(0)", x.at(0), 0);
        due("new: begin", x.begin(), 0);
        for (int t = 0; t < 4; t++) {
            due("new: start", x.team(t, 0, 0), 0);
            due("new: turn", x.team(t, 1, 200), 200);
        }
        x.climber(0, 0, 200);
        x.climber(0, 0, 200);
        x.run(1);
        due("new: width is 1", x.on(0), 1);
        x.run(1);
        Check.dueOf("new: length is 2", x, 0, 0, 0, 1, 200, NONE, 0, NONE);
        x.run(1);
        due("new: pitch 1 is begun at hour 2", x.on(1), 1);
        due("new: length of pitch 1", x.of(0, 2), 2);
        for (int h = 0; h < 200; h++) {
            RopeMountain y = new RopeMountain();
            y.run(Math.min(h, 100));
            y.run(Math.max(h - 100, 0));
            y.climber(0, 0, 9);
            y.run(1);
            due("new: hour " + h + " is not windy", y.on(0), 1);
        }
    }

    private static void mountain() {
        RopeMountain x = new RopeMountain();
        x.climber(0, 0, 50);
        x.run(3);
        int[] refused = {0, 7, -1, LEAST, MOST};
        for (int n : refused) {
            due("mountain(" + n + ")", x.mountain(n), false);
        }
        due("refused mountain: hour", x.count(2), 3);
        due("refused mountain: n", x.count(0), 2);
        due("mountain(6)", x.mountain(6), true);
        due("mountain: n", x.count(0), 6);
        due("mountain: hour", x.count(2), 0);
        Check.dueOf("mountain begins", x, 0, 0, 0, 0, 50, NONE, 0, 0);
        due("mountain: high stays", x.count(3), 1);
        due("mountain: last pitch", x.on(5), 0);
        due("mountain: no pitch 6", x.on(6), NONE);
        x.high(5);
        due("mountain(3)", x.mountain(3), true);
        due("mountain: high is the lesser", x.count(3), 3);
        due("mountain(6) again", x.mountain(6), true);
        due("mountain: high is not put up", x.count(3), 3);
        due("mountain(1)", x.mountain(1), true);
        due("mountain(1): n", x.count(0), 1);
        due("mountain(1): high", x.count(3), 1);
        x.high(0);
        x.mountain(4);
        due("mountain: high 0 stays", x.count(3), 0);
    }

    private static void mountainKeepsWhatIsNoPitch() {
        RopeMountain x = new RopeMountain();
        x.climber(0, 0, 50);
        x.climber(0, 0, 50);
        x.team(0, 0, 3);
        x.team(0, 1, 90);
        x.wind(3, 3, true);
        x.mountain(3);
        x.pitch(0, 8, 6);
        x.pitch(2, 7, 5);
        x.mountain(3);
        due("mountain keeps climbers", x.count(1), 2);
        x.run(4);
        due("mountain keeps the wind", x.on(0), 0);
        x.run(1);
        due("mountain: width as at first", x.on(0), 1);
        due("mountain: length as at first", x.of(0, 2), 2);
        due("mountain keeps the start", x.team(0, 0, 3), 3);
        due("mountain keeps the turn", x.team(0, 1, 90), 90);
        x.run(4);
        due("mountain: the last length as at first", x.of(0, 1), 2);
        due("mountain: the last length as at first", x.of(0, 2), 2);
    }

    private static void pitch() {
        RopeMountain x = new RopeMountain();
        x.climber(0, 1, 50);
        int[][] refused = {{-1, 1, 1}, {2, 1, 1}, {0, 0, 1}, {0, 9, 1}, {0, 1, 0}, {0, 1, 7},
            {LEAST, 1, 1}, {MOST, 1, 1}, {0, LEAST, 1}, {0, MOST, 1}, {0, 1, LEAST}, {0, 1, MOST},
            {1, -3, 2}, {1, 3, -2}};
        for (int[] r : refused) {
            due("pitch(" + r[0] + ", " + r[1] + ", " + r[2] + ")", x.pitch(r[0], r[1], r[2]), false);
        }
        x.run(1);
        due("refused pitch changes nothing", x.of(0, 2), 3);
        due("pitch(0, 8, 6)", x.pitch(0, 8, 6), true);
        due("who is on it goes on", x.of(0, 2), 3);
        x.run(2);
        due("who is on it goes on", x.of(0, 2), 1);
        due("pitch(1, 1, 1)", x.pitch(1, 1, 1), true);
        x.run(1);
        due("length 1 and pace 1", x.of(0, 2), 2);
        x.run(2);
        Check.dueOf("at the top", x, 0, 1, 2, 0, 47, 5, 0, 5);
        x.run(1);
        due("length 1 down", x.of(0, 2), 1);
        x.run(1);
        Check.dueOf("length 8 down, no pace", x, 0, 2, 1, 8, 46, 5, 0, NONE);
    }

    private static void pitchWidth() {
        RopeMountain x = new RopeMountain();
        for (int i = 0; i < 12; i++) {
            x.climber(i % 4, 0, 50);
        }
        x.pitch(0, 8, 6);
        x.run(1);
        due("width 6", x.on(0), 6);
        x.begin();
        x.pitch(0, 8, 1);
        x.run(1);
        due("width 1", x.on(0), 1);
        x.run(2);
        due("width is what begins it in one hour", x.on(0), 3);
        due("at the foot", x.at(0), 9);
        x.pitch(0, 8, 4);
        x.run(1);
        due("width 4", x.on(0), 7);
    }

    private static void high() {
        RopeMountain x = new RopeMountain();
        due("high(-1)", x.high(-1), NONE);
        due("high(3)", x.high(3), NONE);
        due("high(LEAST)", x.high(LEAST), NONE);
        due("high(MOST)", x.high(MOST), NONE);
        due("refused high", x.count(3), 1);
        due("high(2)", x.high(2), 1);
        due("high(0)", x.high(0), 2);
        due("high(0) again", x.high(0), 0);
        due("count(3)", x.count(3), 0);
        x.mountain(6);
        due("high(6)", x.high(6), 0);
        due("high(7)", x.high(7), NONE);
    }

    /** Up and down takes the hours 0 .. 8: foot, pitch 0, camp 1, pitch 1, top at hour 4. */
    private static void highPlaces() {
        int[] breathAtHome = {41, 45, 49};
        for (int camp = 0; camp <= 2; camp++) {
            RopeMountain x = new RopeMountain();
            x.climber(0, 0, 50);
            x.high(camp);
            x.run(20);
            Check.dueOf("high " + camp, x, 0, 3, 0, 0, breathAtHome[camp], 4, 0, 9);
        }
        RopeMountain x = new RopeMountain();
        x.climber(0, 0, 50);
        x.high(2);
        x.run(4);
        due("the top alone is high: ahead of it", x.of(0, 3), 50);
        x.run(1);
        due("the top alone is high: there", x.of(0, 3), 49);
        x.run(1);
        due("the top alone is high: on the pitch below", x.of(0, 3), 49);
        RopeMountain y = new RopeMountain();
        y.climber(0, 0, 3);
        y.team(0, 0, 100);
        y.high(0);
        y.run(2);
        due("the foot is high", y.of(0, 3), 1);
    }

    private static void wind() {
        RopeMountain x = new RopeMountain();
        x.climber(0, 0, 50);
        due("wind(3, 2)", x.wind(3, 2, true), false);
        due("wind(-1, 2)", x.wind(-1, 2, true), false);
        due("wind(0, 200)", x.wind(0, 200, true), false);
        due("wind(LEAST, MOST)", x.wind(LEAST, MOST, true), false);
        due("wind(MOST, MOST)", x.wind(MOST, MOST, true), false);
        due("wind(200, 200)", x.wind(200, 200, false), false);
        due("wind(0, 0)", x.wind(0, 0, true), true);
        x.run(1);
        due("nobody begins in the wind", x.on(0), 0);
        due("no waits at the foot", x.of(0, 5), 0);
        x.run(1);
        due("no wind at hour 1", x.on(0), 1);
        due("wind(2, 4)", x.wind(2, 4, true), true);
        x.run(2);
        Check.dueOf("on a pitch one goes on in the wind", x, 0, 0, 1, 0, 49, NONE, 1, 3);
        due("wind(4, 4, false)", x.wind(4, 4, false), true);
        x.run(1);
        due("no wind any more", x.on(1), 1);
        due("wind(5, 199)", x.wind(5, 199, true), true);
        x.run(100);
        x.run(95);
        // Breath 46 behind hour 6: weak in hour 52, where it is stranded and waits no more.
        Check.dueOf("up to hour 199 at the top in the wind", x, 0, 4, 2, 0, 0, 6, 1 + 45, 6);
        x.begin();
        x.wind(0, 199, false);
        x.wind(199, 199, true);
        x.team(0, 0, 100);
        x.run(100);
        x.run(98);
        x.climber(1, 0, 1);
        x.climber(1, 0, 1);
        due("hour 198", x.run(1), 199);
        due("hour 198 is not windy", x.on(0), 1);
        x.run(1);
        due("hour 199 is windy", x.on(0), 1);
    }

    private static void climber() {
        RopeMountain x = new RopeMountain();
        int[][] refused = {{-1, 0, 0}, {4, 0, 0}, {0, -1, 0}, {0, 5, 0}, {0, 0, -1}, {0, 0, 201},
            {LEAST, 0, 0}, {MOST, 0, 0}, {0, LEAST, 0}, {0, MOST, 0}, {0, 0, LEAST}, {0, 0, MOST}};
        for (int[] r : refused) {
            due("climber(" + r[0] + ", " + r[1] + ", " + r[2] + ")", x.climber(r[0], r[1], r[2]), NONE);
        }
        due("refused climbers", x.count(1), 0);
        due("climber(3, 4, 200)", x.climber(3, 4, 200), 0);
        x.run(7);
        due("climber(0, 0, 0)", x.climber(0, 0, 0), 1);
        Check.dueOf("since the hour that is", x, 1, 0, 0, 0, 0, NONE, 0, 7);
        x.begin();
        due("begin: since 0", x.of(1, 6), 0);
        x.run(1);
        due("pace 4", x.of(0, 2), 6);
        for (int i = 2; i < 12; i++) {
            due("climber " + i, x.climber(i % 4, i % 5, 10 * i), i);
        }
        due("climber 12", x.climber(0, 0, 10), NONE);
        due("twelve climbers", x.count(1), 12);
        due("begin: twelve", x.begin(), 12);
    }

    private static void team() {
        RopeMountain x = new RopeMountain();
        int[][] refused = {{-1, 0, 0}, {4, 0, 0}, {0, -1, 0}, {0, 2, 0}, {0, 0, -1}, {0, 0, 101},
            {0, 1, -1}, {0, 1, 201}, {LEAST, 0, 0}, {MOST, 1, 0}, {0, LEAST, 0}, {0, MOST, 0},
            {0, 0, LEAST}, {0, 1, MOST}};
        for (int[] r : refused) {
            due("team(" + r[0] + ", " + r[1] + ", " + r[2] + ")", x.team(r[0], r[1], r[2]), NONE);
        }
        for (int t = 0; t < 4; t++) {
            due("start", x.team(t, 0, 100), 0);
            due("turn", x.team(t, 1, 0), 200);
            due("start again", x.team(t, 0, t), 100);
            due("turn again", x.team(t, 1, 200 - t), 0);
        }
        for (int t = 0; t < 4; t++) {
            due("start of each its own", x.team(t, 0, t), t);
            due("turn of each its own", x.team(t, 1, 200), 200 - t);
            x.climber(3 - t, 0, 50);
        }
        for (int h = 0; h < 4; h++) {
            x.run(1);
            due("started by hour " + h, x.at(0), 3 - h);
        }
    }

    private static void begin() {
        RopeMountain x = new RopeMountain();
        x.climber(0, 0, 20);
        x.climber(1, 2, 3);
        x.wind(3, 3, true);
        x.team(1, 0, 1);
        x.high(2);
        x.pitch(1, 3, 2);
        x.run(9);
        due("begin", x.begin(), 2);
        Check.dueOf("begin", x, 0, 0, 0, 0, 20, NONE, 0, 0);
        Check.dueOf("begin", x, 1, 0, 0, 0, 3, NONE, 0, 0);
        int[] want = {2, 2, 0, 2, 0, 0, 0, 0};
        for (int what = 0; what < want.length; what++) {
            due("begin: count(" + what + ")", x.count(what), want[what]);
        }
        due("begin: at the foot", x.at(0), 2);
        due("begin keeps starts", x.team(1, 0, 1), 1);
        x.wind(0, 0, false);
        x.run(4);
        due("begin keeps lengths", x.of(0, 2), 2);
    }

    private static void run() {
        RopeMountain x = new RopeMountain();
        due("run(-1)", x.run(-1), NONE);
        due("run(101)", x.run(101), NONE);
        due("run(LEAST)", x.run(LEAST), NONE);
        due("run(MOST)", x.run(MOST), NONE);
        due("run(0)", x.run(0), 0);
        due("run(1)", x.run(1), 1);
        due("run(99)", x.run(99), 100);
        due("run(60)", x.run(60), 160);
        due("run(100) up to 200", x.run(100), 200);
        due("run(1) at 200", x.run(1), 200);
        due("run(0) at 200", x.run(0), 200);
        due("run(101) at 200", x.run(101), NONE);
        due("climber at 200", x.climber(0, 0, 5), 0);
        x.run(5);
        Check.dueOf("nothing behind 200", x, 0, 0, 0, 0, 5, NONE, 0, 200);
    }

    private static void count() {
        RopeMountain x = new RopeMountain();
        due("count(-1)", x.count(-1), NONE);
        due("count(8)", x.count(8), NONE);
        due("count(LEAST)", x.count(LEAST), NONE);
        due("count(MOST)", x.count(MOST), NONE);
        x.mountain(3);
        x.high(2);
        x.climber(0, 0, 50);
        x.climber(0, 0, 50);
        x.climber(1, 0, 1);
        x.team(1, 0, 20);
        x.wind(24, 40, true);
        x.run(100);
        // Climber 2 comes to camp 1 at 22 and to camp 2 at 24, weak there at once; stranded at 30.
        int[] want = {3, 3, 100, 2, 2, 2, 1, 6};
        for (int what = 0; what < want.length; what++) {
            due("count(" + what + ")", x.count(what), want[what]);
        }
    }

    private static boolean throwsOf(RopeMountain x, int climber, int what) {
        try {
            x.of(climber, what);
            return false;
        } catch (NoSuchElementException e) {
            return true;
        }
    }

    private static void of() {
        RopeMountain x = new RopeMountain();
        due("of none", throwsOf(x, 0, 0), true);
        x.climber(0, 1, 50);
        int[] none = {-1, 1, 11, 12, LEAST, MOST};
        for (int c : none) {
            due("of(" + c + ", 0) throws", throwsOf(x, c, 0), true);
        }
        int[] nothing = {-1, 7, LEAST, MOST};
        for (int what : nothing) {
            due("of(0, " + what + ") throws", throwsOf(x, 0, what), true);
        }
        Check.dueOf("at first", x, 0, 0, 0, 0, 50, NONE, 0, 0);
        x.wind(3, 3, true);
        x.run(1);
        Check.dueOf("up on pitch 0", x, 0, 0, 0, 3, 50, NONE, 0, NONE);
        x.run(3);
        Check.dueOf("at camp 1", x, 0, 0, 1, 0, 49, NONE, 1, 3);
        x.run(2);
        Check.dueOf("up on pitch 1", x, 0, 0, 1, 2, 47, NONE, 1, NONE);
        x.run(2);
        Check.dueOf("at the top", x, 0, 1, 2, 0, 45, 7, 1, 7);
        x.run(2);
        Check.dueOf("down on pitch 1", x, 0, 2, 2, 1, 43, 7, 1, NONE);
        x.run(1);
        Check.dueOf("down on pitch 0", x, 0, 2, 1, 2, 43, 7, 1, NONE);
        x.run(2);
        Check.dueOf("home", x, 0, 3, 0, 0, 43, 7, 1, 12);
        x.run(50);
        Check.dueOf("home it stays", x, 0, 3, 0, 0, 43, 7, 1, 12);
    }

    private static void onAndAt() {
        RopeMountain x = new RopeMountain();
        int[] none = {-1, 2, LEAST, MOST};
        for (int s : none) {
            due("on(" + s + ")", x.on(s), NONE);
        }
        due("at(-1)", x.at(-1), NONE);
        due("at(3)", x.at(3), NONE);
        due("at(LEAST)", x.at(LEAST), NONE);
        due("at(MOST)", x.at(MOST), NONE);
        for (int i = 0; i < 4; i++) {
            x.climber(0, 0, 50);
        }
        due("at(0)", x.at(0), 4);
        x.run(5);
        // 0 at the top, 1 one hour below it, 2 since hour 4 on pitch 1, 3 one hour below camp 1.
        due("at(2)", x.at(2), 1);
        due("on(1)", x.on(1), 2);
        due("on(0)", x.on(0), 1);
        due("at(0)", x.at(0), 0);
        due("at(1)", x.at(1), 0);
        x.run(2);
        // 0 and 1 go down on pitch 1, 2 is at the top, 3 waits since hour 5 behind those going down.
        due("on(1) down", x.on(1), 2);
        due("at(2)", x.at(2), 1);
        due("at(1)", x.at(1), 1);
        due("on(0)", x.on(0), 0);
        x.run(2);
        // 0 and 1 are on pitch 0, 2 goes down and 3 up on pitch 1.
        due("on(1) both ways", x.on(1), 2);
        due("on(0) down", x.on(0), 2);
        due("3 goes up", x.of(3, 0), 0);
        x.run(20);
        due("at(0) when home", x.at(0), 4);
    }

    private static void goingDownBeginsFirst() {
        RopeMountain x = new RopeMountain();
        x.mountain(1);
        x.pitch(0, 1, 1);
        x.climber(1, 0, 50);
        x.climber(0, 0, 50);
        x.team(1, 0, 2);
        x.run(3);
        due("down first: 1 begins", x.of(1, 2), 1);
        due("down first: 0 does not", x.of(0, 2), 0);
        x.run(1);
        due("then up", x.of(0, 2), 1);
        due("1 is home", x.of(1, 0), 3);
        due("its since", x.of(1, 6), 3);
    }

    private static void earlierAtTheCampBeginsFirst() {
        RopeMountain x = new RopeMountain();
        x.pitch(0, 1, 2);
        x.climber(0, 2, 50);
        x.climber(0, 0, 50);
        x.wind(1, 4, true);
        x.run(6);
        due("1 since 1 begins", x.of(1, 2), 2);
        due("0 since 3 does not", x.of(0, 6), 3);
        x.run(1);
        due("0 then", x.of(0, 2), 4);
        due("waits of 0", x.of(0, 5), 3);
        due("waits of 1", x.of(1, 5), 4);
        due("waits in all", x.count(7), 7);

        RopeMountain y = new RopeMountain();
        y.climber(0, 0, 50);
        y.team(0, 0, 3);
        y.climber(1, 0, 50);
        y.team(1, 0, 3);
        y.begin();
        y.run(2);
        y.climber(1, 0, 50);
        y.run(2);
        due("at the foot: 0", y.of(0, 2), 2);
        y.run(1);
        due("at the foot: 1 since 0", y.of(1, 2), 2);
        due("at the foot: 2 since 2", y.of(2, 2), 0);
    }

    private static void lessNumberBeginsFirst() {
        RopeMountain x = new RopeMountain();
        x.pitch(0, 2, 3);
        x.pitch(1, 2, 2);
        for (int i = 0; i < 3; i++) {
            x.climber(2 - i, 0, 50);
        }
        x.run(3);
        due("0 begins", x.of(0, 2), 2);
        due("1 begins", x.of(1, 2), 2);
        due("2 waits", x.of(2, 5), 1);
    }

    private static void theTop() {
        RopeMountain x = new RopeMountain();
        x.mountain(1);
        x.climber(0, 0, 1);
        x.wind(3, 5, true);
        x.run(3);
        Check.dueOf("weak at the top", x, 0, 1, 1, 0, 0, 2, 0, 2);
        due("no fetch of it", x.fetch(0), NONE);
        x.run(1);
        Check.dueOf("goes down in the wind", x, 0, 2, 1, 0, 0, 2, 1, 2);
        x.run(2);
        due("waits at the top", x.of(0, 5), 3);
        x.run(1);
        due("weak: twice the length", x.of(0, 2), 4);
        x.run(3);
        due("still on it", x.of(0, 0), 2);
        x.run(1);
        Check.dueOf("home", x, 0, 3, 0, 0, 0, 2, 3, 10);
    }

    private static void turning() {
        RopeMountain x = new RopeMountain();
        x.climber(0, 0, 50);
        x.team(0, 1, 2);
        x.run(2);
        due("below the turn hour", x.of(0, 0), 0);
        x.run(1);
        Check.dueOf("turns at camp 1 at hour 2", x, 0, 2, 1, 2, 50, NONE, 0, NONE);
        x.run(2);
        Check.dueOf("home without a summit", x, 0, 3, 0, 0, 50, NONE, 0, 4);

        x.begin();
        x.team(0, 1, 3);
        x.run(3);
        due("at hour 2 it goes up", x.on(1), 1);
        x.run(2);
        due("on a pitch nobody turns", x.of(0, 4), 4);

        x.begin();
        x.team(0, 1, 3);
        x.team(0, 0, 5);
        x.run(5);
        due("not ahead of its start", x.of(0, 0), 0);
        x.run(1);
        Check.dueOf("turns at the foot at its start", x, 0, 3, 0, 0, 50, NONE, 0, 0);

        x.begin();
        x.team(0, 1, 0);
        x.team(0, 0, 0);
        x.run(1);
        due("turn hour 0", x.of(0, 0), 3);
        due("none on the pitch", x.on(0), 0);
    }

    private static void weakAtTheFoot() {
        RopeMountain x = new RopeMountain();
        x.climber(0, 0, 0);
        x.team(0, 0, 9);
        due("ahead of hour 0", x.of(0, 0), 0);
        x.run(1);
        Check.dueOf("weak at the foot", x, 0, 3, 0, 0, 0, NONE, 0, 0);
    }

    private static void weakTakesTwice() {
        RopeMountain x = new RopeMountain();
        x.mountain(3);
        x.pitch(1, 3, 1);
        x.pitch(0, 2, 1);
        x.climber(0, 1, 2);
        x.run(4);
        due("up on pitch 1", x.of(0, 2), 4);
        due("breath 1", x.of(0, 3), 1);
        x.run(1);
        due("weak on the pitch: it takes what it took then", x.of(0, 2), 3);
        due("breath 0", x.of(0, 3), 0);
        x.run(3);
        Check.dueOf("turns at camp 2: 6 hours down", x, 0, 2, 2, 6, 0, NONE, 0, NONE);
        x.run(6);
        Check.dueOf("4 hours down on pitch 0", x, 0, 2, 1, 4, 0, NONE, 0, NONE);
        x.run(4);
        Check.dueOf("home", x, 0, 3, 0, 0, 0, NONE, 0, 17);
    }

    private static void stranding() {
        RopeMountain x = new RopeMountain();
        x.climber(0, 0, 1);
        x.climber(1, 0, 1);
        x.pitch(0, 2, 2);
        x.wind(2, 7, true);
        x.run(8);
        Check.dueOf("5 hours waited", x, 0, 2, 1, 0, 0, NONE, 6, 2);
        x.run(1);
        due("0 begins at hour 8", x.of(0, 2), 4);
        due("1 too", x.of(1, 2), 4);
        x.begin();
        x.pitch(0, 2, 1);
        x.team(1, 0, 1);
        x.wind(2, 8, true);
        x.run(8);
        due("not yet", x.count(6), 0);
        x.run(1);
        Check.dueOf("6 hours waited", x, 0, 4, 1, 0, 0, NONE, 6, 2);
        due("the other one since 3", x.of(1, 0), 2);
        x.run(1);
        due("begins at hour 9", x.of(1, 2), 4);
        x.run(50);
        Check.dueOf("stranded it stays", x, 0, 4, 1, 0, 0, NONE, 6, 2);
        due("the other one is home", x.of(1, 0), 3);
        due("one stranded", x.count(6), 1);
        x.high(2);
        x.run(1);
        due("stranded it stays", x.of(0, 0), 4);
        x.begin();
        due("begin: none stranded", x.count(6), 0);

        // Not weak: no stranding. Weak in its ninth hour there, still going up: stranded at once.
        RopeMountain y = new RopeMountain();
        y.climber(0, 0, 9);
        y.wind(2, 100, true);
        y.run(10);
        Check.dueOf("breath 1", y, 0, 0, 1, 0, 1, NONE, 8, 2);
        y.run(1);
        Check.dueOf("breath 0", y, 0, 4, 1, 0, 0, NONE, 8, 2);
    }

    private static void strandedAtTheFoot() {
        RopeMountain x = new RopeMountain();
        x.high(0);
        x.climber(0, 0, 6);
        x.climber(0, 0, 7);
        x.team(0, 0, 50);
        x.run(6);
        due("weak behind hour 5", x.of(0, 3), 0);
        due("not stranded", x.of(0, 0), 0);
        x.run(1);
        due("goes home at hour 6", x.of(0, 0), 3);
        due("weak in hour 6: stranded at the foot", x.of(1, 0), 4);
        x.run(10);
        due("home is not stranded", x.of(0, 0), 3);
        due("no waits at the foot", x.count(7), 0);
    }

    private static void homeKeepsItsBreath() {
        RopeMountain x = new RopeMountain();
        x.high(0);
        x.climber(0, 0, 50);
        x.run(10);
        due("home", x.of(0, 0), 3);
        int breath = x.of(0, 3);
        x.run(30);
        due("home: breath stays", x.of(0, 3), breath);
    }

    /** One stranded at camp 2 of 3 (climber 0), who came there at hour 4. */
    private static RopeMountain withOneStranded() {
        RopeMountain x = new RopeMountain();
        x.mountain(3);
        x.pitch(0, 2, 6);
        x.pitch(1, 2, 6);
        x.climber(0, 0, 3);
        x.wind(3, 199, true);
        x.run(11);
        Check.dueOf("withOneStranded", x, 0, 4, 2, 0, 0, NONE, 6, 4);
        return x;
    }

    private static void fetch() {
        RopeMountain x = withOneStranded();
        due("nobody else", x.fetch(0), NONE);
        due("fetch(-1)", x.fetch(-1), NONE);
        due("fetch(1)", x.fetch(1), NONE);
        due("fetch(LEAST)", x.fetch(LEAST), NONE);
        due("fetch(MOST)", x.fetch(MOST), NONE);
        due("fetch(12)", x.fetch(12), NONE);
        x.climber(1, 0, 3);
        due("breath 3 is below twice 2", x.fetch(0), NONE);
        x.climber(1, 0, 4);
        due("breath 4 is twice 2", x.fetch(0), 2);
        x.climber(1, 0, 4);
        due("the least number", x.fetch(0), 2);
        due("not stranded", x.fetch(2), NONE);
        x.climber(1, 1, 200);
        due("pace makes it later", x.fetch(0), 2);
        x.pitch(1, 3, 1);
        due("a longer high pitch: 8 is needed", x.fetch(0), 4);
        x.high(2);
        due("no high pitch between: the pace 0, breath 3", x.fetch(0), 1);
        x.high(0);
        due("pitch 0 is high too: 2 * (2 + 1 + 3 + 1)", x.fetch(0), 4);
        x.team(1, 1, 0);
        x.wind(11, 11, false);
        x.run(1);
        due("home ones could not", x.fetch(0), NONE);
        x.climber(2, 4, 21);
        due("2 * (6 + 3 * 1 + 4) less one", x.fetch(0), NONE);
        x.climber(2, 4, 26);
        due("2 * (2 + 4 + 3 + 4)", x.fetch(0), 6);
        x.run(1);
        due("on a pitch one could not", x.on(0) == 0 ? NONE : x.fetch(0), NONE);
    }

    private static void fetchByBreath() {
        // Stranded at camp 1; two others at the top, one of them with breath for the way down.
        RopeMountain x = new RopeMountain();
        x.pitch(0, 2, 6);
        x.pitch(1, 2, 6);
        x.climber(0, 0, 1);
        x.climber(1, 0, 8);
        x.climber(1, 3, 16);
        x.team(0, 0, 8);
        x.wind(9, 199, true);
        // 1: camp 1 at 2, top at 4; 2: camp 1 at 5, top at 10, where it stays in the wind.
        x.run(17);
        Check.dueOf("stranded at camp 1", x, 0, 4, 1, 0, 0, NONE, 6, 10);
        due("1 is home or below", x.of(1, 1) < 2, true);
        Check.dueOf("2 at the top", x, 2, 2, 2, 0, 4, 10, 6, 10);
        due("down: 2 hours, no pace: breath 4", x.fetch(0), 2);
        x.run(1);
        due("breath 3", x.fetch(0), NONE);
    }

    private static void fetchByHours() {
        // At the foot 3 hours below; at the same camp 0 hours, even weak.
        RopeMountain x = new RopeMountain();
        x.pitch(0, 3, 6);
        x.climber(0, 0, 1);
        x.climber(0, 0, 30);
        x.climber(3, 0, 30);
        x.climber(3, 0, 30);
        x.team(3, 0, 100);
        x.wind(3, 199, true);
        x.run(10);
        Check.dueOf("0 is stranded", x, 0, 4, 1, 0, 0, NONE, 6, 3);
        due("1 at the same camp", x.fetch(0), 1);
        x.run(30);
        due("1 is stranded too", x.of(1, 0), 4);
        due("2 from the foot", x.fetch(0), 2);
        due("2 from the foot for 1", x.fetch(1), 2);

        // Two climbers for whom it takes equally long, one from above and one from below.
        RopeMountain y = new RopeMountain();
        y.climber(0, 0, 30);
        y.climber(1, 0, 1);
        y.climber(2, 0, 30);
        y.team(1, 0, 2);
        y.team(2, 0, 100);
        y.wind(4, 199, true);
        y.run(11);
        Check.dueOf("0 at the top", y, 0, 2, 2, 0, 21, 4, 6, 4);
        due("1 is stranded", y.of(1, 0), 4);
        due("equal ones: the least number", y.fetch(1), 0);
        y.pitch(1, 3, 1);
        due("the fewest hours", y.fetch(1), 2);
    }

    /** The words of fetch tell LENGTH and PACE alone, so that a weak one's hours are not twice as many there. */
    private static void fetchByOneThatIsWeak() {
        RopeMountain x = new RopeMountain();
        x.mountain(3);
        x.pitch(0, 2, 6);
        x.climber(0, 0, 3);
        x.climber(1, 1, 30);
        x.climber(1, 0, 1);
        x.team(1, 0, 2);
        x.wind(3, 199, true);
        x.run(6);
        x.high(2);
        x.run(5);
        Check.dueOf("0 is stranded", x, 0, 4, 2, 0, 0, NONE, 6, 4);
        Check.dueOf("1 is not weak, 3 hours below", x, 1, 0, 1, 0, 29, NONE, 6, 5);
        Check.dueOf("2 is weak, 2 hours below", x, 2, 2, 1, 0, 0, NONE, 7, 4);
        due("the weak one", x.fetch(0), 2);
        x.high(1);
        due("the pitch is high", x.fetch(0), 1);
    }

    private static void tries() {
        RopeMountain x = new RopeMountain();
        due("tries without climbers", x.tries(1, 0, 0, 0, 0), 0);
        x.climber(0, 0, 50);
        x.climber(1, 0, 50);
        x.climber(2, 0, 1);
        x.team(2, 0, 100);
        int[][] refused = {{0, 0, 0, 0, 0}, {4, 0, 0, 0, 0}, {1, -1, 0, 0, 0}, {1, 11, 0, 0, 0},
            {2, 0, -1, 0, 0}, {2, 0, 11, 0, 0}, {3, 0, 0, -1, 0}, {3, 0, 0, 11, 0}, {1, 0, 0, 0, -1},
            {1, 0, 0, 0, 3}, {LEAST, 0, 0, 0, 0}, {MOST, 0, 0, 0, 0}, {3, LEAST, 0, 0, 0},
            {3, 0, MOST, 0, 0}, {3, 0, 0, MOST, 0}, {1, 0, 0, 0, LEAST}, {1, 0, 0, 0, MOST},
            {-1, 0, 0, 0, 0}};
        for (int[] r : refused) {
            due("tries(" + r[0] + ", " + r[1] + ", " + r[2] + ", " + r[3] + ", " + r[4] + ")",
                x.tries(r[0], r[1], r[2], r[3], r[4]), NONE);
        }
        due("hours of those not asked are free", x.tries(1, 0, MOST, LEAST, 0), 2);
        due("hours of those not asked are free", x.tries(2, 0, 10, LEAST, 0), 2);
        due("an odd hour", x.tries(1, 7, 0, 0, 0), 2);
        due("from m on as they are: no third", x.tries(2, 0, 0, 0, 0), 2);
        x.wind(2, 20, true);
        // 2 comes to camp 1 at hour 2, weak there at once, and is stranded at 8 behind 6 waits.
        due("stranded: 2 begins at hour 0 alone", x.tries(3, 10, 10, 0, 1), 1);
        due("waits: 6 of it, none of those behind the wind", x.tries(3, 10, 10, 0, 2), 6);
        due("summits behind the wind", x.tries(3, 10, 10, 0, 0), 2);
        // 0 waits at camp 1 from 2 to 20; 2 comes there at 24 when 0 goes down: waits, is weak, turns.
        due("none stranded", x.tries(3, 0, 2, 2, 1), 0);
        due("waits of 0 and 2", x.tries(3, 0, 2, 2, 2), 19 + 1);
        due("summits of 0 and 1", x.tries(3, 0, 2, 2, 0), 2);
        aTrialHas100Hours();
    }

    private static void aTrialHas100Hours() {
        RopeMountain x = new RopeMountain();
        x.climber(0, 0, 200);
        x.wind(12, 96, true);
        due("begins pitch 1 at 97, at the top in hour 99, the last one", x.tries(1, 10, 0, 0, 0), 1);
        due("waits 12 .. 96", x.tries(1, 10, 0, 0, 2), 85);
        x.wind(97, 97, true);
        due("begins pitch 1 at 98", x.tries(1, 10, 0, 0, 0), 0);
        due("waits 12 .. 97", x.tries(1, 10, 0, 0, 2), 86);
        x.wind(98, 120, true);
        due("waits 12 .. 99", x.tries(1, 10, 0, 0, 2), 88);
    }

    private static void triesChangesNothing() {
        RopeMountain x = new RopeMountain();
        x.climber(0, 0, 50);
        x.climber(1, 2, 40);
        x.team(1, 0, 1);
        x.run(6);
        int[][] was = new int[2][7];
        for (int c = 0; c < 2; c++) {
            for (int what = 0; what < 7; what++) {
                was[c][what] = x.of(c, what);
            }
        }
        due("tries", x.tries(3, 4, 6, 8, 0), 2);
        for (int c = 0; c < 2; c++) {
            Check.dueOf("behind tries", x, c, was[c]);
        }
        due("hour", x.count(2), 6);
        due("start of 0", x.team(0, 0, 0), 0);
        due("start of 1", x.team(1, 0, 1), 1);
        due("start of 2", x.team(2, 0, 0), 0);
    }

    private static void plan() {
        RopeMountain x = new RopeMountain();
        int[] refused = {0, 4, -1, LEAST, MOST};
        x.climber(0, 0, 50);
        x.team(0, 0, 7);
        x.run(3);
        for (int m : refused) {
            due("plan(" + m + ")", x.plan(m), NONE);
        }
        due("refused plan: hour", x.count(2), 3);
        due("refused plan: start", x.team(0, 0, 7), 7);
        x.team(1, 0, 9);
        x.team(2, 0, 9);
        x.team(3, 0, 9);
        due("plan(1)", x.plan(1), 1);
        due("plan begins", x.count(2), 0);
        due("plan begins", x.of(0, 6), 0);
        due("plan: start of 0", x.team(0, 0, 0), 0);
        due("plan: start of 1 as it was", x.team(1, 0, 9), 9);
        due("plan(3)", x.plan(3), 1);
        due("plan: start of an empty team", x.team(1, 0, 9), 0);
        due("plan: start of an empty team", x.team(2, 0, 9), 0);
        due("plan: team 3 as it was", x.team(3, 0, 9), 9);
        RopeMountain y = new RopeMountain();
        y.team(0, 0, 4);
        due("plan without climbers", y.plan(1), 0);
        due("plan without climbers: start", y.team(0, 0, 4), 0);
    }

    private static void planOrder() {
        // Most summits: who waits at camp 1 for the wind's end is too weak to go on.
        RopeMountain x = new RopeMountain();
        x.climber(0, 0, 3);
        x.climber(1, 0, 50);
        x.wind(2, 7, true);
        due("summits of 0, 0", x.tries(2, 0, 0, 0, 0), 1);
        due("waits of 2, 0", x.tries(2, 2, 0, 0, 2), 6);
        due("plan(2)", x.plan(2), 2);
        due("0 waits at the foot for the wind's end", x.team(0, 0, 0), 2);
        due("1 too, for the fewest waits", x.team(1, 0, 0), 2);

        // Equal summits, none stranded: the fewest waits; 4 is the first hour that has none.
        RopeMountain w = new RopeMountain();
        w.climber(0, 0, 50);
        w.wind(4, 9, true);
        due("waits of 0, at the top", w.tries(1, 0, 0, 0, 2), 5);
        due("waits of 2, at camp 1", w.tries(1, 2, 0, 0, 2), 6);
        due("waits of 4", w.tries(1, 4, 0, 0, 2), 0);
        due("plan(1)", w.plan(1), 1);
        due("the fewest waits", w.team(0, 0, 0), 4);

        // Wind at camp 1 an hour behind every start but the last one that a plan has.
        RopeMountain v = new RopeMountain();
        v.climber(0, 0, 1);
        v.pitch(0, 1, 1);
        for (int h = 1; h < 10; h += 2) {
            v.wind(h, h, true);
            due("no summit of an earlier start", v.tries(1, h - 1, 0, 0, 0), 0);
        }
        due("plan(1)", v.plan(1), 1);
        due("start 10", v.team(0, 0, 0), 10);

        // Equal summits (none): the fewest stranded.
        RopeMountain y = new RopeMountain();
        y.climber(0, 0, 1);
        y.wind(2, 8, true);
        y.mountain(2);
        y.pitch(1, 8, 1);
        y.team(0, 1, 1);
        due("stranded at start 0", y.tries(1, 0, 0, 0, 1), 1);
        due("home at once at start 2", y.tries(1, 2, 0, 0, 1), 0);
        due("plan(1)", y.plan(1), 0);
        due("the fewest stranded, the less start", y.team(0, 0, 0), 2);

        // All equal: the less start of team 0, then of team 1.
        RopeMountain z = new RopeMountain();
        z.climber(0, 0, 50);
        z.climber(1, 0, 50);
        z.pitch(0, 1, 1);
        z.pitch(1, 3, 1);
        z.wind(1, 1, true);
        due("waits of 0, 0", z.tries(2, 0, 0, 0, 2), 1);
        due("waits of 2, 0", z.tries(2, 2, 0, 0, 2), 1);
        due("plan(2)", z.plan(2), 2);
        due("start of 0", z.team(0, 0, 0), 2);
        due("start of 1", z.team(1, 0, 0), 2);
    }

    private static void need() {
        RopeMountain x = new RopeMountain();
        int[][] refused = {{-1, 1}, {3, 1}, {1, -1}, {1, 201}, {LEAST, 1}, {MOST, 1}, {1, LEAST},
            {1, MOST}};
        for (int[] r : refused) {
            due("need(" + r[0] + ", " + r[1] + ")", x.need(r[0], r[1]), NONE);
        }
        int[] want = {0, 2, 3, 4, 6, 7, 8, 10};
        for (int b = 0; b < want.length; b++) {
            due("need(2, " + b + ")", x.need(2, b), want[b]);
            due("need(1, " + b + ")", x.need(1, b), b);
            due("need(0, " + b + ")", x.need(0, b), b);
        }
        due("need(1, 200)", x.need(1, 200), 200);
        due("need(2, 200)", x.need(2, 200), 267);
        x.high(2);
        due("no high pitch", x.need(2, 200), 200);
        x.mountain(6);
        x.high(0);
        due("need(6, 1)", x.need(6, 1), 11);
        due("need(6, 200)", x.need(6, 200), 1128);
        due("need(3, 1)", x.need(3, 1), 4);
        due("need(7, 1)", x.need(7, 1), NONE);
    }

    private static void comes() {
        RopeMountain x = new RopeMountain();
        int[][] refused = {{-1, 1}, {3, 1}, {1, -1}, {1, 2001}, {LEAST, 1}, {MOST, 1}, {1, LEAST},
            {1, MOST}};
        for (int[] r : refused) {
            due("comes(" + r[0] + ", " + r[1] + ")", x.comes(r[0], r[1]), NONE);
        }
        int[] want = {0, 0, 1, 2, 3, 3, 4, 5, 6, 6};
        for (int b = 0; b < want.length; b++) {
            due("comes(2, " + b + ")", x.comes(2, b), want[b]);
            due("comes(1, " + b + ")", x.comes(1, b), b);
        }
        due("comes(0, 2000)", x.comes(0, 2000), 2000);
        due("comes(2, 2000)", x.comes(2, 2000), 1500);
        x.mountain(6);
        x.high(0);
        for (int b = 0; b <= 200; b++) {
            int leave = x.need(6, b);
            due("comes(6, need)", x.comes(6, leave), b);
            due("need is the fewest", leave == 0 || x.comes(6, leave - 1) < b, true);
        }
        due("comes(6, 1)", x.comes(6, 1), 0);
        due("comes(7, 1)", x.comes(7, 1), NONE);
    }
}
