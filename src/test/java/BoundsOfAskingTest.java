import java.util.function.Supplier;

/** The boundary sentences of promises 9 to 14: hours that pass, and what is asked then. */
public final class BoundsOfAskingTest {
    private static final int NONE = RopeMountain.NONE;
    private static final int LEAST = Integer.MIN_VALUE;
    private static final int MOST = Integer.MAX_VALUE;
    private static final int[] FAR = {LEAST, LEAST + 1, -1000, 1000, MOST - 1, MOST};

    public static void main(String[] args) {
        runTakesNoneToOneHundred();
        runEndsAtHourTwoHundred();
        runRefusesAnotherNumber();
        runOfNoHoursChangesNothing();
        runInPartsIsTheSame();
        nothingHappensBehindHourTwoHundred();
        countOfANewObject();
        countOfTwelve();
        countOfAnotherWhat();
        ofOfANewObject();
        ofOfTwelve();
        ofOfAnotherWhat();
        ofOfBothWrong();
        onOfEachPitch();
        onOfNoneSuch();
        atOfEachCamp();
        atOfNoneSuch();
        fetchOfNoneSuch();
        fetchOfOneThatIsNotStranded();
        fetchNeedsTwiceTheHours();
        fetchCountsHighPitchesAlone();
        fetchTakesTheFewestHours();
        fetchTakesTheLeastNumber();
        fetchTakesNobodyOnAPitchHomeOrStranded();
        Check.end();
    }

    private static void due(String what, long got, long want) {
        Check.due(what, got, want);
    }

    private static RopeMountain inHour(Supplier<RopeMountain> make, int hour) {
        RopeMountain x = make.get();
        x.begin();
        x.run(hour / 2);
        due("up to hour " + hour, x.run(hour - hour / 2), hour);
        return x;
    }

    private static void runTakesNoneToOneHundred() {
        for (int n = 0; n <= 100; n++) {
            due("run(" + n + ") of a new object", new RopeMountain().run(n), n);
            RopeMountain x = Twins.full();
            due("run(" + n + ") of twelve", x.run(n), 26 + n);
            due("hour", x.count(2), 26 + n);
        }
    }

    private static void runEndsAtHourTwoHundred() {
        int[] hours = {0, 1, 99, 100, 101, 150, 198, 199, 200};
        int[] runs = {0, 1, 2, 50, 99, 100};
        for (int hour : hours) {
            for (int n : runs) {
                int then = Math.min(hour + n, 200);
                due("run(" + n + ") in hour " + hour, inHour(RopeMountain::new, hour).run(n), then);
                RopeMountain x = inHour(Twins::full, hour);
                due("run(" + n + ") of twelve in hour " + hour, x.run(n), then);
                due("hour", x.count(2), then);
            }
        }
    }

    private static void runRefusesAnotherNumber() {
        int[] refused = {-1, 101, -2, -100, 102, 200, 201};
        for (int n : refused) {
            Twins.dueNone("run(" + n + ")", x -> x.run(n));
        }
        for (int n : FAR) {
            Twins.dueNone("run(" + n + ")", x -> x.run(n));
            Twins.dueUnchanged("run(" + n + ") in hour 200", () -> inHour(Twins::full, 200), x -> x.run(n), NONE);
        }
        Twins.dueUnchanged("run(101) in hour 200", () -> inHour(Twins::full, 200), x -> x.run(101), NONE);
        Twins.dueUnchanged("run(-1) in hour 200", () -> inHour(Twins::full, 200), x -> x.run(-1), NONE);
        Twins.dueUnchanged("run(101) in hour 150", () -> inHour(Twins::full, 150), x -> x.run(101), NONE);
    }

    private static void runOfNoHoursChangesNothing() {
        Twins.dueUnchanged("run(0)", RopeMountain::new, x -> x.run(0), 0);
        Twins.dueUnchanged("run(0)", Twins::told, x -> x.run(0), 7);
        Twins.dueUnchanged("run(0)", Twins::full, x -> x.run(0), 26);
        Twins.dueUnchanged("run(0)", () -> inHour(Twins::full, 200), x -> x.run(0), 200);
    }

    private static void runInPartsIsTheSame() {
        for (int part = 1; part <= 7; part++) {
            RopeMountain x = Twins.full();
            RopeMountain y = Twins.full();
            x.run(42);
            for (int h = 0; h < 42; h += part) {
                y.run(Math.min(part, 42 - h));
            }
            for (int c = 0; c < 12; c++) {
                for (int what = 0; what < 7; what++) {
                    due("in parts of " + part + ": of(" + c + ", " + what + ")", y.of(c, what), x.of(c, what));
                }
            }
        }
    }

    private static void nothingHappensBehindHourTwoHundred() {
        int[] runs = {0, 1, 100};
        for (int n : runs) {
            Twins.dueUnchanged("run(" + n + ") in hour 200", () -> inHour(Twins::full, 200), x -> x.run(n), 200);
        }
        RopeMountain x = inHour(RopeMountain::new, 199);
        x.climber(0, 0, 9);
        x.run(100);
        Check.dueOf("begun in hour 199", x, 0, 0, 0, 2, 9, NONE, 0, NONE);
        x.run(100);
        Check.dueOf("it stays so", x, 0, 0, 0, 2, 9, NONE, 0, NONE);
        due("on it", x.on(0), 1);
    }

    private static void countOfANewObject() {
        int[] want = {2, 0, 0, 1, 0, 0, 0, 0};
        for (int what = 0; what < 8; what++) {
            int asked = what;
            Twins.dueUnchanged("count(" + what + ")", RopeMountain::new, x -> x.count(asked), want[what]);
        }
        int[] told = {4, 0, 7, 3, 0, 0, 0, 0};
        for (int what = 0; what < 8; what++) {
            int asked = what;
            Twins.dueUnchanged("count(" + what + ")", Twins::told, x -> x.count(asked), told[what]);
        }
    }

    private static void countOfTwelve() {
        int[] want = {3, 12, 26, 1, 4, 3, 1, 0};
        RopeMountain x = Twins.full();
        for (int c = 0; c < 12; c++) {
            want[7] += x.of(c, 5);
        }
        for (int what = 0; what < 8; what++) {
            int asked = what;
            Twins.dueUnchanged("count(" + what + ")", Twins::full, y -> y.count(asked), want[what]);
        }
        RopeMountain all = new RopeMountain();
        all.mountain(1);
        all.pitch(0, 1, 6);
        for (int i = 0; i < 12; i++) {
            all.climber(0, 0, 200);
        }
        all.run(100);
        due("twelve summits", all.count(4), 12);
        due("twelve home", all.count(5), 12);
        due("none stranded", all.count(6), 0);
        RopeMountain none = new RopeMountain();
        none.pitch(0, 1, 6);
        for (int i = 0; i < 12; i++) {
            none.climber(0, 0, 1);
        }
        none.wind(2, 199, true);
        none.run(20);
        // Of the first six, who came to camp 1 in hour 1, one begins pitch 1 then and is weak on it.
        due("twelve stranded", none.count(6), 12);
        due("none home", none.count(5), 0);
        due("one summit", none.count(4), 1);
    }

    private static void countOfAnotherWhat() {
        int[] another = {-1, 8, -2, 9, 12};
        for (int what : another) {
            Twins.dueNone("count(" + what + ")", x -> x.count(what));
        }
        for (int what : FAR) {
            Twins.dueNone("count(" + what + ")", x -> x.count(what));
        }
    }

    private static void dueThrows(Supplier<RopeMountain> make, int climber, int what) {
        Twins.dueUnchanged("of(" + climber + ", " + what + ")", make, x -> Twins.of(x, climber, what), Twins.THROWS);
    }

    private static void ofOfANewObject() {
        for (int c = -1; c <= 13; c++) {
            for (int what = -1; what <= 7; what++) {
                due("of(" + c + ", " + what + ")", Twins.of(new RopeMountain(), c, what), Twins.THROWS);
                due("of(" + c + ", " + what + ")", Twins.of(Twins.told(), c, what), Twins.THROWS);
            }
        }
        dueThrows(RopeMountain::new, 0, 0);
        dueThrows(RopeMountain::new, -1, 0);
        dueThrows(Twins::told, 0, 6);
        RopeMountain x = new RopeMountain();
        for (int i = 0; i < 12; i++) {
            due("of(" + i + ", 3) ahead of it", Twins.of(x, i, 3), Twins.THROWS);
            x.climber(0, 0, 100 + i);
            due("of(" + i + ", 3)", Twins.of(x, i, 3), 100 + i);
        }
        due("of(12, 3)", Twins.of(x, 12, 3), Twins.THROWS);
    }

    private static void ofOfTwelve() {
        for (int what = 0; what < 7; what++) {
            dueThrows(Twins::full, -1, what);
            dueThrows(Twins::full, 12, what);
            for (int far : FAR) {
                dueThrows(Twins::full, far, what);
            }
        }
        RopeMountain x = Twins.full();
        // Home without a summit; stranded; at the top now; at the foot ahead of its start.
        Check.dueOf("7", x, 7, 3, 0, 0, 0, NONE, 0, 0);
        Check.dueOf("4", x, 4, 4, 1, 0, 0, NONE, 6, 6);
        Check.dueOf("6", x, 6, 1, 3, 0, 23, 25, 2, 25);
        Check.dueOf("11", x, 11, 0, 0, 0, 1, NONE, 0, 0);
    }

    private static void ofOfAnotherWhat() {
        int[] another = {-1, 7, 8, -7};
        for (int c = 0; c < 12; c += 11) {
            for (int what : another) {
                dueThrows(Twins::full, c, what);
            }
            for (int what : FAR) {
                dueThrows(Twins::full, c, what);
            }
        }
    }

    private static void ofOfBothWrong() {
        int[] wrong = {-1, 12, LEAST, MOST};
        for (int c : wrong) {
            for (int what : wrong) {
                dueThrows(Twins::full, c, what);
                dueThrows(RopeMountain::new, c, what);
            }
        }
    }

    private static void onOfEachPitch() {
        int[] onPitches = {2, 2, 1};
        for (int s = 0; s < 3; s++) {
            int pitch = s;
            Twins.dueUnchanged("on(" + s + ")", Twins::full, x -> x.on(pitch), onPitches[s]);
        }
        for (int n = 1; n <= 6; n++) {
            RopeMountain x = new RopeMountain();
            x.mountain(n);
            for (int s = -2; s <= 8; s++) {
                due("on(" + s + ") of " + n, x.on(s), s >= 0 && s < n ? 0 : NONE);
            }
        }
        RopeMountain all = new RopeMountain();
        all.pitch(0, 8, 6);
        for (int i = 0; i < 12; i++) {
            all.climber(0, 0, 9);
        }
        all.run(2);
        due("twelve on a pitch", all.on(0), 12);
        due("none on the other one", all.on(1), 0);
        due("none at the foot", all.at(0), 0);
    }

    private static void onOfNoneSuch() {
        int[] none = {-1, 4, 5, 6, 7, -2};
        for (int s : none) {
            Twins.dueNone("on(" + s + ")", x -> x.on(s));
        }
        for (int s : FAR) {
            Twins.dueNone("on(" + s + ")", x -> x.on(s));
        }
        Twins.dueUnchanged("on(2) of 2", RopeMountain::new, x -> x.on(2), NONE);
        Twins.dueUnchanged("on(3) of 3", Twins::full, x -> x.on(3), NONE);
        RopeMountain x = new RopeMountain();
        x.mountain(6);
        x.mountain(1);
        due("on(1) of one that is gone", x.on(1), NONE);
    }

    private static void atOfEachCamp() {
        int[] atCamps = {5, 1, 0, 1};
        for (int camp = 0; camp <= 3; camp++) {
            int asked = camp;
            Twins.dueUnchanged("at(" + camp + ")", Twins::full, x -> x.at(asked), atCamps[camp]);
        }
        for (int n = 1; n <= 6; n++) {
            RopeMountain x = new RopeMountain();
            x.mountain(n);
            for (int camp = -2; camp <= 8; camp++) {
                due("at(" + camp + ") of " + n, x.at(camp), camp >= 0 && camp <= n ? 0 : NONE);
            }
            for (int i = 0; i < 12; i++) {
                x.climber(0, 0, 9);
            }
            due("twelve at the foot", x.at(0), 12);
        }
    }

    private static void atOfNoneSuch() {
        int[] none = {-1, 5, 6, 7, -2};
        for (int camp : none) {
            Twins.dueNone("at(" + camp + ")", x -> x.at(camp));
        }
        for (int camp : FAR) {
            Twins.dueNone("at(" + camp + ")", x -> x.at(camp));
        }
        Twins.dueUnchanged("at(3) of 2", RopeMountain::new, x -> x.at(3), NONE);
        Twins.dueUnchanged("at(4) of 3", Twins::full, x -> x.at(4), NONE);
        RopeMountain x = new RopeMountain();
        x.mountain(6);
        x.mountain(1);
        due("at(2) of one that is gone", x.at(2), NONE);
    }

    private static void fetchOfNoneSuch() {
        int[] none = {-1, 12, 13, -12};
        for (int c : none) {
            Twins.dueNone("fetch(" + c + ")", x -> x.fetch(c));
        }
        for (int c : FAR) {
            Twins.dueNone("fetch(" + c + ")", x -> x.fetch(c));
        }
        Twins.dueUnchanged("fetch(0) of none", RopeMountain::new, x -> x.fetch(0), NONE);
        Twins.dueUnchanged("fetch(0) of none", Twins::told, x -> x.fetch(0), NONE);
    }

    private static void fetchOfOneThatIsNotStranded() {
        for (int c = 0; c < 12; c++) {
            int asked = c;
            // 4 is stranded at camp 1: from the foot 11 takes 3 hours, 3 there and 6 at the top 5.
            int want = c == 4 ? 11 : NONE;
            Twins.dueUnchanged("fetch(" + c + ")", Twins::full, x -> x.fetch(asked), want);
        }
    }

    /** Climber 0 is stranded at the top of two high pitches of 3 hours; it is hour 30. */
    private static RopeMountain withOneStrandedAtTheTop() {
        RopeMountain x = new RopeMountain();
        x.high(0);
        x.pitch(0, 3, 1);
        x.pitch(1, 3, 1);
        x.climber(0, 0, 7);
        x.wind(7, 199, true);
        x.run(30);
        Check.dueOf("stranded at the top", x, 0, 4, 2, 0, 0, 6, 5, 6);
        return x;
    }

    private static void fetchNeedsTwiceTheHours() {
        RopeMountain x = withOneStrandedAtTheTop();
        due("nobody else", x.fetch(0), NONE);
        for (int pace = 0; pace <= 4; pace++) {
            int twice = 2 * (3 + pace + 3 + pace);
            RopeMountain y = withOneStrandedAtTheTop();
            y.climber(1, pace, twice - 1);
            due("pace " + pace + ": an hour less than twice", y.fetch(0), NONE);
            y.climber(1, pace, twice);
            due("pace " + pace + ": twice", y.fetch(0), 2);
        }
        RopeMountain far = new RopeMountain();
        far.mountain(6);
        far.high(0);
        far.climber(0, 0, 13);
        far.wind(13, 199, true);
        far.run(60);
        due("stranded at the top of six", far.of(0, 0) * 10 + far.of(0, 1), 46);
        for (int s = 0; s < 6; s++) {
            far.pitch(s, 8, 1);
        }
        far.climber(1, 4, 143);
        due("2 * 6 * 12 is 144", far.fetch(0), NONE);
        far.climber(1, 4, 144);
        due("the longest way", far.fetch(0), 2);
    }

    private static void fetchCountsHighPitchesAlone() {
        for (int high = 0; high <= 2; high++) {
            RopeMountain x = withOneStrandedAtTheTop();
            x.high(high);
            int needed = 2 * 3 * (2 - high);
            if (needed > 0) {
                x.climber(1, 0, needed - 1);
                due("high " + high + ": an hour less", x.fetch(0), NONE);
            } else {
                x.climber(1, 1, 200);
            }
            x.climber(1, 0, needed);
            due("high " + high + ": breath " + needed, x.fetch(0), 2);
        }
    }

    private static void fetchTakesTheFewestHours() {
        RopeMountain x = withOneStrandedAtTheTop();
        for (int pace = 4; pace >= 0; pace--) {
            x.climber(1, pace, 200);
            due("pace " + pace + " takes fewer hours", x.fetch(0), 5 - pace);
        }
        x.climber(1, 1, 200);
        due("one hour a pitch more", x.fetch(0), 5);
    }

    private static void fetchTakesTheLeastNumber() {
        RopeMountain x = withOneStrandedAtTheTop();
        for (int i = 1; i < 12; i++) {
            x.climber(i % 4, 2, 200);
        }
        due("equal ones", x.fetch(0), 1);
        RopeMountain y = withOneStrandedAtTheTop();
        for (int i = 1; i < 12; i++) {
            y.climber(i % 4, 2, i < 11 ? 19 : 20);
        }
        due("the last one alone has the breath", y.fetch(0), 11);
        // Stranded are the twelfth and, at the same camp, none of those with a less number.
        RopeMountain z = new RopeMountain();
        z.pitch(0, 1, 6);
        for (int i = 0; i < 12; i++) {
            z.climber(0, 0, i == 11 ? 1 : 200);
        }
        z.wind(2, 199, true);
        z.run(30);
        due("the twelfth is stranded", z.of(11, 0), 4);
        due("0 is at the top", z.of(0, 1), 2);
        due("the first one at the same camp", z.fetch(11), 1);
        z.wind(30, 30, false);
        z.pitch(1, 1, 1);
        z.pitch(0, 1, 1);
        z.run(1);
        due("0 is on the pitch", z.of(0, 2), 1);
        z.run(1);
        due("0 is at the same camp", z.fetch(11), 0);
    }

    private static void fetchTakesNobodyOnAPitchHomeOrStranded() {
        RopeMountain x = withOneStrandedAtTheTop();
        x.climber(1, 0, 200);
        due("at the foot going up", x.fetch(0), 1);
        x.wind(30, 30, false);
        x.run(1);
        due("on a pitch", x.fetch(0), NONE);
        x.run(2);
        due("on its last hour of it", x.of(1, 2) * 10 + x.fetch(0), 10 + NONE);
        x.run(1);
        due("at camp 1", x.fetch(0), 1);
        x.team(1, 1, 0);
        x.run(1);
        due("going down at camp 1", x.of(1, 0) * 10 + x.fetch(0), 21);
        x.wind(35, 35, false);
        x.run(4);
        due("home", x.of(1, 0) * 10 + x.fetch(0), 30 + NONE);
        x.climber(2, 0, 7);
        x.climber(2, 0, 200);
        x.run(20);
        Check.dueOf("2 is stranded at the foot", x, 2, 4, 0, 0, 0, NONE, 0, 39);
        due("stranded: the next one", x.fetch(0), 3);
        due("of 2 itself: the one beside it", x.fetch(2), 3);
    }
}
