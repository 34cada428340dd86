import java.util.function.Supplier;

/** The boundary sentences of promises 1 to 8: what is told, and what is refused. */
public final class BoundsOfTellingTest {
    private static final int NONE = RopeMountain.NONE;
    private static final int LEAST = Integer.MIN_VALUE;
    private static final int MOST = Integer.MAX_VALUE;

    public static void main(String[] args) {
        theObjectsOfTheTests();
        aNewObjectIsAsToldAtFirst();
        mountainTakesOneToSix();
        mountainRefusesAnotherNumber();
        mountainPutsAllPitchesAsAtFirst();
        mountainTakesTheLesserHigh();
        mountainBegins();
        pitchesAreBelowN();
        lengthIsOneToEight();
        widthIsOneToSix();
        pitchRefusesOthers();
        whoIsOnAPitchGoesOn();
        highIsACamp();
        highRefusesOthers();
        highPlacesAreFromItOn();
        windTakesItsFirstAndLastHour();
        windCanEnd();
        windRefusesOthers();
        climbersAreTwelveAtMost();
        climberTakesItsBounds();
        climberRefusesOthers();
        climberIsSinceTheHourThatIs();
        startIsUpToOneHundred();
        turnIsUpToTwoHundred();
        teamRefusesOthers();
        beginOfNoneAndOfTwelve();
        Check.end();
    }

    private static void due(String what, long got, long want) {
        Check.due(what, got, want);
    }

    private static void due(String what, boolean got, boolean want) {
        Check.due(what, got, want);
    }

    private static RopeMountain ofPitches(int n) {
        RopeMountain x = new RopeMountain();
        x.mountain(n);
        return x;
    }

    private static RopeMountain longAndWide(int n) {
        RopeMountain x = ofPitches(n);
        for (int s = 0; s < n; s++) {
            x.pitch(s, 8, 6);
        }
        return x;
    }

    /** What the tests of refused calls rest on: the object with twelve has climbers of every kind. */
    private static void theObjectsOfTheTests() {
        RopeMountain x = Twins.full();
        int[] ofState = new int[5];
        int onPitches = 0;
        for (int c = 0; c < 12; c++) {
            ofState[x.of(c, 0)]++;
            onPitches += x.of(c, 2) > 0 ? 1 : 0;
        }
        int[] want = {3, 1, 4, 3, 1};
        for (int state = 0; state < 5; state++) {
            due("full: of state " + state, ofState[state], want[state]);
        }
        due("full: on pitches", onPitches, 5);
        due("full: hour", x.count(2), 26);
        due("full: climbers", x.count(1), 12);
        due("told: climbers", Twins.told().count(1), 0);
        due("told: hour", Twins.told().count(2), 7);
    }

    private static void aNewObjectIsAsToldAtFirst() {
        RopeMountain x = new RopeMountain();
        int[] want = {2, 0, 0, 1, 0, 0, 0, 0};
        for (int what = 0; what < 8; what++) {
            due("new: count(" + what + ")", x.count(what), want[what]);
        }
        for (int s = 0; s < 2; s++) {
            due("new: on(" + s + ")", x.on(s), 0);
            due("new: length of " + s, Reading.length(RopeMountain::new, s), 2);
            due("new: width of " + s, Reading.width(RopeMountain::new, s), 1);
        }
        due("new: no pitch 2", x.on(2), NONE);
        for (int camp = 0; camp <= 2; camp++) {
            due("new: at(" + camp + ")", x.at(camp), 0);
        }
        due("new: no camp 3", x.at(3), NONE);
        for (int h = 0; h < 200; h++) {
            due("new: windy in hour " + h, Reading.isWindy(RopeMountain::new, h), false);
        }
        for (int t = 0; t < 4; t++) {
            due("new: start of " + t, x.team(t, 0, 0), 0);
            due("new: turn of " + t, x.team(t, 1, 200), 200);
        }
        due("new: of(0, 0)", Twins.of(x, 0, 0), Twins.THROWS);
        due("new: fetch(0)", x.fetch(0), NONE);
        due("new: run(100)", x.run(100), 100);
    }

    private static void mountainTakesOneToSix() {
        for (int n = 1; n <= 6; n++) {
            RopeMountain[] both = {new RopeMountain(), Twins.full()};
            for (RopeMountain x : both) {
                due("mountain(" + n + ")", x.mountain(n), true);
                due("its pitches", x.count(0), n);
                due("its last pitch", x.on(n - 1), 0);
                due("none behind its last pitch", x.on(n), NONE);
                due("its top", x.at(n), 0);
                due("none above its top", x.at(n + 1), NONE);
                due("hour", x.count(2), 0);
            }
        }
    }

    private static void mountainRefusesAnotherNumber() {
        int[] refused = {0, 7, -1, -2, -6, 8, 12, 100, LEAST, LEAST + 1, MOST, MOST - 1};
        for (int n : refused) {
            Twins.dueFalse("mountain(" + n + ")", x -> x.mountain(n));
        }
    }

    private static void mountainPutsAllPitchesAsAtFirst() {
        for (int was = 1; was <= 6; was++) {
            for (int n = 1; n <= 6; n++) {
                int before = was;
                int then = n;
                Supplier<RopeMountain> make = () -> {
                    RopeMountain x = longAndWide(before);
                    x.mountain(then);
                    return x;
                };
                for (int s = 0; s < n; s++) {
                    due("length of " + s + " behind mountain(" + n + ")", Reading.length(make, s), 2);
                    due("width of " + s + " behind mountain(" + n + ")", Reading.width(make, s), 1);
                }
            }
        }
        Supplier<RopeMountain> lessAndMore = () -> {
            RopeMountain x = longAndWide(6);
            x.mountain(1);
            x.mountain(6);
            return x;
        };
        due("length of one that was gone", Reading.length(lessAndMore, 5), 2);
        due("width of one that was gone", Reading.width(lessAndMore, 5), 1);
    }

    private static void mountainTakesTheLesserHigh() {
        for (int was = 0; was <= 6; was++) {
            for (int n = 1; n <= 6; n++) {
                RopeMountain x = ofPitches(6);
                x.high(was);
                x.mountain(n);
                due("high of " + was + " behind mountain(" + n + ")", x.count(3), Math.min(was, n));
                x.mountain(6);
                due("it does not rise again", x.count(3), Math.min(was, n));
            }
        }
    }

    private static void mountainBegins() {
        RopeMountain x = Twins.full();
        x.mountain(3);
        int[] breath = {200, 9, 150, 60, 3, 40, 33, 0, 12, 120, 80, 1};
        for (int c = 0; c < 12; c++) {
            Check.dueOf("mountain begins", x, c, 0, 0, 0, breath[c], NONE, 0, 0);
        }
        int[] want = {3, 12, 0, 1, 0, 0, 0, 0};
        for (int what = 0; what < 8; what++) {
            due("mountain begins: count(" + what + ")", x.count(what), want[what]);
        }
        due("all at the foot", x.at(0), 12);
    }

    private static void pitchesAreBelowN() {
        for (int n = 1; n <= 6; n++) {
            RopeMountain x = ofPitches(n);
            for (int s = 0; s < n; s++) {
                due("pitch " + s + " of " + n, x.pitch(s, 3, 3), true);
            }
            for (int s = n; s <= 7; s++) {
                due("pitch " + s + " of " + n, x.pitch(s, 3, 3), false);
            }
            due("pitch -1 of " + n, x.pitch(-1, 3, 3), false);
        }
        RopeMountain x = ofPitches(6);
        x.mountain(2);
        due("a pitch that is gone", x.pitch(2, 3, 3), false);
    }

    private static Supplier<RopeMountain> withPitch(int n, int s, int length, int width) {
        return () -> {
            RopeMountain x = ofPitches(n);
            x.pitch(s, length, width);
            return x;
        };
    }

    private static void lengthIsOneToEight() {
        for (int n = 1; n <= 6; n++) {
            for (int s = 0; s < n; s++) {
                for (int length = 1; length <= 8; length++) {
                    due("pitch takes length " + length, ofPitches(n).pitch(s, length, 1), true);
                    due("the length of pitch " + s, Reading.length(withPitch(n, s, length, 1), s), length);
                }
                int other = (s + 1) % n;
                int want = other == s ? 8 : 2;
                due("the other length", Reading.length(withPitch(n, s, 8, 6), other), want);
            }
        }
    }

    private static void widthIsOneToSix() {
        for (int n = 1; n <= 6; n++) {
            for (int s = 0; s < n; s++) {
                for (int width = 1; width <= 6; width++) {
                    due("pitch takes width " + width, ofPitches(n).pitch(s, 1, width), true);
                    due("the width of pitch " + s, Reading.width(withPitch(n, s, 1, width), s), width);
                }
                int other = (s + 1) % n;
                int want = other == s ? 6 : 1;
                due("the other width", Reading.width(withPitch(n, s, 8, 6), other), want);
            }
        }
    }

    private static void pitchRefusesOthers() {
        int[] lengths = {0, 9, -1, -8, 10, LEAST, MOST};
        int[] widths = {0, 7, -1, -6, 8, LEAST, MOST};
        int[] pitches = {-1, 4, 6, -2, 7, 12, LEAST, MOST};
        for (int s = 0; s < 2; s++) {
            int pitch = s;
            for (int length : lengths) {
                Twins.dueFalse("pitch(" + s + ", " + length + ", 6)", x -> x.pitch(pitch, length, 6));
            }
            for (int width : widths) {
                Twins.dueFalse("pitch(" + s + ", 8, " + width + ")", x -> x.pitch(pitch, 8, width));
            }
            Twins.dueFalse("pitch(" + s + ", 0, 7)", x -> x.pitch(pitch, 0, 7));
            Twins.dueFalse("pitch(" + s + ", 9, 0)", x -> x.pitch(pitch, 9, 0));
        }
        for (int s : pitches) {
            Twins.dueFalse("pitch(" + s + ", 8, 6)", x -> x.pitch(s, 8, 6));
            Twins.dueFalse("pitch(" + s + ", 0, 0)", x -> x.pitch(s, 0, 0));
        }
        Twins.dueUnchanged("pitch(2, 8, 6) of 2", RopeMountain::new, x -> x.pitch(2, 8, 6) ? 1 : 0, 0);
        Twins.dueUnchanged("pitch(3, 8, 6) of 3", Twins::full, x -> x.pitch(3, 8, 6) ? 1 : 0, 0);
        refusedPitchKeepsLengthAndWidth(0, 9, 3);
        refusedPitchKeepsLengthAndWidth(0, 3, 7);
        refusedPitchKeepsLengthAndWidth(1, 0, 3);
        refusedPitchKeepsLengthAndWidth(1, 3, 0);
        refusedPitchKeepsLengthAndWidth(2, 3, 3);
        refusedPitchKeepsLengthAndWidth(-1, 3, 3);
    }

    private static void refusedPitchKeepsLengthAndWidth(int s, int length, int width) {
        Supplier<RopeMountain> make = () -> {
            RopeMountain x = new RopeMountain();
            x.pitch(0, 5, 4);
            x.pitch(1, 7, 5);
            x.pitch(s, length, width);
            return x;
        };
        due("refused pitch: length of 0", Reading.length(make, 0), 5);
        due("refused pitch: length of 1", Reading.length(make, 1), 7);
        due("refused pitch: width of 0", Reading.width(make, 0), 4);
        due("refused pitch: width of 1", Reading.width(make, 1), 5);
    }

    private static void whoIsOnAPitchGoesOn() {
        int[] lengths = {1, 8};
        for (int length : lengths) {
            RopeMountain x = ofPitches(1);
            x.pitch(0, 4, 1);
            x.climber(0, 1, 50);
            x.run(1);
            due("up: hours to go", x.of(0, 2), 5);
            x.pitch(0, length, 6);
            due("up: it goes on", x.of(0, 2), 5);
            x.run(4);
            due("up: the last hour", x.of(0, 2), 1);
            x.run(1);
            due("up: at the top", x.of(0, 4), 5);
            x.pitch(0, 4, 1);
            x.run(1);
            due("down: hours to go", x.of(0, 2), 4);
            x.pitch(0, length, 6);
            x.run(3);
            due("down: the last hour", x.of(0, 2), 1);
            x.run(1);
            Check.dueOf("down: home", x, 0, 3, 0, 0, 49, 5, 0, 10);
        }
    }

    private static void highIsACamp() {
        for (int n = 1; n <= 6; n++) {
            RopeMountain x = ofPitches(n);
            int was = x.count(3);
            for (int camp = 0; camp <= n; camp++) {
                due("high(" + camp + ") of " + n, x.high(camp), was);
                due("it is high", x.count(3), camp);
                was = camp;
            }
            for (int camp = n + 1; camp <= 8; camp++) {
                due("high(" + camp + ") of " + n, x.high(camp), NONE);
            }
            due("high(-1) of " + n, x.high(-1), NONE);
            due("as it was", x.count(3), n);
        }
    }

    private static void highRefusesOthers() {
        int[] refused = {-1, 5, 6, 7, -2, LEAST, LEAST + 1, MOST, MOST - 1};
        for (int camp : refused) {
            Twins.dueNone("high(" + camp + ")", x -> x.high(camp));
        }
        Twins.dueUnchanged("high(3) of 2", RopeMountain::new, x -> x.high(3), NONE);
        Twins.dueUnchanged("high(4) of 3", Twins::full, x -> x.high(4), NONE);
    }

    /** A climber waits an hour at each camp, so that each place takes its own breath. */
    private static void highPlacesAreFromItOn() {
        for (int high = 0; high <= 3; high++) {
            RopeMountain x = ofPitches(3);
            x.high(high);
            x.climber(0, 0, 100);
            // Camp 0 in hour 0, pitch 0 in 1 and 2, camp 1 in 3, pitch 1 in 4 and 5, and so on.
            for (int h = 0; h < 9; h += 3) {
                x.wind(h, h, true);
            }
            int breath = 100;
            for (int h = 0; h < 9; h++) {
                x.run(1);
                breath -= h / 3 >= high ? 1 : 0;
                due("high " + high + ": breath behind hour " + h, x.of(0, 3), breath);
                due("at a camp each third hour", x.of(0, 6), h % 3 == 0 ? h : NONE);
            }
            x.run(1);
            due("the top is high always", x.of(0, 3), breath - 1);
        }
    }

    private static void dueWindy(String what, Supplier<RopeMountain> make, int from, int to) {
        for (int h = 0; h < 200; h++) {
            due(what + ": hour " + h, Reading.isWindy(make, h), h >= from && h <= to);
        }
    }

    private static Supplier<RopeMountain> withWind(int from, int to) {
        return () -> {
            RopeMountain x = new RopeMountain();
            due("wind(" + from + ", " + to + ")", x.wind(from, to, true), true);
            return x;
        };
    }

    private static void windTakesItsFirstAndLastHour() {
        int[][] taken = {{0, 0}, {199, 199}, {0, 199}, {0, 1}, {198, 199}, {7, 7}, {99, 101}};
        for (int[] hours : taken) {
            dueWindy("wind(" + hours[0] + ", " + hours[1] + ")", withWind(hours[0], hours[1]), hours[0], hours[1]);
        }
        RopeMountain x = Twins.full();
        due("wind of one with twelve", x.wind(0, 199, true), true);
        x.run(1);
        due("nobody begins", x.on(0) + x.on(1) + x.on(2), 5);
        x.begin();
        x.run(100);
        due("nobody leaves the foot", x.at(0), 12);
    }

    private static void windCanEnd() {
        Supplier<RopeMountain> make = () -> {
            RopeMountain x = new RopeMountain();
            x.wind(0, 199, true);
            due("an end of the first hours", x.wind(0, 99, false), true);
            due("an end of the last hour", x.wind(199, 199, false), true);
            return x;
        };
        dueWindy("wind that ends", make, 100, 198);
        Supplier<RopeMountain> none = () -> {
            RopeMountain x = new RopeMountain();
            x.wind(3, 190, true);
            x.wind(0, 199, false);
            return x;
        };
        dueWindy("wind that ends at all", none, 200, 200);
    }

    private static void windRefusesOthers() {
        int[][] refused = {{-1, 0}, {-1, -1}, {-1, 199}, {0, 200}, {199, 200}, {200, 200}, {200, 199}, {-1, 200},
            {1, 0}, {199, 198}, {199, 0}, {100, 20}, {LEAST, 5}, {LEAST, LEAST}, {LEAST, MOST}, {MOST, LEAST},
            {MOST, MOST}, {0, MOST}, {0, LEAST}, {5, LEAST}, {MOST, 5}, {-5, 10}, {10, -5}, {190, 205}};
        for (int[] r : refused) {
            String call = "wind(" + r[0] + ", " + r[1] + ")";
            Twins.dueFalse(call, x -> x.wind(r[0], r[1], true));
            Twins.dueFalse(call + " to none", x -> x.wind(r[0], r[1], false));
            Supplier<RopeMountain> make = () -> {
                RopeMountain x = new RopeMountain();
                x.wind(50, 150, true);
                x.wind(r[0], r[1], true);
                x.wind(r[0], r[1], false);
                return x;
            };
            dueWindy(call + " refused", make, 50, 150);
            Supplier<RopeMountain> calm = () -> {
                RopeMountain x = new RopeMountain();
                x.wind(r[0], r[1], true);
                return x;
            };
            dueWindy(call + " refused", calm, 200, 200);
        }
    }

    private static void climbersAreTwelveAtMost() {
        RopeMountain x = new RopeMountain();
        for (int i = 0; i < 12; i++) {
            due("climbers ahead of one more", x.count(1), i);
            due("climber " + i, x.climber(i % 4, i % 5, 10 + i), i);
        }
        due("a thirteenth", x.climber(0, 0, 10), NONE);
        due("twelve", x.count(1), 12);
        x.begin();
        due("a thirteenth behind begin", x.climber(0, 0, 10), NONE);
        x.mountain(3);
        due("a thirteenth on another mountain", x.climber(0, 0, 10), NONE);
        Twins.dueUnchanged("climber(0, 0, 0) as the 13th", Twins::full, y -> y.climber(0, 0, 0), NONE);
        Twins.dueUnchanged("climber(3, 4, 200) as the 13th", Twins::full, y -> y.climber(3, 4, 200), NONE);
        Twins.dueUnchanged("a wrong one as the 13th", Twins::full, y -> y.climber(4, 5, 201), NONE);
    }

    private static void climberTakesItsBounds() {
        RopeMountain x = new RopeMountain();
        x.pitch(0, 1, 6);
        int number = 0;
        for (int team = 0; team <= 3; team += 3) {
            for (int pace = 0; pace <= 4; pace += 4) {
                for (int breath = 0; breath <= 200; breath += 200) {
                    due("climber(" + team + ", " + pace + ", " + breath + ")", x.climber(team, pace, breath), number);
                    Check.dueOf("at the foot", x, number, 0, 0, 0, breath, NONE, 0, 0);
                    number++;
                }
            }
        }
        x.team(3, 0, 1);
        x.run(1);
        for (int c = 0; c < 8; c++) {
            // Breath 0 goes home, team 3 is at the foot yet, pace 4 makes it four hours more.
            boolean isWeak = c % 2 == 0;
            due("state of " + c, x.of(c, 0), isWeak ? 3 : 0);
            due("hours to go of " + c, x.of(c, 2), isWeak || c >= 4 ? 0 : c == 1 ? 1 : 5);
        }
    }

    private static void climberRefusesOthers() {
        int[][] refused = {{-1, 0, 50}, {4, 0, 50}, {0, -1, 50}, {0, 5, 50}, {0, 0, -1}, {0, 0, 201}, {3, 4, 201},
            {3, 5, 200}, {4, 4, 200}, {-1, -1, -1}, {LEAST, 0, 50}, {MOST, 0, 50}, {0, LEAST, 50}, {0, MOST, 50},
            {0, 0, LEAST}, {0, 0, MOST}, {LEAST, LEAST, LEAST}, {MOST, MOST, MOST}};
        for (int[] r : refused) {
            String call = "climber(" + r[0] + ", " + r[1] + ", " + r[2] + ")";
            Twins.dueNone(call, x -> x.climber(r[0], r[1], r[2]));
            RopeMountain x = new RopeMountain();
            for (int i = 0; i < 11; i++) {
                x.climber(0, 0, 9);
            }
            due(call + " as the twelfth", x.climber(r[0], r[1], r[2]), NONE);
            due("eleven", x.count(1), 11);
            due("then the twelfth", x.climber(0, 0, 9), 11);
        }
    }

    private static void climberIsSinceTheHourThatIs() {
        int[] hours = {0, 1, 100, 199, 200};
        for (int h : hours) {
            RopeMountain x = new RopeMountain();
            x.run(h / 2);
            x.run(h - h / 2);
            due("climber in hour " + h, x.climber(1, 2, 77), 0);
            Check.dueOf("climber in hour " + h, x, 0, 0, 0, 0, 77, NONE, 0, h);
            due("at the foot", x.at(0), 1);
            x.run(1);
            due("begins in hour " + h, x.on(0), h < 200 ? 1 : 0);
            x.begin();
            due("since 0 behind begin", x.of(0, 6), 0);
        }
    }

    private static void startIsUpToOneHundred() {
        for (int t = 0; t < 4; t++) {
            RopeMountain x = new RopeMountain();
            due("start 100", x.team(t, 0, 100), 0);
            due("start 0", x.team(t, 0, 0), 100);
            due("start 101", x.team(t, 0, 101), NONE);
            due("start -1", x.team(t, 0, -1), NONE);
            due("start as it was", x.team(t, 0, 99), 0);
            x.climber(t, 0, 50);
            x.team(t, 0, 100);
            due("up to hour 100", x.run(100), 100);
            due("not ahead of its start", x.at(0), 1);
            x.run(1);
            due("in its start hour", x.on(0), 1);
        }
    }

    private static void turnIsUpToTwoHundred() {
        for (int t = 0; t < 4; t++) {
            RopeMountain x = new RopeMountain();
            due("turn 0", x.team(t, 1, 0), 200);
            due("turn 200", x.team(t, 1, 200), 0);
            due("turn 201", x.team(t, 1, 201), NONE);
            due("turn -1", x.team(t, 1, -1), NONE);
            due("turn as it was", x.team(t, 1, 101), 200);
            due("start as it was", x.team(t, 0, 0), 0);
        }
    }

    private static void teamRefusesOthers() {
        int[][] refused = {{-1, 0, 5}, {4, 0, 5}, {-1, 1, 5}, {4, 1, 5}, {0, -1, 5}, {0, 2, 5}, {3, 2, 5}, {0, 0, -1},
            {0, 0, 101}, {3, 0, 101}, {0, 1, -1}, {0, 1, 201}, {3, 1, 201}, {LEAST, 0, 5}, {MOST, 0, 5},
            {LEAST, 1, 5}, {MOST, 1, 5}, {0, LEAST, 5}, {0, MOST, 5}, {0, 0, LEAST}, {0, 0, MOST}, {0, 1, LEAST},
            {0, 1, MOST}, {MOST, MOST, MOST}, {LEAST, LEAST, LEAST}, {0, 2, 101}, {4, 2, 201}, {0, 0, 200}};
        for (int[] r : refused) {
            Twins.dueNone("team(" + r[0] + ", " + r[1] + ", " + r[2] + ")", x -> x.team(r[0], r[1], r[2]));
        }
    }

    private static void beginOfNoneAndOfTwelve() {
        RopeMountain x = Twins.told();
        due("begin of none", x.begin(), 0);
        due("hour", x.count(2), 0);
        due("begin of none again", x.begin(), 0);
        RopeMountain y = Twins.full();
        due("begin of twelve", y.begin(), 12);
        int[] breath = {200, 9, 150, 60, 3, 40, 33, 0, 12, 120, 80, 1};
        for (int c = 0; c < 12; c++) {
            Check.dueOf("begin of twelve", y, c, 0, 0, 0, breath[c], NONE, 0, 0);
        }
        due("hour", y.count(2), 0);
        due("summits", y.count(4), 0);
        due("home", y.count(5), 0);
        due("stranded", y.count(6), 0);
        due("waits", y.count(7), 0);
        Twins.dueUnchanged("begin behind begin", () -> {
            RopeMountain z = Twins.full();
            z.begin();
            return z;
        }, RopeMountain::begin, 12);
    }
}
