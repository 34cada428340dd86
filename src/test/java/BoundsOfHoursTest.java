/** The boundary sentences of Terms 1 and 2: what happens in an hour, step by step. */
public final class BoundsOfHoursTest {
    private static final int NONE = RopeMountain.NONE;

    public static void main(String[] args) {
        aPitchTakesLengthAndPace();
        aWeakOneTakesTwice();
        oneAtTheEndIsThereSinceThisHour();
        summitIsTheHourOfTheTop();
        atTheTopForOneHour();
        turnsInTheTurnHour();
        turnOfTheLastHours();
        turnsNotAheadOfTheStart();
        turnsNotOnAPitch();
        weakTurnsAtOnce();
        homeAtTheFoot();
        leavesTheFootInTheStartHour();
        widthOfThemBegin();
        downFirstThenUp();
        downFirstOfTheLastHour();
        theEarlierThenTheLessNumber();
        fromTheLastPitchToTheFirst();
        windStopsBeginning();
        breathIsNotBelowZero();
        breathIsLessInHighPlacesAlone();
        strandedBehindSixHours();
        strandedOnlyIfWeak();
        strandedOnlyAtAHighCamp();
        strandedStays();
        homeIsNotStranded();
        waitsAtCampsButTheFoot();
        waitsOfTwelve();
        Check.end();
    }

    private static void due(String what, long got, long want) {
        Check.due(what, got, want);
    }

    private static RopeMountain ofPitches(int n) {
        RopeMountain x = new RopeMountain();
        x.mountain(n);
        return x;
    }

    /** Twelve alike at the foot of one pitch. */
    private static RopeMountain twelve(int length, int width) {
        RopeMountain x = ofPitches(1);
        x.pitch(0, length, width);
        for (int i = 0; i < 12; i++) {
            x.climber(0, 0, 200);
        }
        return x;
    }

    private static void aPitchTakesLengthAndPace() {
        for (int length = 1; length <= 8; length++) {
            for (int pace = 0; pace <= 4; pace++) {
                RopeMountain x = ofPitches(1);
                x.pitch(0, length, 1);
                x.climber(2, pace, 200);
                x.run(1);
                due("up: length " + length + ", pace " + pace, x.of(0, 2), length + pace);
                x.run(length + pace - 1);
                due("the hour ahead of the top", x.of(0, 2), 1);
                x.run(1);
                Check.dueOf("at the top", x, 0, 1, 1, 0, 199, length + pace, 0, length + pace);
                x.run(1);
                due("down: length " + length + " without pace", x.of(0, 2), length);
                x.run(length);
                Check.dueOf("home", x, 0, 3, 0, 0, 199, length + pace, 0, 2 * length + pace + 1);
            }
        }
    }

    private static void aWeakOneTakesTwice() {
        for (int breath = 1; breath <= 2; breath++) {
            for (int length = 1; length <= 8; length++) {
                RopeMountain x = ofPitches(1);
                x.pitch(0, length, 1);
                x.climber(0, 4, breath);
                x.run(length + 4 + 1);
                due("breath at the top", x.of(0, 3), breath - 1);
                x.run(1);
                due("down with breath " + (breath - 1), x.of(0, 2), breath == 1 ? 2 * length : length);
            }
        }
        // Breath that ends on the pitch does not make it longer: it takes what it takes when begun.
        RopeMountain x = ofPitches(1);
        x.high(0);
        x.pitch(0, 8, 1);
        x.climber(0, 4, 1);
        x.run(1);
        due("begun with breath 1", x.of(0, 2) * 10 + x.of(0, 3), 120);
        x.run(12);
        due("12 hours", x.of(0, 4), 12);
    }

    private static void oneAtTheEndIsThereSinceThisHour() {
        RopeMountain x = new RopeMountain();
        x.pitch(0, 1, 1);
        x.climber(0, 0, 50);
        x.wind(1, 1, true);
        x.run(1);
        Check.dueOf("on it", x, 0, 0, 0, 1, 50, NONE, 0, NONE);
        x.run(1);
        Check.dueOf("at its end since hour 1", x, 0, 0, 1, 0, 49, NONE, 1, 1);
        x.run(1);
        Check.dueOf("on the next one", x, 0, 0, 1, 2, 48, NONE, 1, NONE);
    }

    private static void summitIsTheHourOfTheTop() {
        RopeMountain x = ofPitches(1);
        x.pitch(0, 1, 1);
        x.climber(0, 0, 50);
        x.run(1);
        due("none yet", x.of(0, 4), NONE);
        due("no summits", x.count(4), 0);
        x.run(1);
        due("the earliest summit", x.of(0, 4), 1);
        due("one summit", x.count(4), 1);
        x.run(50);
        due("home it has it", x.of(0, 4), 1);
        due("one summit", x.count(4), 1);
        for (int h = 196; h <= 199; h++) {
            RopeMountain y = ofPitches(1);
            y.run(100);
            y.run(h - 100);
            y.climber(0, 0, 50);
            y.run(100);
            due("begun in hour " + h, y.of(0, 4), h + 2 < 200 ? h + 2 : NONE);
            due("summits", y.count(4), h + 2 < 200 ? 1 : 0);
        }
    }

    private static void atTheTopForOneHour() {
        RopeMountain x = new RopeMountain();
        x.climber(0, 0, 50);
        x.climber(1, 0, 5);
        x.team(1, 0, 20);
        x.team(1, 1, 20);
        x.team(0, 1, 4);
        x.run(5);
        due("in its turn hour at the top now, not down", x.of(0, 0), 1);
        due("still there", x.at(2), 1);
        x.run(1);
        Check.dueOf("down in the hour behind", x, 0, 2, 2, 2, 46, 4, 0, NONE);
        due("none there", x.at(2), 0);
        // Weak when it comes to the top: it is at the top now all the same, and its summit counts.
        RopeMountain y = new RopeMountain();
        y.climber(0, 0, 1);
        y.run(5);
        Check.dueOf("weak at the top", y, 0, 1, 2, 0, 0, 4, 0, 4);
        y.run(1);
        Check.dueOf("down, twice the hours", y, 0, 2, 2, 4, 0, 4, 0, NONE);
    }

    private static void turnsInTheTurnHour() {
        for (int turn = 1; turn <= 5; turn++) {
            RopeMountain x = new RopeMountain();
            x.climber(3, 0, 50);
            x.team(3, 1, turn);
            x.wind(2, 4, true);
            for (int h = 0; h < 5; h++) {
                x.run(1);
                // At camp 1 since hour 2; ahead of that on pitch 0, where nobody turns.
                boolean hasTurned = h >= turn && h >= 2;
                due("turn " + turn + ": behind hour " + h, x.of(0, 0), hasTurned ? 2 : 0);
            }
            x.run(1);
            due("turn 5 turns in hour 5 too", x.of(0, 0), 2);
        }
        RopeMountain x = new RopeMountain();
        x.climber(3, 0, 50);
        x.team(3, 1, 6);
        x.wind(2, 4, true);
        x.run(6);
        due("turn 6: begins pitch 1 in hour 5", x.on(1) * 10 + x.of(0, 0), 10);
        RopeMountain y = new RopeMountain();
        y.climber(3, 0, 50);
        y.team(3, 1, 0);
        y.run(1);
        due("turn 0 at the foot", y.of(0, 0), 3);
        due("another team's turn is its own", y.team(2, 1, 200), 200);
    }

    private static void turnOfTheLastHours() {
        for (int turn = 198; turn <= 200; turn++) {
            RopeMountain x = new RopeMountain();
            x.team(1, 1, turn);
            x.run(100);
            x.run(95);
            x.climber(1, 0, 50);
            x.wind(195, 199, true);
            x.run(100);
            due("turn " + turn, x.of(0, 0), turn < 200 ? 3 : 0);
            due("hour", x.count(2), 200);
        }
    }

    private static void turnsNotAheadOfTheStart() {
        for (int start = 0; start <= 100; start += 25) {
            RopeMountain x = new RopeMountain();
            x.climber(0, 0, 50);
            x.team(0, 0, start);
            x.team(0, 1, Math.max(start - 10, 0));
            x.run(start);
            due("ahead of start " + start, x.of(0, 0), 0);
            due("at the foot", x.at(0), 1);
            x.run(1);
            Check.dueOf("turns in its start hour " + start, x, 0, 3, 0, 0, 50, NONE, 0, 0);
            due("nobody on the pitch", x.on(0), 0);
        }
        for (int turn = 5; turn <= 7; turn++) {
            RopeMountain x = new RopeMountain();
            x.climber(0, 0, 50);
            x.team(0, 0, 6);
            x.team(0, 1, turn);
            x.run(7);
            due("start 6, turn " + turn, x.of(0, 0), turn <= 6 ? 3 : 0);
            due("start 6, turn " + turn + ": on the pitch", x.on(0), turn <= 6 ? 0 : 1);
        }
        // A start that is told later holds at other camps too.
        RopeMountain x = new RopeMountain();
        x.climber(0, 0, 50);
        x.team(0, 1, 2);
        x.wind(2, 9, true);
        x.run(1);
        x.team(0, 0, 5);
        x.run(4);
        due("at camp 1 ahead of the new start", x.of(0, 0), 0);
        x.run(1);
        due("at camp 1 in the new start hour", x.of(0, 0), 2);
    }

    private static void turnsNotOnAPitch() {
        RopeMountain x = ofPitches(1);
        x.pitch(0, 8, 1);
        x.climber(0, 4, 50);
        x.team(0, 1, 1);
        x.run(12);
        due("on the pitch it goes on up", x.of(0, 0), 0);
        x.run(1);
        due("to the top", x.of(0, 4), 12);
    }

    private static void weakTurnsAtOnce() {
        for (int breath = 0; breath <= 3; breath++) {
            RopeMountain x = new RopeMountain();
            x.climber(0, 0, breath);
            x.wind(2, 20, true);
            x.run(1);
            due("breath " + breath + " at the foot", x.of(0, 0), breath == 0 ? 3 : 0);
            x.run(breath);
            due("breath behind hour " + breath, x.of(0, 3), breath == 0 ? 0 : 1);
            x.run(1);
            due("weak behind hour " + (breath + 1), x.of(0, 3), 0);
            due("not turned in that hour", x.of(0, 0), breath == 0 ? 3 : 0);
            x.run(1);
            due("turned in the hour behind", x.of(0, 0), breath == 0 ? 3 : 2);
        }
    }

    private static void homeAtTheFoot() {
        RopeMountain x = ofPitches(1);
        x.pitch(0, 1, 1);
        x.climber(0, 0, 50);
        x.run(3);
        Check.dueOf("going down", x, 0, 2, 1, 1, 49, 1, 0, NONE);
        due("none home", x.count(5), 0);
        x.run(1);
        Check.dueOf("home in the hour it comes", x, 0, 3, 0, 0, 49, 1, 0, 3);
        due("one home", x.count(5), 1);
        due("at the foot", x.at(0), 1);
        x.run(100);
        Check.dueOf("it goes no more", x, 0, 3, 0, 0, 49, 1, 0, 3);
    }

    private static void leavesTheFootInTheStartHour() {
        for (int start = 0; start <= 100; start += 20) {
            RopeMountain x = new RopeMountain();
            x.climber(2, 0, 50);
            x.climber(1, 0, 50);
            x.team(2, 0, start);
            x.team(1, 0, 100);
            x.run(start);
            due("ahead of start " + start, x.at(0), 2);
            x.run(1);
            due("in hour " + start, x.of(0, 2), 2);
            due("the other team", x.of(1, 2), 0);
        }
        // The start holds at the foot alone: higher up a later one keeps nobody.
        RopeMountain x = new RopeMountain();
        x.climber(2, 0, 50);
        x.run(1);
        x.team(2, 0, 100);
        x.run(2);
        due("at camp 1 it goes on", x.on(1), 1);
    }

    private static void widthOfThemBegin() {
        for (int width = 1; width <= 6; width++) {
            RopeMountain x = twelve(8, width);
            int begun = 0;
            for (int h = 0; h < 7; h++) {
                x.run(1);
                begun = Math.min(begun + width, 12);
                due("width " + width + ": behind hour " + h, x.on(0), begun);
                due("at the foot", x.at(0), 12 - begun);
            }
        }
        for (int there = 0; there <= 7; there++) {
            RopeMountain x = new RopeMountain();
            x.pitch(0, 8, 6);
            for (int i = 0; i < there; i++) {
                x.climber(0, 0, 50);
            }
            x.run(1);
            due("width 6 of " + there, x.on(0), Math.min(there, 6));
        }
    }

    private static void downFirstThenUp() {
        for (int width = 1; width <= 6; width++) {
            RopeMountain x = twelve(1, width);
            x.wind(1, 1, true);
            // In hour 1 the first ones are at the top; in hour 2 they go down, as many as may begin.
            x.run(3);
            for (int c = 0; c < 12; c++) {
                due("width " + width + ": state of " + c, x.of(c, 0), c < width ? 2 : 0);
                due("width " + width + ": hours to go of " + c, x.of(c, 2), c < width ? 1 : 0);
            }
            x.run(1);
            due("then those going up", x.on(0), Math.min(width, 12 - width));
            due("home", x.count(5), width);
        }
        // One goes down, so that of three places two are left for those going up.
        RopeMountain x = ofPitches(1);
        x.pitch(0, 1, 3);
        for (int i = 0; i < 4; i++) {
            x.climber(i == 3 ? 0 : 1, 0, 50);
        }
        x.team(1, 0, 2);
        x.run(3);
        int[] toGo = {1, 1, 0, 1};
        for (int c = 0; c < 4; c++) {
            due("places shared: hours to go of " + c, x.of(c, 2), toGo[c]);
        }
    }

    /** One who comes down in the last hour goes ahead of one that is at the foot since the first. */
    private static void downFirstOfTheLastHour() {
        RopeMountain x = new RopeMountain();
        x.high(2);
        x.pitch(1, 8, 1);
        x.climber(0, 0, 50);
        x.climber(0, 0, 50);
        x.climber(1, 0, 200);
        x.team(0, 0, 100);
        x.wind(11, 198, true);
        x.wind(191, 191, false);
        x.run(100);
        x.run(92);
        due("0 begins pitch 0 in hour 191", x.of(0, 2), 2);
        due("2 goes down on pitch 1 since then", x.of(2, 0) * 10 + x.of(2, 2), 28);
        x.run(7);
        Check.dueOf("1 is at the foot since hour 0", x, 1, 0, 0, 0, 50, NONE, 0, 0);
        x.run(1);
        Check.dueOf("2 goes on down in hour 199", x, 2, 2, 1, 2, 19, 10, 180, NONE);
        Check.dueOf("1 is at the foot yet", x, 1, 0, 0, 0, 50, NONE, 0, 0);
    }

    private static void theEarlierThenTheLessNumber() {
        RopeMountain x = twelve(8, 1);
        for (int h = 0; h < 7; h++) {
            x.run(1);
            due("the less number in hour " + h, x.of(h, 2), 8);
            due("the next one waits", x.of(h + 1, 6), 0);
        }
        RopeMountain y = new RopeMountain();
        y.pitch(0, 8, 1);
        for (int i = 0; i < 12; i++) {
            // The later numbers start earlier, but who is at the foot since an earlier hour goes first.
            y.climber(i < 6 ? 0 : 1, 0, 50);
            y.run(i == 5 ? 1 : 0);
        }
        due("since", y.of(11, 6) * 10 + y.of(1, 6), 10);
        y.run(5);
        for (int c = 0; c < 12; c++) {
            due("begun: " + c, y.of(c, 2) > 0 ? 1 : 0, c < 6 ? 1 : 0);
        }
        // At camp 1 number 1 is since hour 1, number 0 since hour 3: the earlier one first.
        RopeMountain z = new RopeMountain();
        z.pitch(0, 1, 2);
        z.climber(0, 2, 50);
        z.climber(0, 0, 50);
        z.wind(1, 3, true);
        z.run(5);
        due("the earlier one", z.of(1, 2), 2);
        due("the later one", z.of(0, 6), 3);
        // Of two going down the one that is at the top since the earlier hour.
        RopeMountain v = ofPitches(1);
        v.pitch(0, 1, 2);
        v.climber(0, 1, 50);
        v.climber(0, 0, 50);
        v.wind(2, 4, true);
        v.pitch(0, 1, 2);
        v.run(1);
        v.pitch(0, 1, 1);
        v.run(5);
        due("down: the earlier one", v.of(1, 2), 1);
        due("down: the later one", v.of(0, 6), 2);
    }

    private static void fromTheLastPitchToTheFirst() {
        // Each hour each pitch is begun once: a row of climbers an hour apart, on all pitches at once.
        RopeMountain x = ofPitches(6);
        for (int s = 0; s < 6; s++) {
            x.pitch(s, 1, 1);
        }
        for (int i = 0; i < 6; i++) {
            x.climber(0, 0, 50);
        }
        x.run(6);
        for (int s = 0; s < 6; s++) {
            due("one on pitch " + s, x.on(s), 1);
            due("it is number " + (5 - s), x.of(5 - s, 1), s);
        }
    }

    private static void windStopsBeginning() {
        int[] windy = {0, 1, 50, 198, 199};
        for (int hour : windy) {
            RopeMountain x = new RopeMountain();
            x.wind(hour, hour, true);
            x.run(hour / 2);
            x.run(hour - hour / 2);
            x.climber(0, 0, 50);
            x.run(1);
            due("in the wind of hour " + hour, x.on(0), 0);
            x.run(1);
            due("in the hour behind", x.on(0), hour == 199 ? 0 : 1);
        }
        // Down too; and the top is the top, the foot home, in the wind as well.
        RopeMountain x = ofPitches(1);
        x.climber(0, 0, 50);
        x.wind(1, 3, true);
        x.wind(5, 6, true);
        x.run(3);
        due("summit in the wind", x.of(0, 4), 2);
        x.run(1);
        due("nobody begins down", x.of(0, 0) * 10 + x.on(0), 20);
        x.run(1);
        due("down in hour 4", x.on(0), 1);
        x.run(2);
        due("home in the wind", x.of(0, 0), 3);
    }

    private static void breathIsNotBelowZero() {
        for (int breath = 0; breath <= 3; breath++) {
            RopeMountain x = new RopeMountain();
            x.high(0);
            x.climber(0, 0, breath);
            x.climber(0, 4, breath);
            for (int h = 0; h < 40; h++) {
                x.run(1);
                int least = Math.max(breath - h - 1, 0);
                due("breath " + breath + " behind hour " + h, x.of(0, 3), least);
                due("breath of the other one", x.of(1, 3), least);
            }
        }
        RopeMountain x = new RopeMountain();
        x.high(0);
        x.climber(0, 0, 200);
        x.wind(0, 199, true);
        x.run(100);
        due("breath 200 behind 100 hours", x.of(0, 3), 100);
        x.run(99);
        due("breath 200 behind 199 hours", x.of(0, 3), 1);
        due("not weak", x.of(0, 0), 0);
        x.run(1);
        due("breath 200 behind 200 hours", x.of(0, 3), 0);
        due("stranded in hour 199", x.of(0, 0), 4);
    }

    private static void breathIsLessInHighPlacesAlone() {
        RopeMountain x = new RopeMountain();
        x.climber(0, 0, 50);
        x.wind(0, 199, true);
        x.run(100);
        due("the foot below high 1", x.of(0, 3), 50);
        x.high(0);
        x.run(10);
        due("the foot as high", x.of(0, 3), 40);
        x.high(1);
        x.run(10);
        due("the foot below it again", x.of(0, 3), 40);
        // Down on a pitch: it is high by its lower camp.
        RopeMountain y = new RopeMountain();
        y.climber(0, 0, 50);
        y.run(6);
        due("down on pitch 1", y.on(1) * 100 + y.of(0, 3), 146);
        y.high(2);
        y.run(1);
        due("below high 2", y.of(0, 3), 46);
        y.high(1);
        y.run(1);
        due("on pitch 0, behind camp 1, below high 1", y.on(0) * 100 + y.of(0, 3), 146);
        y.high(0);
        y.run(1);
        due("on pitch 0, high", y.of(0, 3), 45);
    }

    private static void strandedBehindSixHours() {
        // At camp 1 since hour 2, weak there in hour 2: the hours 2 .. 7 are fewer than six behind.
        RopeMountain x = new RopeMountain();
        x.climber(0, 0, 1);
        x.wind(2, 100, true);
        for (int h = 0; h < 12; h++) {
            x.run(1);
            due("stranded behind hour " + h, x.count(6), h >= 8 ? 1 : 0);
            due("waits behind hour " + h, x.of(0, 5), Math.max(Math.min(h, 7) - 1, 0));
        }
        // In its sixth hour it begins the pitch, ahead of step 4.
        RopeMountain y = new RopeMountain();
        y.climber(0, 0, 1);
        y.wind(2, 7, true);
        y.run(9);
        Check.dueOf("begun in hour 8", y, 0, 2, 1, 4, 0, NONE, 6, NONE);
        y.run(10);
        due("home", y.of(0, 0), 3);
    }

    private static void strandedOnlyIfWeak() {
        for (int breath = 1; breath <= 12; breath++) {
            RopeMountain x = new RopeMountain();
            x.climber(0, 0, breath);
            x.wind(2, 100, true);
            // Breath is 0 behind hour 1 + breath; six hours are over in hour 8.
            int hour = Math.max(1 + breath, 8);
            x.run(hour);
            due("breath " + breath + ": not yet", x.of(0, 0) == 4 ? 1 : 0, 0);
            x.run(1);
            due("breath " + breath + ": in hour " + hour, x.of(0, 0), 4);
        }
    }

    private static void strandedOnlyAtAHighCamp() {
        RopeMountain x = new RopeMountain();
        x.climber(0, 0, 1);
        x.wind(2, 100, true);
        x.run(5);
        x.high(2);
        x.run(30);
        Check.dueOf("weak at a low camp", x, 0, 2, 1, 0, 0, NONE, 33, 2);
        x.high(1);
        x.run(1);
        Check.dueOf("it is high again", x, 0, 4, 1, 0, 0, NONE, 33, 2);
        // On a high pitch, weak, for more than six hours: not stranded.
        RopeMountain y = ofPitches(1);
        y.high(0);
        y.pitch(0, 8, 1);
        y.climber(0, 4, 1);
        y.run(12);
        due("weak on a pitch", y.of(0, 0) * 10 + y.of(0, 3), 0);
        y.run(2);
        due("weak down", y.of(0, 2), 16);
        y.run(15);
        due("in its last hour", y.of(0, 0) * 10 + y.of(0, 2), 21);
        y.run(1);
        due("home", y.of(0, 0), 3);
    }

    private static void strandedStays() {
        RopeMountain x = new RopeMountain();
        x.climber(0, 0, 1);
        x.climber(1, 0, 100);
        x.team(1, 0, 20);
        x.wind(2, 8, true);
        x.run(9);
        due("stranded", x.of(0, 0), 4);
        for (int h = 9; h < 100; h++) {
            x.run(1);
        }
        Check.dueOf("in hour 100", x, 0, 4, 1, 0, 0, NONE, 6, 2);
        due("the other one goes by", x.of(1, 0), 3);
        due("at camp 1", x.at(1), 1);
        x.high(2);
        x.team(0, 1, 0);
        x.run(100);
        Check.dueOf("in hour 200", x, 0, 4, 1, 0, 0, NONE, 6, 2);
        due("begin", x.begin(), 2);
        Check.dueOf("begin frees it", x, 0, 0, 0, 0, 1, NONE, 0, 0);
    }

    private static void homeIsNotStranded() {
        RopeMountain x = new RopeMountain();
        x.high(0);
        x.climber(0, 0, 0);
        x.climber(0, 0, 50);
        x.run(100);
        Check.dueOf("weak and home", x, 0, 3, 0, 0, 0, NONE, 0, 0);
        due("home keeps its breath", x.of(1, 3), 50 - 9);
        due("none stranded", x.count(6), 0);
        due("both home", x.count(5), 2);
    }

    private static void waitsAtCampsButTheFoot() {
        RopeMountain x = new RopeMountain();
        x.climber(0, 0, 50);
        x.wind(0, 1, true);
        x.wind(4, 6, true);
        x.wind(9, 12, true);
        x.wind(15, 15, true);
        // Foot 0 .. 1; pitch 0 2 .. 3; camp 1 4 .. 6; pitch 1 7 .. 8; top 9 .. 12; down 13, 14; camp 1 15.
        int[] waits = {0, 0, 0, 0, 1, 2, 3, 3, 3, 3, 4, 5, 6, 6, 6, 7, 7, 7, 7, 7};
        for (int h = 0; h < waits.length; h++) {
            x.run(1);
            due("waits behind hour " + h, x.of(0, 5), waits[h]);
            due("waits in all behind hour " + h, x.count(7), waits[h]);
        }
        due("home", x.of(0, 0), 3);
    }

    private static void waitsOfTwelve() {
        RopeMountain x = new RopeMountain();
        x.pitch(0, 1, 6);
        for (int i = 0; i < 12; i++) {
            x.climber(0, 0, 200);
        }
        x.wind(2, 199, true);
        x.run(100);
        x.run(100);
        // One begins pitch 1 in hour 1, at the top from hour 3 on; five wait from 1, six from 2 on.
        due("waits of the first one", x.of(0, 5), 196);
        due("waits of the second one", x.of(1, 5), 199);
        due("waits of the last one", x.of(11, 5), 198);
        due("waits in all", x.count(7), 196 + 5 * 199 + 6 * 198);
        due("stranded in the last hours", x.count(6), 0);
    }
}
