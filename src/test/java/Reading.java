import java.util.function.Supplier;

/**
 * What is told but cannot be asked: each reading uses up a new object of the maker, which has no climbers and at
 * least one pitch.
 */
final class Reading {
    private Reading() {
    }

    /** How long pitch s takes one of pace 0. */
    static int length(Supplier<RopeMountain> make, int s) {
        RopeMountain x = make.get();
        readyTeam(x, 0);
        x.wind(0, 199, false);
        x.high(x.count(0));
        x.climber(0, 0, 200);
        x.begin();
        for (int h = 0; h < 100; h++) {
            x.run(1);
            if (x.of(0, 1) == s && x.of(0, 2) > 0) {
                return x.of(0, 2);
            }
        }
        return RopeMountain.NONE;
    }

    /** How many of twelve begin pitch s in one hour, gathered below it by the wind. */
    static int width(Supplier<RopeMountain> make, int s) {
        RopeMountain x = make.get();
        readyTeam(x, 0);
        x.wind(0, 199, false);
        x.high(x.count(0));
        for (int i = 0; i < 12; i++) {
            x.climber(0, 0, 200);
        }
        for (int below = 0; below < s; below++) {
            x.pitch(below, below == s - 1 ? 8 : 1, 6);
        }
        x.begin();
        if (s > 0) {
            // Six begin pitch s - 1 in hour s - 1, six in hour s; 8 hours later they are above it.
            x.wind(s + 7, s + 8, true);
            x.run(s + 9);
            Check.due("all gathered below pitch " + s, x.at(s), 12);
        }
        x.run(1);
        return x.on(s);
    }

    /** Whether one who is at the foot in that hour cannot begin. */
    static boolean isWindy(Supplier<RopeMountain> make, int hour) {
        RopeMountain x = make.get();
        readyTeam(x, 3);
        x.begin();
        x.run(hour / 2);
        x.run(hour - hour / 2);
        x.climber(3, 0, 9);
        x.run(1);
        return x.on(0) == 0;
    }

    private static void readyTeam(RopeMountain x, int team) {
        x.team(team, 0, 0);
        x.team(team, 1, 200);
    }
}
