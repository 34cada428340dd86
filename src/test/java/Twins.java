import java.util.ArrayList;
import java.util.List;
import java.util.NoSuchElementException;
import java.util.function.Predicate;
import java.util.function.Supplier;
import java.util.function.ToIntFunction;

/**
 * Whether a refused call changes anything: two objects are made alike, one of them gets the call, and then all
 * that can be asked is asked of both.
 */
final class Twins {
    static final int THROWS = -99;
    private static final int NONE = RopeMountain.NONE;
    private static final int MOST_CALLS = 512;

    private Twins() {
    }

    /** No climbers, but all else is told, and it is hour 7. */
    static RopeMountain told() {
        RopeMountain x = new RopeMountain();
        x.mountain(4);
        x.high(3);
        for (int s = 0; s < 4; s++) {
            x.pitch(s, 4 - s, 1 + s);
        }
        for (int t = 0; t < 4; t++) {
            x.team(t, 0, 5 * t);
            x.team(t, 1, 150 - 40 * t);
        }
        x.wind(11, 14, true);
        x.wind(40, 41, true);
        x.run(7);
        return x;
    }

    /** Twelve climbers in hour 26, of whom each state and each kind of place has some. */
    static RopeMountain full() {
        RopeMountain x = new RopeMountain();
        x.mountain(3);
        x.pitch(0, 2, 3);
        x.pitch(1, 3, 2);
        x.pitch(2, 2, 2);
        int[] start = {0, 4, 12, 30};
        int[] turn = {60, 16, 200, 40};
        for (int t = 0; t < 4; t++) {
            x.team(t, 0, start[t]);
            x.team(t, 1, turn[t]);
        }
        x.wind(6, 12, true);
        x.wind(20, 21, true);
        x.wind(150, 170, true);
        int[] breath = {200, 9, 150, 60, 3, 40, 33, 0, 12, 120, 80, 1};
        for (int i = 0; i < 12; i++) {
            x.climber(i % 4, i % 5, breath[i]);
        }
        x.run(26);
        return x;
    }

    static void dueFalse(String what, Predicate<RopeMountain> call) {
        dueUnchanged(what, x -> call.test(x) ? 1 : 0, 0);
    }

    static void dueNone(String what, ToIntFunction<RopeMountain> call) {
        dueUnchanged(what, call, NONE);
    }

    /** The call answers as due on a new object, on one without climbers and on one with twelve. */
    static void dueUnchanged(String what, ToIntFunction<RopeMountain> call, int answer) {
        dueUnchanged(what + " on a new object", RopeMountain::new, call, answer);
        dueUnchanged(what + " on one that is told", Twins::told, call, answer);
        dueUnchanged(what + " on one with twelve", Twins::full, call, answer);
    }

    static void dueUnchanged(String what, Supplier<RopeMountain> make, ToIntFunction<RopeMountain> call,
            int answer) {
        RopeMountain x = make.get();
        Check.due(what, call.applyAsInt(x), answer);
        List<String> got = all(x);
        List<String> want = all(make.get());
        boolean isSame = got.equals(want);
        Check.due(what + " changes nothing", isSame, true);
        for (int k = 0; !isSame && k < got.size(); k++) {
            if (!got.get(k).equals(want.get(k))) {
                System.out.println("  then " + got.get(k) + ", and without it " + want.get(k));
                return;
            }
        }
    }

    static int of(RopeMountain x, int climber, int what) {
        try {
            return x.of(climber, what);
        } catch (NoSuchElementException e) {
            return e.getClass() == NoSuchElementException.class ? THROWS : THROWS - 1;
        }
    }

    /** What can be asked at once, then what the hours up to 200 show of all that is told. */
    private static List<String> all(RopeMountain x) {
        List<String> answers = new ArrayList<>();
        look(x, answers);
        int n = x.count(0);
        for (int what = 0; what < 3; what++) {
            answers.add("tries " + what + ": " + x.tries(3, 10, 1, 4, what));
            answers.add("tries of one " + what + ": " + x.tries(1, 0, 0, 0, what));
        }
        answers.add("need " + x.need(n, 200));
        answers.add("comes " + x.comes(n, 2000));
        answers.add("run " + x.run(1));
        for (int i = 0; i < 12; i++) {
            answers.add("climber " + x.climber(i % 4, i % 3, 200 - i));
        }
        answers.add("begin " + x.begin());
        for (int k = 0; k < 25; k++) {
            answers.add("run " + x.run(k < 15 ? 3 : 16));
            places(x, n, answers);
        }
        for (int t = 0; t < 4; t++) {
            answers.add("start " + x.team(t, 0, 0));
            answers.add("turn " + x.team(t, 1, 0));
        }
        Check.due("calls within what an object is used for", answers.size() + 60 <= MOST_CALLS, true);
        return answers;
    }

    private static void look(RopeMountain x, List<String> answers) {
        for (int what = 0; what < 8; what++) {
            answers.add("count(" + what + ") " + x.count(what));
        }
        for (int c = 0; c < x.count(1); c++) {
            for (int what = 0; what < 7; what++) {
                answers.add("of(" + c + ", " + what + ") " + x.of(c, what));
            }
            answers.add("fetch(" + c + ") " + x.fetch(c));
        }
        places(x, x.count(0), answers);
    }

    private static void places(RopeMountain x, int n, List<String> answers) {
        for (int s = 0; s < n; s++) {
            answers.add("on(" + s + ") " + x.on(s));
        }
        for (int camp = 0; camp <= n; camp++) {
            answers.add("at(" + camp + ") " + x.at(camp));
        }
    }
}
