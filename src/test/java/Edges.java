import java.util.ArrayList;
import java.util.List;

/**
 * What the tests of edges share: runs of calls that are made again on new objects, and a look at
 * all that is told. No object that is made here answers more than 512 calls, since the document
 * promises nothing behind them.
 */
final class Edges {
    static final int UNKNOWN = -1;
    static final int BAD_VALUE = -2;
    static final int FULL = -3;
    static final int NOT_POSSIBLE = -4;
    static final int NONE = -5;

    /** A run of calls. */
    interface Run {
        void on(DeficitCircles x);
    }

    /** One call. */
    interface Call {
        int on(DeficitCircles x);
    }

    /** One call that asks for something and changes nothing. */
    private record Look(String name, Call call) {
    }

    /** So many looks are taken at one object; then a new one is made. */
    private static final int LOOKS_AT_ONE = 80;

    private static final List<Look> LOOKS = allLooks();

    private static String sentence = "";

    private Edges() {
    }

    /** Names the sentence of the document that the next answers stand for. */
    static void sentence(String text) {
        sentence = text;
    }

    static void due(String call, int got, int want) {
        Due.equal("\"" + sentence + "\": " + call, got, want);
    }

    static DeficitCircles after(Run run) {
        DeficitCircles x = new DeficitCircles();
        run.on(x);
        return x;
    }

    static void type(DeficitCircles x, String text) {
        x.clearText();
        for (int i = 0; i < text.length(); i++) {
            x.type(text.charAt(i));
        }
    }

    /** Lets so many ticks pass, in calls of at most 500. */
    static void pass(DeficitCircles x, int ticks) {
        for (int left = ticks; left > 0; left -= 500) {
            x.pass(Math.min(500, left));
        }
    }

    /** The values just outside a range, and those that are furthest from it. */
    static int[] outside(int from, int to) {
        return new int[] {Integer.MIN_VALUE, from - 1, to + 1, Integer.MAX_VALUE};
    }

    /** The last values in a range, on both sides, and their neighbours. */
    static int[] inside(int from, int to) {
        return new int[] {from, from + 1, to - 1, to};
    }

    /** A call that is refused, or has nothing to do: it answers so, and changes nothing. */
    static void refused(String name, Run before, Call call, int answer) {
        due(name, call.on(after(before)), answer);
        alike(name + " changes nothing", before, x -> {
            before.on(x);
            call.on(x);
        });
    }

    /** An act: it answers so, and records one state, which is the one before it. */
    static void act(String name, Run before, Call call, int answer) {
        DeficitCircles x = after(before);
        int states = x.count(12);
        due(name, call.on(x), answer);
        due(name + " records one state", x.count(12), states + 1);
        alike(name + ", undone, leaves nothing", before, y -> {
            before.on(y);
            call.on(y);
            y.undo();
        });
    }

    /** Two runs leave objects that can't be told apart, whatever is asked or done behind them. */
    static void alike(String name, Run one, Run other) {
        for (int i = 0; i <= 5; i++) {
            int times = i;
            Run oneUndone = x -> undo(one, times, x);
            Run otherUndone = x -> undo(other, times, x);
            String place = name + ", behind " + times + " times undo()";
            due(place + ", undo()", after(otherUndone).undo(), after(oneUndone).undo());
            sameLooks(place, oneUndone, otherUndone);
        }
        alikeBehind(name + ", behind restore()", DeficitCircles::restore, one, other);
        alikeBehind(name + ", behind readJobs()", DeficitCircles::readJobs, one, other);
        alikeBehind(name + ", behind pass(40)", x -> x.pass(40), one, other);
    }

    private static void alikeBehind(String name, Call last, Run one, Run other) {
        due(name, last.on(after(other)), last.on(after(one)));
        sameLooks(name, x -> {
            one.on(x);
            last.on(x);
        }, x -> {
            other.on(x);
            last.on(x);
        });
    }

    private static void undo(Run run, int times, DeficitCircles x) {
        run.on(x);
        for (int i = 0; i < times; i++) {
            x.undo();
        }
    }

    private static void sameLooks(String name, Run one, Run other) {
        DeficitCircles x = null;
        DeficitCircles y = null;
        for (int i = 0; i < LOOKS.size(); i++) {
            if (i % LOOKS_AT_ONE == 0) {
                x = after(one);
                y = after(other);
            }
            Look look = LOOKS.get(i);
            due(name + ", " + look.name, look.call.on(y), look.call.on(x));
        }
    }

    private static List<Look> allLooks() {
        List<Look> looks = new ArrayList<>();
        for (int i = 0; i < 14; i++) {
            int what = i;
            looks.add(new Look("count(" + i + ")", x -> x.count(what)));
        }
        for (int i = 0; i < 3 * 7; i++) {
            int group = i / 7;
            int what = i % 7;
            looks.add(new Look("group(" + group + ", " + what + ")", x -> x.group(group, what)));
        }
        for (int i = 0; i < 8 * 11; i++) {
            int which = i / 11;
            int what = i % 11;
            looks.add(new Look("classOf(" + which + ", " + what + ")",
                    x -> x.classOf(which, what)));
        }
        for (int i = 0; i < 8; i++) {
            int which = i;
            int other = (i + 1) % 8;
            looks.add(new Look("shares(" + i + ", " + other + ")", x -> x.shares(which, other)));
        }
        for (int job : new int[] {0, 1, 2, 3, 4, 5, 6, 7, 14, 58, 59, 60, 61, 140, 198, 199}) {
            addLooksAtJob(looks, job);
        }
        return looks;
    }

    private static void addLooksAtJob(List<Look> looks, int job) {
        for (int i = 0; i < 8; i++) {
            int what = i;
            looks.add(new Look("job(" + job + ", " + what + ")", x -> x.job(job, what)));
        }
        looks.add(new Look("beginsAt(" + job + ")", x -> x.beginsAt(job)));
        looks.add(new Look("bound(" + job + ")", x -> x.bound(job)));
        looks.add(new Look("served(" + job + ")", x -> x.served(job)));
    }
}
