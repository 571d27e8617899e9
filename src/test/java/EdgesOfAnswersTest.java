import java.util.Random;

/** The edges of what is told: the ranges of the arguments, none, the first, the last, the most. */
public final class EdgesOfAnswersTest {
    private static final int UNKNOWN = Edges.UNKNOWN;
    private static final int BAD_VALUE = Edges.BAD_VALUE;
    private static final int NOT_POSSIBLE = Edges.NOT_POSSIBLE;
    private static final int NONE = Edges.NONE;

    private EdgesOfAnswersTest() {
    }

    private static void told(String name, int[] answers, Told call) {
        for (int what = 0; what < answers.length; what++) {
            Edges.due(name + ", " + what, call.of(what), answers[what]);
        }
    }

    /** A call that tells what it is asked for by a number. */
    private interface Told {
        int of(int what);
    }

    private static void group() {
        Edges.sentence("group: what: 0 for its quantum .. 6 for the units served since the mark");
        DeficitCircles x = new DeficitCircles();
        x.addGroup(44);
        told("a new one", new int[] {44, 100000, 0, 0, 0, NONE, 0}, what -> x.group(0, what));
        DeficitCircles y = Edges.after(Servers::mixed);
        for (int what : Edges.outside(0, 6)) {
            Edges.due("group(0, " + what + ")", y.group(0, what), BAD_VALUE);
            Edges.due("group(1, " + what + ")", y.group(1, what), BAD_VALUE);
            Edges.refused("group(0, " + what + ")", Servers::mixed,
                    z -> z.group(0, what), BAD_VALUE);
        }
        Edges.due("classes", y.group(0, 2), 2);
        Edges.due("classes of group 1", y.group(1, 2), 1);
        Edges.due("jobs that wait, without the one in service", y.group(0, 3), 1);
        Edges.due("their sizes", y.group(0, 4), 12);
        Edges.due("jobs that wait of group 1", y.group(1, 3), 2);
        Edges.due("their sizes", y.group(1, 4), 50);
        Edges.due("units", y.group(0, 6), 12);
        Edges.due("units", y.group(1, 6), 0);
        Edges.sentence("group: UNKNOWN; BAD_VALUE");
        for (int group : Edges.outside(0, 1)) {
            Edges.due("group(" + group + ", 0)", y.group(group, 0), UNKNOWN);
            Edges.due("group(" + group + ", 6)", y.group(group, 6), UNKNOWN);
            Edges.due("group(" + group + ", -1)", y.group(group, -1), UNKNOWN);
            Edges.due("group(" + group + ", 7)", y.group(group, 7), UNKNOWN);
        }
        Edges.due("group(3, 0) of three", Edges.after(Servers::wide).group(3, 0), UNKNOWN);
        Edges.due("group(2, 0) of three", Edges.after(Servers::wide).group(2, 0), 200);
    }

    private static void classOf() {
        Edges.sentence("classOf: what: 0 for its group .. 10 for the units served");
        DeficitCircles x = new DeficitCircles();
        x.addGroup(44);
        x.addClass(0, 33, 222, 11);
        told("a new one", new int[] {0, 33, 100000, 0, 0, 222, 0, NONE, 0, 0, 0},
                what -> x.classOf(0, what));
        DeficitCircles y = Edges.after(Servers::mixed);
        for (int what : Edges.outside(0, 10)) {
            Edges.refused("classOf(0, " + what + ")", Servers::mixed,
                    z -> z.classOf(0, what), BAD_VALUE);
        }
        told("class 0 of mixed()", new int[] {0, 4, 100003, 1, 12, 100, 0, 3, 1, 0, 5},
                what -> y.classOf(0, what));
        told("class 1 of mixed()", new int[] {1, 6, 100024, 2, 50, 10, 15, 1, 0, 0, 0},
                what -> y.classOf(1, what));
        told("class 2 of mixed()", new int[] {0, 8, 100000, 0, 0, 10, 0, NONE, 0, 5, 7},
                what -> y.classOf(2, what));
        Edges.sentence("classOf: UNKNOWN; BAD_VALUE");
        for (int which : Edges.outside(0, 2)) {
            Edges.due("classOf(" + which + ", 0)", y.classOf(which, 0), UNKNOWN);
            Edges.due("classOf(" + which + ", 10)", y.classOf(which, 10), UNKNOWN);
            Edges.due("classOf(" + which + ", -1)", y.classOf(which, -1), UNKNOWN);
            Edges.due("classOf(" + which + ", 11)", y.classOf(which, 11), UNKNOWN);
        }
        Edges.due("classOf(8, 0) of eight", Edges.after(Servers::wide).classOf(8, 0), UNKNOWN);
        Edges.due("classOf(7, 1) of eight", Edges.after(Servers::wide).classOf(7, 1), 7);
        Edges.sentence("7 for its first job that waits (NONE if there is none), 8 for its jobs done");
        DeficitCircles z = Servers.classes(200, 200);
        Edges.due("none", z.classOf(0, 7), NONE);
        z.add(0, 2);
        z.add(0, 3);
        Edges.due("the first one", z.classOf(0, 7), 0);
        Edges.due("of the other one", z.classOf(1, 7), NONE);
        z.pass(1);
        Edges.due("the one behind it", z.classOf(0, 7), 1);
        Edges.due("in service is not done", z.classOf(0, 8), 0);
        z.pass(1);
        Edges.due("done", z.classOf(0, 8), 1);
        z.pass(1);
        Edges.due("in service does not wait", z.classOf(0, 7), NONE);
        Edges.due("jobs that wait", z.classOf(0, 3), 0);
        Edges.due("their sizes", z.classOf(0, 4), 0);
        z.pass(1);
        Edges.due("a tick too few", z.classOf(0, 8), 1);
        z.pass(1);
        Edges.due("done", z.classOf(0, 8), 2);
        Edges.due("of the other one", z.classOf(1, 8), 0);
        DeficitCircles spent = Edges.after(Servers::spent);
        Edges.due("the first one of the last five", spent.classOf(0, 7), 195);
        Edges.due("done, of 200", spent.classOf(0, 8), 195);
        spent.pass(9);
        Edges.due("the last one of 200 is in service", spent.classOf(0, 8), 199);
        Edges.due("none waits", spent.classOf(0, 7), NONE);
        spent.pass(1);
        Edges.due("all 200 are done", spent.classOf(0, 8), 200);
        Edges.due("of the last class", spent.classOf(7, 8), 0);
    }

    private static void longestWait() {
        Edges.sentence("9 for the longest time that any of its jobs that have begun waited until then");
        DeficitCircles x = Servers.classes(200, 200);
        x.add(0, 5);
        x.add(0, 1);
        Edges.due("none has begun", x.classOf(0, 9), 0);
        x.pass(1);
        Edges.due("one has begun at once", x.classOf(0, 9), 0);
        x.pass(4);
        Edges.due("one waits, and hasn't begun", x.classOf(0, 9), 0);
        x.pass(1);
        Edges.due("it has begun behind 5", x.classOf(0, 9), 5);
        x.add(0, 1);
        x.pass(1);
        Edges.due("the longest stays", x.classOf(0, 9), 5);
        x.add(0, 6);
        x.add(0, 7);
        x.add(0, 1);
        x.pass(7);
        Edges.due("a longer one", x.classOf(0, 9), 6);
        x.undo();
        Edges.due("undone", x.classOf(0, 9), 5);
        Edges.due("of another class", x.classOf(1, 9), 0);
    }

    private static void job() {
        Edges.sentence("job: what: 0 for its class .. 7 for whether it is old");
        DeficitCircles x = Edges.after(Servers::mixed);
        told("done", new int[] {0, 5, 0, 2, 0, 5, 0, 0}, what -> x.job(0, what));
        told("in service", new int[] {2, 10, 0, 1, 5, NONE, 3, 0}, what -> x.job(2, what));
        told("waits", new int[] {1, 30, 12, 0, NONE, NONE, 30, 0}, what -> x.job(4, what));
        for (int what : Edges.outside(0, 7)) {
            Edges.refused("job(0, " + what + ")", Servers::mixed, y -> y.job(0, what), BAD_VALUE);
            Edges.due("job(2, " + what + ")", x.job(2, what), BAD_VALUE);
            Edges.due("job(4, " + what + ")", x.job(4, what), BAD_VALUE);
        }
        Edges.sentence("job: UNKNOWN; BAD_VALUE");
        for (int job : Edges.outside(0, 4)) {
            Edges.due("job(" + job + ", 0)", x.job(job, 0), UNKNOWN);
            Edges.due("job(" + job + ", 7)", x.job(job, 7), UNKNOWN);
            Edges.due("job(" + job + ", -1)", x.job(job, -1), UNKNOWN);
            Edges.due("job(" + job + ", 8)", x.job(job, 8), UNKNOWN);
        }
        Edges.due("job(200, 0) of 200", Edges.after(Servers::spent).job(200, 0), UNKNOWN);
        Edges.due("job(199, 1) of 200", Edges.after(Servers::spent).job(199, 1), 2);
        Edges.sentence("6 for the units left (0 if it is done)");
        DeficitCircles y = Servers.classes(200);
        y.add(0, 3);
        int[] left = {3, 2, 1, 0};
        for (int tick = 0; tick < left.length; tick++) {
            Edges.due("behind " + tick + " ticks", y.job(0, 6), left[tick]);
            y.pass(1);
        }
        Edges.sentence("7 for whether it is old (1, otherwise 0; 0 if it does not wait)");
        DeficitCircles z = Servers.classes(200);
        z.setAge(0, 1);
        z.add(0, 3);
        z.add(0, 3);
        z.pass(1);
        Edges.due("in service", z.job(0, 7), 0);
        Edges.due("waits", z.job(1, 7), 1);
        z.pass(2);
        Edges.due("done", z.job(0, 7), 0);
        Edges.due("waits", z.job(1, 7), 1);
        z.pass(1);
        Edges.due("in service", z.job(1, 7), 0);
    }

    private static void served() {
        Edges.sentence("served: place: a place among the jobs that wait, in that order, from 0");
        // At 15 job 2 is done and job 1 is old; at 35 job 4 is old, since 27; then there is job 3.
        DeficitCircles x = Edges.after(Servers::mixed);
        Edges.due("served(0)", x.served(0), 1);
        Edges.due("jobs that wait", x.count(4), 3);
        Edges.due("served(1)", x.served(1), 4);
        Edges.due("served(2)", x.served(2), 3);
        Edges.sentence("served: BAD_VALUE if place is negative; NONE if there are not so many");
        for (int place : new int[] {-1, -2, -60, Integer.MIN_VALUE}) {
            Edges.refused("served(" + place + ")", Servers::mixed, y -> y.served(place), BAD_VALUE);
            Edges.refused("served(" + place + ")", Servers::empty, y -> y.served(place), BAD_VALUE);
        }
        for (int place : new int[] {3, 4, 60, 200, Integer.MAX_VALUE}) {
            Edges.refused("served(" + place + ")", Servers::mixed, y -> y.served(place), NONE);
        }
        Edges.refused("served(0)", Servers::empty, y -> y.served(0), NONE);
        Edges.refused("served(60) of 60", Servers::crowded, y -> y.served(60), NONE);
        Edges.refused("served(5) of 5", Servers::spent, y -> y.served(5), NONE);
        DeficitCircles crowded = Edges.after(Servers::crowded);
        for (int place = 0; place < 60; place++) {
            Edges.due("served(" + place + ") of 60", crowded.served(place), place + 1);
        }
        Edges.due("served(4) of 5", Edges.after(Servers::spent).served(4), 199);
        DeficitCircles done = Servers.classes(200);
        done.add(0, 2);
        Edges.due("one waits", done.served(0), 0);
        done.pass(1);
        Edges.due("it is in service", done.served(0), NONE);
        done.pass(1);
        Edges.due("it is done", done.served(0), NONE);
    }

    private static void beginsAt() {
        Edges.sentence("beginsAt: UNKNOWN; NOT_POSSIBLE if it does not wait");
        for (int job : Edges.outside(0, 4)) {
            Edges.refused("beginsAt(" + job + ")", Servers::mixed, x -> x.beginsAt(job), UNKNOWN);
        }
        Edges.refused("done", Servers::mixed, x -> x.beginsAt(0), NOT_POSSIBLE);
        Edges.refused("in service", Servers::mixed, x -> x.beginsAt(2), NOT_POSSIBLE);
        Edges.refused("beginsAt(0)", Servers::empty, x -> x.beginsAt(0), UNKNOWN);
        Edges.refused("beginsAt(200) of 200", Servers::spent, x -> x.beginsAt(200), UNKNOWN);
        Edges.sentence("beginsAt: Tells when a job that waits would begin");
        DeficitCircles x = Edges.after(Servers::mixed);
        Edges.due("when the one in service is done", x.beginsAt(1), 15);
        Edges.due("behind job 1", x.beginsAt(4), 35);
        Edges.due("behind jobs 1 and 4", x.beginsAt(3), 65);
        DeficitCircles y = Servers.classes(200);
        y.pass(7);
        y.add(0, 3);
        y.add(0, 4);
        y.add(0, 5);
        int[] begins = {7, 10, 14};
        for (int job = 0; job < 3; job++) {
            Edges.due("beginsAt(" + job + ")", y.beginsAt(job), begins[job]);
        }
        y.pass(1);
        Edges.due("it has begun", y.beginsAt(0), NOT_POSSIBLE);
        Edges.due("behind it, the same", y.beginsAt(1), 10);
        y.pass(2);
        Edges.due("now", y.beginsAt(1), 10);
        y.pass(1);
        Edges.due("it has begun", y.beginsAt(1), NOT_POSSIBLE);
        for (int job = 0; job < 2; job++) {
            Edges.due("as it was told", y.job(job, 4), begins[job]);
        }
        Edges.sentence("the time (also above 20000)");
        DeficitCircles late = Edges.after(Servers::late);
        Edges.due("now, at 20000", late.beginsAt(late.served(0)), 20000);
        Edges.due("above 20000", late.beginsAt(late.served(1)), 20000 + late.job(late.served(0), 1));
        DeficitCircles most = latestAndMost();
        Edges.due("jobs that wait", most.count(4), 60);
        Edges.due("their sizes", most.count(11), 60 * 99);
        Edges.due("the next one", most.beginsAt(most.served(0)), 20074);
        Edges.due("the last one", most.beginsAt(most.served(59)), 20074 + 59 * 99);
    }

    /** At 20000, 60 jobs of 99 wait, and one that began at 19975 is in service. */
    private static DeficitCircles latestAndMost() {
        DeficitCircles x = Servers.classes(1, 2, 3, 4, 5, 6, 7, 8);
        Edges.pass(x, 19975);
        for (int i = 0; i < 40; i++) {
            x.add(i % 8, 99);
        }
        x.pass(25);
        for (int i = 0; i < 21; i++) {
            x.add(i % 8, 99);
        }
        return x;
    }

    private static void bound() {
        Edges.sentence("bound: UNKNOWN; NOT_POSSIBLE if it does not wait; NONE if it does not");
        for (int job : Edges.outside(0, 4)) {
            Edges.refused("bound(" + job + ")", Servers::mixed, x -> x.bound(job), UNKNOWN);
        }
        Edges.refused("done, without age", Servers::mixed, x -> x.bound(0), NOT_POSSIBLE);
        Edges.refused("in service, without age", Servers::mixed, x -> x.bound(2), NOT_POSSIBLE);
        Edges.refused("waits, without age", Servers::mixed, x -> x.bound(3), NONE);
        Edges.refused("bound(0)", Servers::empty, x -> x.bound(0), UNKNOWN);
        DeficitCircles aged = Edges.after(Servers::mixed);
        aged.setAge(0, 9);
        aged.setAge(2, 9);
        Edges.due("done, with an age", aged.bound(0), NOT_POSSIBLE);
        Edges.due("in service, with an age", aged.bound(2), NOT_POSSIBLE);
        Edges.sentence("the time at which it becomes old, or now if that is over");
        for (int age = 19; age <= 21; age++) {
            DeficitCircles x = Servers.classes(200, 200);
            x.add(0, 50);
            x.add(1, 5);
            x.setAge(1, age);
            x.pass(20);
            Edges.due("age " + age + " at 20", x.bound(1), Math.max(20, age) + 98);
        }
        DeficitCircles ages = Servers.classes(200, 200);
        ages.pass(3);
        ages.add(0, 5);
        ages.setAge(0, 1);
        Edges.due("age 1", ages.bound(0), 4 + 98);
        ages.setAge(0, 2000);
        Edges.due("age 2000", ages.bound(0), 2003 + 98);
        ages.setAge(0, 0);
        Edges.due("age 0", ages.bound(0), NONE);
        Edges.sentence("plus 98, plus the sizes of all jobs that wait and have lower numbers");
        DeficitCircles x = Edges.after(Servers::mixed);
        Edges.due("job 1: none", x.bound(1), 15 + 98);
        Edges.due("job 4: jobs 1 and 3, of two groups", x.bound(4), 12 + 15 + 98 + 20 + 12);
        x.setAge(0, 100);
        Edges.due("job 3: job 1, not job 4", x.bound(3), 0 + 100 + 98 + 20);
        DeficitCircles most = latestAndMost();
        most.setAge(4, 2000);
        Edges.due("the latest one", most.bound(60), 22000 + 98 + 59 * 99);
    }

    private static void boundIsReached() {
        Edges.sentence("a time at which a job that waits has begun for sure");
        // Job 2, of 99, begins at 9; job 1 becomes old at 10, and begins at 108.
        DeficitCircles x = Servers.classes(200, 1);
        x.setAge(1, 10);
        x.add(0, 9);
        x.add(1, 5);
        Edges.due("bound(1)", x.bound(1), 10 + 98 + 9);
        x.pass(1);
        Edges.due("bound(1)", x.bound(1), 108);
        x.add(0, 99);
        Edges.due("bound(1), whatever jobs come", x.bound(1), 108);
        Edges.due("beginsAt(1)", x.beginsAt(1), 108);
        x.pass(200);
        Edges.due("it began", x.job(1, 4), 108);
    }

    /** Jobs come by chance; none begins later than any of its bounds told. */
    private static void boundHolds(int seed) {
        Random random = new Random(seed);
        DeficitCircles x = Servers.classes(1 + random.nextInt(9), 1 + random.nextInt(99), 3, 200);
        for (int which = 0; which < 4; which++) {
            x.setAge(which, which == 3 ? 0 : 1 + random.nextInt(200));
        }
        int[] bounds = new int[200];
        for (int round = 0; round < 60; round++) {
            x.add(random.nextInt(4), 1 + random.nextInt(99));
            x.add(3, 1 + random.nextInt(99));
            x.pass(1 + random.nextInt(120));
            int jobs = x.count(3);
            int job = jobs - 1 - random.nextInt(Math.min(9, jobs));
            int told = x.bound(job);
            if (told > 0) {
                bounds[job] = bounds[job] == 0 ? told : Math.min(told, bounds[job]);
            }
        }
        x.pass(500);
        int time = x.count(0);
        for (int job = 0; job < bounds.length; job++) {
            if (bounds[job] > 0) {
                // A job that waits has not begun before now.
                int began = x.job(job, 3) == 0 ? time : x.job(job, 4);
                Edges.due("run " + seed + ", job " + job + " begins by its bound",
                        Math.max(began, bounds[job]), bounds[job]);
            }
        }
    }

    private static void shares() {
        Edges.sentence("shares: UNKNOWN");
        for (int which : Edges.outside(0, 2)) {
            Edges.refused("shares(" + which + ", 0)", Servers::mixed,
                    x -> x.shares(which, 0), UNKNOWN);
            Edges.refused("shares(0, " + which + ")", Servers::mixed,
                    x -> x.shares(0, which), UNKNOWN);
            Edges.refused("shares(" + which + ", ..)", Servers::mixed,
                    x -> x.shares(which, which), UNKNOWN);
        }
        Edges.refused("shares(0, 0)", Servers::empty, x -> x.shares(0, 0), UNKNOWN);
        Edges.refused("shares(8, 7)", Servers::wide, x -> x.shares(8, 7), UNKNOWN);
        Edges.refused("shares(7, 8)", Servers::wide, x -> x.shares(7, 8), UNKNOWN);
        Edges.sentence("shares: the units of the first one * the quantum of the other one ..");
        // 5 units of class 0 (quantum 4), none of class 1 (6), 7 of class 2 (8).
        DeficitCircles x = Edges.after(Servers::mixed);
        Edges.due("shares(0, 1)", x.shares(0, 1), 10000000 + 5 * 6);
        Edges.due("shares(1, 0)", x.shares(1, 0), 10000000 - 5 * 6);
        Edges.due("shares(0, 2)", x.shares(0, 2), 10000000 + 5 * 8 - 7 * 4);
        Edges.due("shares(2, 0)", x.shares(2, 0), 10000000 + 7 * 4 - 5 * 8);
        Edges.due("shares(2, 2)", x.shares(2, 2), 10000000);
        Edges.due("shares(7, 0) of eight", Edges.after(Servers::wide).shares(7, 0), 10000000);
    }

    private static void count() {
        Edges.sentence("count: what: 0 for the time .. 13 for the length of the text");
        DeficitCircles x = Edges.after(Servers::mixed);
        told("mixed()", new int[] {12, 2, 3, 5, 3, 2, 0, 1, 0, 0, 0, 62, 4, 12}, x::count);
        for (int what : Edges.outside(0, 13)) {
            Edges.refused("count(" + what + ")", Servers::mixed, y -> y.count(what), BAD_VALUE);
            Edges.refused("count(" + what + ")", Servers::empty, y -> y.count(what), BAD_VALUE);
        }
        DeficitCircles crowded = Edges.after(Servers::crowded);
        told("crowded()", new int[] {1, 3, 8, 61, 60, 0, 0, 0, 0, 0, 0, 120, 4, 59}, crowded::count);
        DeficitCircles spent = Edges.after(Servers::spent);
        told("spent()", new int[] {390, 3, 8, 200, 5, NONE, 0, 195, 0, 0, 0, 10, 4, 59},
                spent::count);
        DeficitCircles late = Edges.after(Servers::late);
        told("late()", new int[] {20000, 2, 3, 7, 2, NONE, 0, 5, 0, 20000 - 77, 2, 16,
            4, 12}, late::count);
        Edges.sentence("5 for the job in service (NONE if there is none)");
        DeficitCircles y = Servers.classes(200);
        y.add(0, 2);
        Edges.due("none yet", y.count(5), NONE);
        y.pass(1);
        Edges.due("job 0", y.count(5), 0);
        Edges.due("none is done", y.count(7), 0);
        y.pass(1);
        Edges.due("none any more", y.count(5), NONE);
        Edges.due("one is done", y.count(7), 1);
        Edges.due("the present group stays", y.count(6), 0);
        Edges.sentence("9 for ticks without a job in service so far");
        Edges.due("none", y.count(9), 0);
        y.pass(1);
        Edges.due("one", y.count(9), 1);
        y.add(0, 1);
        y.pass(1);
        Edges.due("a job that is done in its first tick", y.count(9), 1);
        Edges.sentence("8 for old jobs, 10 for jobs that were served when they were old so far");
        y.setAge(0, 1);
        y.add(0, 1);
        y.add(0, 1);
        y.add(0, 1);
        Edges.due("none is old", y.count(8), 0);
        y.pass(1);
        Edges.due("the first one wasn't", y.count(10), 0);
        Edges.due("two are", y.count(8), 2);
        y.pass(1);
        Edges.due("the second one was", y.count(10), 1);
        Edges.due("one is", y.count(8), 1);
        y.pass(1);
        Edges.due("the third one was", y.count(10), 2);
        Edges.due("none is", y.count(8), 0);
    }

    private static void nothingChanges() {
        Edges.sentence("what is told changes nothing");
        Edges.alike("of mixed()", Servers::mixed, EdgesOfAnswersTest::askMixed);
        Edges.alike("of crowded()", Servers::crowded, x -> {
            Servers.crowded(x);
            x.served(59);
            x.beginsAt(60);
            x.bound(60);
        });
        Edges.alike("of late()", Servers::late, x -> {
            Servers.late(x);
            x.served(1);
            x.beginsAt(6);
        });
    }

    private static void askMixed(DeficitCircles x) {
        Servers.mixed(x);
        for (int job = 0; job < 5; job++) {
            x.served(job);
            x.beginsAt(job);
            x.bound(job);
            x.job(job, 7);
        }
        x.shares(0, 1);
        x.group(0, 5);
        x.classOf(0, 7);
        x.count(8);
    }

    public static void main(String[] args) {
        group();
        classOf();
        longestWait();
        job();
        served();
        beginsAt();
        bound();
        boundIsReached();
        for (int seed = 0; seed < 300; seed++) {
            boundHolds(seed);
        }
        shares();
        count();
        nothingChanges();
        Due.finish("EdgesOfAnswersTest");
    }
}
