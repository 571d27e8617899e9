/**
 * The edges that "Terms" of the document names: of time, jobs, groups, classes, turns, old jobs,
 * ticks and shares. What is due is worked out by hand.
 */
public final class EdgesOfTermsTest {
    private static final int NONE = Edges.NONE;
    private static final int FULL = Edges.FULL;

    private EdgesOfTermsTest() {
    }

    /** Lets jobs come: of a class, a size, of a class, a size, and so on. */
    private static void come(DeficitCircles x, int... classesAndSizes) {
        for (int i = 0; i + 1 < classesAndSizes.length; i += 2) {
            int job = x.count(3);
            Edges.due("add()", x.add(classesAndSizes[i], classesAndSizes[i + 1]), job);
        }
    }

    /** The jobs that wait are told in this order, and begin in it. */
    private static void order(String name, DeficitCircles x, int... jobs) {
        for (int place = 0; place < jobs.length; place++) {
            Edges.due(name + ", served(" + place + ")", x.served(place), jobs[place]);
        }
        Edges.due(name + ", served() behind the last", x.served(jobs.length), NONE);
        Edges.pass(x, x.count(11) + 99);
        for (int place = 1; place < jobs.length; place++) {
            int before = x.job(jobs[place - 1], 4);
            Edges.due(name + ", place " + place, x.job(jobs[place], 4) > before ? 1 : 0, 1);
        }
    }

    private static int classDeficit(DeficitCircles x, int which) {
        return x.classOf(which, 2) - 100000;
    }

    private static int groupDeficit(DeficitCircles x, int group) {
        return x.group(group, 1) - 100000;
    }

    // ---- time and jobs

    private static void jobs() {
        Edges.sentence("There are at most 200 jobs, numbered from 0 in the order they came");
        DeficitCircles x = Edges.after(Servers::spent);
        Edges.due("job(0, 2)", x.job(0, 2), 0);
        Edges.due("job(199, 2)", x.job(199, 2), 13 * 30);
        Edges.due("job(200, 2)", x.job(200, 2), Edges.UNKNOWN);
        Edges.sentence("at most 60 of them wait at a time");
        Edges.due("60 and one in service", Edges.after(Servers::crowded).count(3), 61);
        Edges.due("60", Edges.after(Servers::crowded).count(4), 60);
        Edges.due("the 61st", Edges.after(Servers::crowded).add(0, 1), FULL);
        Edges.sentence("it waits, is in service, or is done");
        DeficitCircles y = Servers.classes(200);
        come(y, 0, 1, 0, 2);
        Edges.due("job 0 waits", y.job(0, 3), 0);
        y.pass(1);
        Edges.due("a job of size 1 is done in its first tick", y.job(0, 3), 2);
        Edges.due("job 1 waits", y.job(1, 3), 0);
        y.pass(1);
        Edges.due("a job of size 2 is in service behind one", y.job(1, 3), 1);
        y.pass(1);
        Edges.due("and done behind two", y.job(1, 3), 2);
    }

    private static void oneInService() {
        Edges.sentence("At most one job is in service");
        DeficitCircles x = Servers.groups(50, 50);
        come(x, 0, 3, 1, 2, 0, 1, 1, 4);
        for (int tick = 0; tick < 12; tick++) {
            int serves = NONE;
            int many = 0;
            for (int job = 0; job < 4; job++) {
                if (x.job(job, 3) == 1) {
                    serves = job;
                    many++;
                }
            }
            Edges.due("at " + tick + ", at most one", Math.max(1, many), 1);
            Edges.due("at " + tick + ", count(5)", x.count(5), serves);
            x.pass(1);
        }
        Edges.due("done", x.count(7), 4);
    }

    // ---- groups and classes

    private static void atFirst() {
        Edges.sentence("a deficit (0 at first); as many tokens as its size at first");
        DeficitCircles x = Servers.groups(50, 50);
        come(x, 0, 30, 0, 30);
        x.pass(1);
        Edges.due("group 0 has some", groupDeficit(x, 0), 20);
        Edges.due("class 0 has some", classDeficit(x, 0), 170);
        Edges.due("a group that comes later", x.addGroup(9), 2);
        Edges.due("a class that comes later", x.addClass(2, 9, 77, 5), 2);
        Edges.due("its group's deficit", groupDeficit(x, 2), 0);
        Edges.due("its deficit", classDeficit(x, 2), 0);
        Edges.due("its tokens", x.classOf(2, 5), 77);
        Edges.sentence("There is a present group (none at first), and a present class (none)");
        Edges.due("group(2, 5)", x.group(2, 5), NONE);
        Edges.due("group(1, 5)", x.group(1, 5), NONE);
        Edges.due("group(0, 5)", x.group(0, 5), 0);
        Edges.due("count(6)", x.count(6), 0);
        Edges.due("count(6) of a new one", Servers.groups(1, 2).count(6), NONE);
    }

    private static void busy() {
        Edges.sentence("A class is busy if a job of it waits; a group if a class in it is");
        DeficitCircles x = new DeficitCircles();
        x.addGroup(10);
        x.addClass(0, 10, 500, 20);
        come(x, 0, 4);
        x.pass(1);
        Edges.due("a job in service alone: its class", classDeficit(x, 0), 0);
        Edges.due("a job in service alone: its group", groupDeficit(x, 0), 0);
        // Job 1 comes while job 0 is in service: the class is busy again, from 0.
        come(x, 0, 5, 0, 1);
        Edges.due("that a job comes gives nothing", classDeficit(x, 0), 0);
        x.pass(4);
        Edges.due("job 1 is in service", x.count(5), 1);
        Edges.due("its class", classDeficit(x, 0), 5);
        Edges.due("its group", groupDeficit(x, 0), 5);
        Edges.sentence("The jobs of a class that wait are served in the order in which they came");
        DeficitCircles y = Servers.classes(3);
        come(y, 0, 99, 0, 1, 0, 50, 0, 2);
        order("sizes 99, 1, 50, 2", y, 0, 1, 2, 3);
    }

    private static void orderOfClasses() {
        Edges.sentence("The order of classes: behind the last one the first one again");
        DeficitCircles x = Servers.classes(5, 5, 5);
        come(x, 2, 5, 1, 5, 0, 5, 0, 5, 1, 5, 2, 5);
        order("three classes", x, 2, 1, 0, 3, 4, 5);
        DeficitCircles y = new DeficitCircles();
        y.addGroup(200);
        y.addGroup(1);
        y.addClass(0, 5, 500, 20);
        y.addClass(1, 5, 500, 20);
        y.addClass(0, 5, 500, 20);
        come(y, 2, 5, 0, 5, 0, 5, 2, 5);
        order("a class of another group between", y, 1, 0, 2, 3);
        DeficitCircles one = Servers.classes(5);
        come(one, 0, 5, 0, 5, 0, 5);
        order("behind the only one that one again", one, 0, 1, 2);
        DeficitCircles eight = Servers.classes(5, 5, 5, 5, 5, 5, 5, 5);
        come(eight, 7, 5, 7, 5, 0, 5, 0, 5, 6, 5);
        order("behind class 7 class 0", eight, 2, 4, 0, 3, 1);
        DeficitCircles later = Servers.classes(5, 5);
        come(later, 0, 5, 1, 5);
        later.pass(6);
        Edges.due("class 1 is the present one", later.group(0, 5), 1);
        later.addClass(0, 5, 500, 20);
        come(later, 0, 5, 2, 5);
        order("a class that comes later is the last one", later, 3, 2);
    }

    private static void orderOfGroups() {
        Edges.sentence("so have all groups");
        DeficitCircles x = Servers.groups(5, 5, 5);
        come(x, 2, 5, 1, 5, 0, 5, 0, 5, 1, 5, 2, 5);
        order("three groups", x, 2, 1, 0, 3, 4, 5);
        DeficitCircles two = Servers.groups(5, 5);
        come(two, 1, 5, 1, 5, 0, 5, 0, 5);
        order("two groups", two, 2, 0, 3, 1);
        DeficitCircles empty = new DeficitCircles();
        empty.addGroup(5);
        empty.addGroup(5);
        empty.addGroup(5);
        empty.addClass(0, 200, 500, 20);
        empty.addClass(2, 200, 500, 20);
        come(empty, 1, 5, 0, 5, 0, 5, 1, 5);
        order("a group without classes between", empty, 1, 0, 2, 3);
        Edges.due("its present class", empty.group(1, 5), NONE);
        DeficitCircles later = Servers.groups(5);
        come(later, 0, 5);
        later.pass(1);
        later.addGroup(5);
        later.addClass(1, 200, 500, 20);
        come(later, 0, 5, 1, 5);
        order("a group that comes later is the last one", later, 2, 1);
    }

    private static void fromNone() {
        Edges.sentence("(from none, the first one)");
        DeficitCircles x = new DeficitCircles();
        x.addGroup(50);
        x.addGroup(50);
        x.addClass(0, 50, 500, 20);
        x.addClass(1, 50, 500, 20);
        x.addClass(1, 50, 500, 20);
        x.addClass(1, 50, 500, 20);
        come(x, 1, 9, 2, 9, 3, 9);
        x.pass(1);
        Edges.due("the first one of group 1", x.group(1, 5), 1);
        Edges.due("group 0 is not busy, group 1 is", x.count(6), 1);
        Edges.due("group 0 was not looked at", x.group(0, 5), NONE);
        DeficitCircles y = Servers.groups(50, 50, 50);
        come(y, 2, 9, 0, 9);
        y.pass(1);
        Edges.due("the first group", y.count(6), 0);
        Edges.due("group 2 was not looked at", y.group(2, 5), NONE);
        DeficitCircles last = Servers.classes(50, 50, 50, 50, 50, 50, 50, 50);
        come(last, 7, 9);
        last.pass(1);
        Edges.due("past those that are not busy, to the last one", last.group(0, 5), 7);
    }

    // ---- turns

    private static void atLeastTheSize() {
        Edges.sentence("If the present class is busy, and its deficit is at least the size ..");
        // Class 0 has 10 - 4 = 6 left when job 2 is its first one.
        for (int size = 5; size <= 7; size++) {
            DeficitCircles x = Servers.classes(10, 10);
            come(x, 0, 4, 1, 1, 0, size);
            DeficitCircles y = Servers.groups(10, 10);
            come(y, 0, 4, 1, 1, 0, size);
            int second = size <= 6 ? 2 : 1;
            order("a class that has 6, of " + size, x, 0, second, 3 - second);
            order("a group that has 6, of " + size, y, 0, second, 3 - second);
        }
        for (int size = 1; size <= 3; size++) {
            DeficitCircles x = Servers.classes(102);
            come(x, 0, 99, 0, size, 0, 99);
            x.pass(100);
            Edges.due("a class that has 3, of " + size, classDeficit(x, 0), 3 - size);
            DeficitCircles y = Servers.groups(102);
            come(y, 0, 99, 0, size, 0, 99);
            y.pass(100);
            Edges.due("a group that has 3, of " + size, groupDeficit(y, 0), 3 - size);
        }
        Edges.sentence("until .. its deficit is at least the size of its first job");
        for (int size = 4; size <= 6; size++) {
            int first = size <= 5 ? 0 : 1;
            DeficitCircles x = Servers.classes(5, 50);
            come(x, 0, size, 1, 5);
            order("a class that gets 5, of " + size, x, first, 1 - first);
            DeficitCircles y = Servers.groups(5, 50);
            come(y, 0, size, 1, 5);
            order("a group that gets 5, of " + size, y, first, 1 - first);
        }
    }

    private static void manyRounds() {
        Edges.sentence("its deficit becomes greater by its quantum; and so on");
        // Both get 1 in each round; the first one of them is in front in each round.
        DeficitCircles x = Servers.classes(1, 1);
        come(x, 0, 99, 1, 99, 0, 1, 1, 1);
        x.pass(1);
        Edges.due("99 rounds: in service", x.count(5), 0);
        Edges.due("99 rounds: class 0", classDeficit(x, 0), 0);
        Edges.due("98 rounds: class 1", classDeficit(x, 1), 98);
        DeficitCircles y = Servers.classes(1, 1);
        come(y, 0, 99, 1, 98, 0, 1, 1, 1);
        y.pass(1);
        Edges.due("98 rounds: in service", y.count(5), 1);
        Edges.due("98 rounds: class 0", classDeficit(y, 0), 98);
        Edges.due("98 rounds: class 1", classDeficit(y, 1), 0);
        DeficitCircles g = Servers.groups(1, 1);
        come(g, 0, 99, 1, 98, 0, 1, 1, 1);
        g.pass(1);
        Edges.due("98 rounds: in service", g.count(5), 1);
        Edges.due("98 rounds: group 0", groupDeficit(g, 0), 98);
        Edges.due("98 rounds: group 1", groupDeficit(g, 1), 0);
        Edges.due("one round alone: class 0", classDeficit(g, 0), 200);
        Edges.due("one round alone: class 1", classDeficit(g, 1), 102);
        DeficitCircles most = Servers.classes(200);
        come(most, 0, 99, 0, 99, 0, 2, 0, 1, 0, 1);
        int[] left = {101, 2, 0, 199};
        int[] ticks = {1, 99, 99, 2};
        for (int i = 0; i < left.length; i++) {
            most.pass(ticks[i]);
            Edges.due("quantum 200, job " + i + ": class", classDeficit(most, 0), left[i]);
            Edges.due("quantum 200, job " + i + ": group", groupDeficit(most, 0), left[i]);
        }
    }

    private static void pastNotBusy() {
        Edges.sentence("if it is not busy, its deficit becomes 0");
        // At 10 class 1 has 5, of 9; class 0 was busy before, but isn't; class 1 gets 10.
        DeficitCircles x = Servers.classes(10, 5);
        come(x, 0, 10, 1, 9, 1, 9);
        x.pass(11);
        Edges.due("in service", x.count(5), 1);
        Edges.due("class 0, that is not busy", classDeficit(x, 0), 0);
        Edges.due("class 1", classDeficit(x, 1), 1);
        DeficitCircles y = Servers.groups(10, 5);
        come(y, 0, 10, 1, 9, 1, 9);
        y.pass(11);
        Edges.due("in service", y.count(5), 1);
        Edges.due("group 0, that is not busy", groupDeficit(y, 0), 0);
        Edges.due("group 1", groupDeficit(y, 1), 1);
        Edges.sentence("found as told whenever a busy group is looked at");
        // Job 1, of group 1, is old at 5 and has no turn; at 10 group 1 is not busy any more.
        DeficitCircles z = Servers.groups(5, 5);
        z.setAge(1, 3);
        come(z, 0, 5, 1, 5, 0, 5);
        z.pass(11);
        Edges.due("in service", z.count(5), 2);
        Edges.due("a group that is not busy isn't looked at", z.group(1, 5), NONE);
        Edges.due("its deficit", groupDeficit(z, 1), 0);
        Edges.due("its class", classDeficit(z, 1), 0);
        // Job 2, of group 0, is old at 10, while group 1 had its turns; at 15 group 0 is passed by.
        DeficitCircles w = Servers.groups(5, 10);
        w.setAge(0, 6);
        come(w, 1, 5, 1, 5);
        w.pass(1);
        come(w, 0, 5, 1, 5);
        w.pass(15);
        Edges.due("in service", w.count(5), 3);
        Edges.due("job 2 began", w.job(2, 4), 10);
        Edges.due("a group that is not busy isn't looked at", w.group(0, 5), NONE);
    }

    private static void othersStay() {
        Edges.sentence("if it is busy, its deficit becomes greater by its quantum: no other one's");
        DeficitCircles x = new DeficitCircles();
        x.addGroup(200);
        x.addGroup(200);
        x.addClass(0, 1, 500, 20);
        x.addClass(0, 7, 500, 20);
        x.addClass(1, 5, 500, 20);
        come(x, 0, 99, 2, 99, 0, 1);
        x.pass(1);
        Edges.due("99 rounds: in service", x.count(5), 0);
        Edges.due("class 0", classDeficit(x, 0), 0);
        Edges.due("class 1, not busy", classDeficit(x, 1), 0);
        Edges.due("class 2, of a group that wasn't looked at", classDeficit(x, 2), 0);
        Edges.due("its group", groupDeficit(x, 1), 0);
        // Groups 1 and 2 get 98; group 0, that is not busy, gets nothing.
        DeficitCircles y = Servers.groups(50, 1, 1);
        come(y, 2, 98, 1, 99, 1, 1, 2, 1);
        y.pass(1);
        Edges.due("98 rounds: in service", y.count(5), 0);
        Edges.due("group 0, not busy", groupDeficit(y, 0), 0);
        Edges.due("group 1", groupDeficit(y, 1), 98);
        Edges.due("group 2", groupDeficit(y, 2), 0);
    }

    private static void fromBelow() {
        Edges.sentence("deficits below 0, and a job of size 1");
        // At 51 class 0 goes from -50 to 1 in 51 rounds; class 1 to 51, of 99.
        DeficitCircles x = Servers.classes(1, 1);
        x.setAge(0, 1);
        come(x, 0, 1, 0, 50, 0, 1, 1, 99, 0, 1);
        x.pass(2);
        Edges.due("served when old", x.count(10), 1);
        Edges.due("class 0", classDeficit(x, 0), -50);
        x.setAge(0, 0);
        x.pass(50);
        Edges.due("job 2 begins", x.job(2, 4), 51);
        Edges.due("class 0", classDeficit(x, 0), 0);
        Edges.due("class 1", classDeficit(x, 1), 51);
        DeficitCircles y = Servers.groups(1, 1);
        y.setAge(0, 1);
        come(y, 0, 1, 0, 50, 0, 1, 1, 99, 0, 1);
        y.pass(2);
        Edges.due("group 0", groupDeficit(y, 0), -50);
        y.setAge(0, 0);
        y.pass(50);
        Edges.due("job 2 begins", y.job(2, 4), 51);
        Edges.due("group 0", groupDeficit(y, 0), 0);
        Edges.due("group 1", groupDeficit(y, 1), 51);
    }

    private static void notBusyThen() {
        Edges.sentence("If its class is not busy then, the deficit of the class becomes 0; ..");
        DeficitCircles x = new DeficitCircles();
        x.addGroup(20);
        x.addClass(0, 30, 500, 20);
        x.addClass(0, 30, 500, 20);
        come(x, 0, 5, 0, 5, 1, 5);
        x.pass(1);
        Edges.due("both are busy: class 0", classDeficit(x, 0), 25);
        Edges.due("both are busy: group", groupDeficit(x, 0), 15);
        x.pass(5);
        Edges.due("the group alone is busy: class 0", classDeficit(x, 0), 0);
        Edges.due("the group alone is busy: group", groupDeficit(x, 0), 10);
        x.pass(5);
        Edges.due("none is busy: class 1", classDeficit(x, 1), 0);
        Edges.due("none is busy: group", groupDeficit(x, 0), 0);
        Edges.due("the present class stays", x.group(0, 5), 1);
        Edges.due("the present group stays", x.count(6), 0);
    }

    private static void lookedAt() {
        Edges.sentence("what that does to its classes stays, whether it is the next group or not");
        DeficitCircles x = new DeficitCircles();
        x.addGroup(1);
        x.addGroup(99);
        x.addClass(0, 7, 500, 20);
        x.addClass(1, 99, 500, 20);
        come(x, 0, 20, 1, 9);
        // Group 0: class 0 to 21, the group to 1, of 20. Group 1: class 1 to 99, the group to 99.
        x.pass(1);
        Edges.due("in service", x.count(5), 1);
        Edges.due("group 0", groupDeficit(x, 0), 1);
        Edges.due("class 0", classDeficit(x, 0), 21);
        Edges.due("the present class of group 0", x.group(0, 5), 0);
        come(x, 0, 1);
        x.pass(9);
        Edges.due("in service", x.count(5), 0);
        Edges.due("group 0", groupDeficit(x, 0), 0);
        Edges.due("class 0, looked at again", classDeficit(x, 0), 1);
        Edges.due("group 1, not busy", groupDeficit(x, 1), 0);
    }

    // ---- old jobs

    /** Serves class 0 for so many ticks, which has always jobs that wait. */
    private static void passBusy(DeficitCircles x, int ticks) {
        for (int left = ticks; left > 0; left -= 400) {
            if (x.classOf(0, 4) < 500 && x.classOf(0, 5) >= 495) {
                come(x, 0, 99, 0, 99, 0, 99, 0, 99, 0, 99);
            }
            x.pass(Math.min(400, left));
        }
    }

    private static void atLeastTheAge() {
        Edges.sentence("the time less the time at which it came is at least the age");
        for (int age : Edges.inside(1, 2000)) {
            DeficitCircles x = Servers.classes(200, 1);
            x.setAge(1, age);
            come(x, 0, 99, 0, 99, 0, 99, 0, 99, 0, 99);
            x.pass(3);
            come(x, 1, 99);
            passBusy(x, age - 1);
            Edges.due("age " + age + ", a tick too early, job(5, 7)", x.job(5, 7), 0);
            Edges.due("age " + age + ", a tick too early, count(8)", x.count(8), 0);
            x.pass(1);
            Edges.due("age " + age + ", job(5, 7)", x.job(5, 7), 1);
            Edges.due("age " + age + ", count(8)", x.count(8), 1);
            Edges.due("age " + age + ", served(0)", x.served(0), 5);
        }
        Edges.sentence("0 means that jobs do not become old");
        DeficitCircles x = Servers.classes(200, 1);
        come(x, 0, 99, 0, 99, 0, 99, 0, 99, 0, 99, 1, 99);
        Edges.due("at once", x.job(5, 7), 0);
        passBusy(x, 2400);
        Edges.due("it waits", x.job(5, 3), 0);
        Edges.due("at 2400", x.job(5, 7), 0);
        Edges.due("old jobs", x.count(8), 0);
        x.setAge(1, 2000);
        Edges.due("with an age of 2000", x.job(5, 7), 1);
        x.setAge(1, 0);
        Edges.due("with none again", x.job(5, 7), 0);
    }

    private static void noTurn() {
        Edges.sentence("If any job is old, no turn is taken");
        DeficitCircles x = Servers.groups(10, 20);
        x.setAge(1, 5);
        come(x, 0, 9, 0, 9, 1, 9);
        x.pass(10);
        Edges.due("in service", x.count(5), 2);
        Edges.due("the present group stays", x.count(6), 0);
        Edges.due("the present class of group 1", x.group(1, 5), NONE);
        Edges.due("group 0", groupDeficit(x, 0), 1);
        Edges.due("class 0", classDeficit(x, 0), 191);
        Edges.due("served when old", x.count(10), 1);
        Edges.sentence("these become 0 in the same cases");
        Edges.due("class 1", classDeficit(x, 1), 0);
        Edges.due("group 1", groupDeficit(x, 1), 0);
        Edges.sentence("Its size is taken from both deficits (which can be below 0 then)");
        DeficitCircles y = Servers.groups(10, 20);
        y.addClass(1, 30, 500, 20);
        y.setAge(1, 5);
        come(y, 0, 9, 0, 9, 1, 9, 1, 3, 2, 1);
        y.pass(10);
        Edges.due("class 1, busy", classDeficit(y, 1), -9);
        Edges.due("group 1, busy", groupDeficit(y, 1), -9);
        y.pass(9);
        Edges.due("class 1, not busy any more", classDeficit(y, 1), 0);
        Edges.due("group 1, busy by class 2", groupDeficit(y, 1), -12);
        Edges.due("served when old", y.count(10), 2);
        Edges.due("a job in service is not old", y.job(3, 7), 0);
    }

    private static void lowestNumber() {
        Edges.sentence("of the old jobs the one that came first is served (the lowest number)");
        DeficitCircles x = Servers.classes(200, 1, 1);
        x.setAge(1, 50);
        x.setAge(2, 1);
        come(x, 0, 49, 0, 1, 1, 9, 2, 9, 0, 9);
        // At 49 only job 3 is old; at 58 job 2 is too. Jobs 1 and 4 have their turns behind them.
        order("job 3 alone is old at 49", x, 0, 3, 2, 1, 4);
        DeficitCircles y = Servers.classes(200, 1, 1);
        y.setAge(1, 50);
        y.setAge(2, 1);
        come(y, 0, 50, 0, 1, 1, 9, 2, 9, 0, 9);
        order("jobs 2 and 3 are old at 50", y, 0, 2, 3, 1, 4);
        Edges.due("served when old", y.count(10), 2);
    }

    private static void deepBelow() {
        Edges.sentence("deficits that are far below 0");
        DeficitCircles x = new DeficitCircles();
        x.addGroup(1);
        x.addGroup(200);
        x.addClass(0, 1, 500, 20);
        x.addClass(1, 200, 500, 20);
        x.setAge(0, 1);
        come(x, 0, 99, 0, 99, 0, 99, 0, 99, 0, 99);
        x.pass(30);
        for (int i = 0; i < 38; i++) {
            come(x, 0, 99, 0, 99, 0, 99, 0, 99, 0, 99);
            x.pass(495);
        }
        // Job 0 had its turn, jobs 1 to 190 were old; job 190 is in service until 191 * 99.
        Edges.due("jobs that are done", x.count(7), 190);
        Edges.due("jobs that wait", x.count(4), 4);
        Edges.due("class 0", classDeficit(x, 0), -99 * 190);
        Edges.due("group 0", groupDeficit(x, 0), -99 * 190);
        x.setAge(0, 0);
        come(x, 1, 9);
        Edges.due("group 1 is next", x.served(0), 195);
        Edges.due("then group 0", x.served(1), 191);
        x.pass(70);
        Edges.due("the time", x.count(0), 18910);
        Edges.due("job 195 begins", x.job(195, 4), 18909);
        Edges.due("class 0 was looked at", classDeficit(x, 0), 99);
        Edges.due("group 0 was not next", groupDeficit(x, 0), -99 * 190);
        x.pass(9);
        Edges.due("job 191 begins", x.job(191, 4), 18918);
        Edges.due("class 0 had just enough", classDeficit(x, 0), 0);
        Edges.due("group 0 got just enough", groupDeficit(x, 0), 0);
    }

    // ---- ticks

    private static void ticks() {
        Edges.sentence("If no job is in service, and any job waits, a job is chosen");
        DeficitCircles x = Servers.classes(200);
        x.pass(3);
        Edges.due("ticks without a job", x.count(9), 3);
        come(x, 0, 1, 0, 1, 0, 2);
        Edges.due("pass(2)", x.pass(2), 2);
        Edges.due("ticks without a job", x.count(9), 3);
        int[] began = {3, 4, 5};
        int[] ended = {4, 5, 7};
        x.pass(2);
        for (int job = 0; job < 3; job++) {
            Edges.due("job " + job + " begins", x.job(job, 4), began[job]);
            Edges.due("job " + job + " ends", x.job(job, 5), ended[job]);
        }
        Edges.due("the time", x.count(0), 7);
        x.pass(1);
        Edges.due("ticks without a job", x.count(9), 4);
        Edges.sentence("it is in service from now on, and begins at this time: the age at that time");
        for (int age = 4; age <= 6; age++) {
            DeficitCircles y = Servers.classes(200, 1);
            y.setAge(1, age);
            come(y, 0, 5, 0, 1, 1, 1);
            // At 5 it is job 1 that has the turn.
            boolean old = age <= 5;
            order("age " + age, y, 0, old ? 2 : 1, old ? 1 : 2);
        }
    }

    private static void tokens() {
        Edges.sentence("The tokens of each bucket become greater by its fill, up to its size");
        int[][] due = {{0, 0, 0, 0, 0}, {3, 6, 9, 10, 10}, {5, 10, 10, 10, 10},
            {9, 10, 10, 10, 10}, {10, 10, 10, 10, 10}, {10, 10, 10, 10, 10}};
        int[] fills = {0, 3, 5, 9, 10, 20};
        for (int i = 0; i < fills.length; i++) {
            DeficitCircles x = new DeficitCircles();
            x.addGroup(1);
            x.addClass(0, 1, 10, fills[i]);
            come(x, 0, 10);
            for (int tick = 0; tick < 5; tick++) {
                DeficitCircles atOnce = new DeficitCircles();
                atOnce.addGroup(1);
                atOnce.addClass(0, 1, 10, fills[i]);
                come(atOnce, 0, 10);
                atOnce.pass(tick + 1);
                x.pass(1);
                Edges.due("fill " + fills[i], x.classOf(0, 5), due[i][tick]);
                Edges.due("fill " + fills[i] + ", at once", atOnce.classOf(0, 5), due[i][tick]);
            }
        }
        DeficitCircles x = Servers.classes(1);
        come(x, 0, 99, 0, 99, 0, 99, 0, 99, 0, 99, 0, 5);
        x.pass(24);
        Edges.due("24 ticks of 20, up to 500", x.classOf(0, 5), 480);
        x.pass(1);
        Edges.due("25 ticks of 20, up to 500", x.classOf(0, 5), 500);
        x.pass(1);
        Edges.due("26 ticks of 20, up to 500", x.classOf(0, 5), 500);
    }

    // ---- shares

    private static void shares() {
        Edges.sentence("units that were served since the latest mark (the beginning is a mark)");
        DeficitCircles x = Servers.classes(200, 3);
        come(x, 0, 9);
        x.pass(4);
        Edges.due("since the beginning", x.classOf(0, 10), 4);
        Edges.due("mark()", x.mark(), 4);
        Edges.due("at the mark", x.classOf(0, 10), 0);
        x.pass(10);
        Edges.due("since the mark", x.classOf(0, 10), 5);
        Edges.due("of another class", x.classOf(1, 10), 0);
        Edges.sentence("the most units that there can be");
        DeficitCircles most = Servers.classes(200, 200);
        for (int i = 0; i < 40; i++) {
            come(most, 0, 99, 0, 99, 0, 99, 0, 99, 0, 99);
            most.pass(495);
        }
        Edges.due("units of the class", most.classOf(0, 10), 19800);
        Edges.due("units of the group", most.group(0, 6), 19800);
        Edges.due("shares(0, 1)", most.shares(0, 1), 10000000 + 19800 * 200);
        Edges.due("shares(1, 0)", most.shares(1, 0), 10000000 - 19800 * 200);
        Edges.due("shares(0, 0)", most.shares(0, 0), 10000000);
        Edges.due("mark()", most.mark(), 19800);
    }

    public static void main(String[] args) {
        jobs();
        oneInService();
        atFirst();
        busy();
        orderOfClasses();
        orderOfGroups();
        fromNone();
        atLeastTheSize();
        manyRounds();
        pastNotBusy();
        othersStay();
        fromBelow();
        notBusyThen();
        lookedAt();
        atLeastTheAge();
        noTurn();
        lowestNumber();
        deepBelow();
        ticks();
        tokens();
        shares();
        Due.finish("EdgesOfTermsTest");
    }
}
