/**
 * The edges of each call: the last value in a range and the first one outside it, on both sides;
 * the empty and the full state; the order of the errors; and that a call that is refused changes
 * nothing. The sentences are those of the document.
 */
public final class EdgesOfCallsTest {
    private static final int UNKNOWN = Edges.UNKNOWN;
    private static final int BAD_VALUE = Edges.BAD_VALUE;
    private static final int FULL = Edges.FULL;
    private static final int NOT_POSSIBLE = Edges.NOT_POSSIBLE;
    private static final int NONE = Edges.NONE;

    /** An argument that is no quantum, no size, no fill, no age and no number of anything. */
    private static final int WRONG = -1;

    private EdgesOfCallsTest() {
    }

    private static void newObject() {
        Edges.sentence("A new object: a server without groups");
        DeficitCircles x = new DeficitCircles();
        int[] counts = {0, 0, 0, 0, 0, NONE, NONE, 0, 0, 0, 0, 0, 0, 0};
        for (int what = 0; what < counts.length; what++) {
            Edges.due("count(" + what + ")", x.count(what), counts[what]);
        }
        Edges.due("undo()", x.undo(), NONE);
        Edges.due("restore()", x.restore(), NONE);
        Edges.due("clearText()", x.clearText(), 0);
        Edges.due("readJobs()", x.readJobs(), -100);
        Edges.due("served(0)", x.served(0), NONE);
        Edges.refused("addClass()", Servers::empty, y -> y.addClass(0, 1, 10, 0), UNKNOWN);
        Edges.refused("add()", Servers::empty, y -> y.add(0, 1), UNKNOWN);
        Edges.refused("setQuantum()", Servers::empty, y -> y.setQuantum(0, 1), UNKNOWN);
        Edges.refused("setAge()", Servers::empty, y -> y.setAge(0, 1), UNKNOWN);
        Edges.refused("setGroupQuantum()", Servers::empty, y -> y.setGroupQuantum(0, 1), UNKNOWN);
        Edges.act("pass()", Servers::empty, y -> y.pass(1), 0);
        Edges.act("mark()", Servers::empty, DeficitCircles::mark, 0);
    }

    private static void addGroup() {
        Edges.sentence("addGroup: quantum: 1 to 200");
        for (int quantum : Edges.inside(1, 200)) {
            String call = "addGroup(" + quantum + ")";
            Edges.act(call, Servers::few, x -> x.addGroup(quantum), 2);
            Edges.act(call, Servers::empty, x -> x.addGroup(quantum), 0);
            DeficitCircles x = new DeficitCircles();
            x.addGroup(quantum);
            Edges.due(call + ", its quantum", x.group(0, 0), quantum);
        }
        for (int quantum : Edges.outside(1, 200)) {
            String call = "addGroup(" + quantum + ")";
            Edges.refused(call, Servers::empty, x -> x.addGroup(quantum), BAD_VALUE);
            Edges.refused(call, Servers::few, x -> x.addGroup(quantum), BAD_VALUE);
            Edges.refused(call, Servers::mixed, x -> x.addGroup(quantum), BAD_VALUE);
        }
        Edges.sentence("addGroup: FULL if there are 3");
        Edges.act("the third", Servers::few, x -> x.addGroup(200), 2);
        Edges.refused("the fourth", Servers::wide, x -> x.addGroup(1), FULL);
        Edges.refused("the fourth", Servers::crowded, x -> x.addGroup(200), FULL);
        Edges.sentence("addGroup: its number; BAD_VALUE; FULL");
        for (int quantum : Edges.outside(1, 200)) {
            Edges.refused("addGroup(" + quantum + ") when full", Servers::wide,
                    x -> x.addGroup(quantum), BAD_VALUE);
        }
    }

    private static void addClassRanges() {
        Edges.sentence("addClass: group: a group");
        Edges.act("addClass(0, ..)", Servers::few, x -> x.addClass(0, 1, 10, 0), 3);
        Edges.act("addClass(1, ..)", Servers::few, x -> x.addClass(1, 1, 10, 0), 3);
        for (int group : Edges.outside(0, 1)) {
            String call = "addClass(" + group + ", ..)";
            Edges.refused(call, Servers::mixed, x -> x.addClass(group, 1, 10, 0), UNKNOWN);
        }
        Edges.sentence("addClass: quantum: 1 to 200");
        for (int quantum : Edges.inside(1, 200)) {
            classIsAdded(quantum, 30, 3);
        }
        for (int quantum : Edges.outside(1, 200)) {
            classIsBad(quantum, 30, 3);
        }
        Edges.sentence("addClass: size: 10 to 500: the size of its bucket");
        for (int size : Edges.inside(10, 500)) {
            classIsAdded(5, size, 3);
        }
        for (int size : Edges.outside(10, 500)) {
            classIsBad(5, size, 3);
        }
        Edges.sentence("addClass: fill: 0 to 20: the fill of its bucket");
        for (int fill : Edges.inside(0, 20)) {
            classIsAdded(5, 100, fill);
        }
        for (int fill : Edges.outside(0, 20)) {
            classIsBad(5, 100, fill);
        }
    }

    private static void classIsAdded(int quantum, int size, int fill) {
        String call = "addClass(1, " + quantum + ", " + size + ", " + fill + ")";
        Edges.act(call, Servers::few, x -> x.addClass(1, quantum, size, fill), 3);
        DeficitCircles x = Edges.after(Servers::few);
        x.addClass(1, quantum, size, fill);
        int[] told = {1, quantum, 100000, 0, 0, size, 0, NONE, 0, 0, 0};
        for (int what = 0; what < told.length; what++) {
            Edges.due(call + ", classOf(3, " + what + ")", x.classOf(3, what), told[what]);
        }
        int taken = 0;
        for (int left = size; left > 0; left -= 99) {
            x.add(3, Math.min(99, left));
            taken += Math.min(99, left);
        }
        Edges.due(call + ", tokens that are taken", x.classOf(3, 5), size - taken);
        x.pass(1);
        Edges.due(call + ", tokens of a tick", x.classOf(3, 5), Math.min(size, fill));
        x.pass(500);
        Edges.due(call + ", tokens", x.classOf(3, 5), fill == 0 ? 0 : Math.min(size, 501 * fill));
    }

    private static void classIsBad(int quantum, int size, int fill) {
        String call = "addClass(1, " + quantum + ", " + size + ", " + fill + ")";
        Edges.refused(call, Servers::mixed, x -> x.addClass(1, quantum, size, fill), BAD_VALUE);
        Edges.refused(call, Servers::few, x -> x.addClass(1, quantum, size, fill), BAD_VALUE);
    }

    private static void addClassOrder() {
        Edges.sentence("addClass: its number; UNKNOWN; BAD_VALUE; FULL");
        for (int group : Edges.outside(0, 2)) {
            Edges.refused("addClass(" + group + ", ..) when full", Servers::wide,
                    x -> x.addClass(group, 1, 10, 0), UNKNOWN);
        }
        int[][] bad = {{0, 10, 0}, {201, 10, 0}, {1, 9, 0}, {1, 501, 0}, {1, 10, -1}, {1, 10, 21}};
        for (int[] values : bad) {
            String call = "addClass(.., " + values[0] + ", " + values[1] + ", " + values[2] + ")";
            Edges.refused(call + " when full", Servers::wide,
                    x -> x.addClass(1, values[0], values[1], values[2]), BAD_VALUE);
            Edges.refused(call + " of no group", Servers::mixed,
                    x -> x.addClass(2, values[0], values[1], values[2]), UNKNOWN);
            Edges.refused(call + " of no group, when full", Servers::wide,
                    x -> x.addClass(3, values[0], values[1], values[2]), UNKNOWN);
        }
    }

    private static void addClassFull() {
        Edges.sentence("addClass: FULL if there are 8");
        DeficitCircles x = Servers.groups(1, 2, 3);
        for (int which = 3; which < 8; which++) {
            Edges.due("class " + which, x.addClass(which % 3, 1, 10, 0), which);
        }
        Edges.due("the ninth", x.addClass(0, 1, 10, 0), FULL);
        Edges.due("classes", x.count(2), 8);
        Edges.refused("the ninth", Servers::wide, y -> y.addClass(0, 1, 10, 0), FULL);
        Edges.refused("the ninth", Servers::crowded, y -> y.addClass(2, 200, 500, 20), FULL);
        DeficitCircles one = Servers.classes(1, 2, 3, 4, 5, 6, 7);
        Edges.due("the eighth of one group", one.addClass(0, 8, 10, 0), 7);
        Edges.due("the ninth of one group", one.addClass(0, 8, 10, 0), FULL);
        Edges.due("its classes", one.group(0, 2), 8);
        one.undo();
        Edges.due("the eighth again", one.addClass(0, 9, 10, 0), 7);
        Edges.sentence("addClass: whose jobs do not become old");
        DeficitCircles never = Servers.classes(1, 1);
        never.add(0, 99);
        never.add(1, 99);
        Edges.due("its age", never.classOf(1, 6), 0);
        Edges.due("old at once", never.count(8), 0);
        never.pass(98);
        Edges.due("old later", never.count(8), 0);
        Edges.due("bound(1)", never.bound(1), NONE);
    }

    private static void setGroupQuantum() {
        Edges.sentence("setGroupQuantum: group: a group");
        Edges.act("of group 0", Servers::few, x -> x.setGroupQuantum(0, 9), 10);
        Edges.act("of group 1", Servers::few, x -> x.setGroupQuantum(1, 9), 8);
        for (int group : Edges.outside(0, 1)) {
            Edges.refused("of group " + group, Servers::mixed,
                    x -> x.setGroupQuantum(group, 9), UNKNOWN);
        }
        Edges.refused("of group 3", Servers::wide, x -> x.setGroupQuantum(3, 9), UNKNOWN);
        Edges.sentence("setGroupQuantum: quantum: 1 to 200");
        for (int quantum : Edges.inside(1, 200)) {
            Edges.act("to " + quantum, Servers::few, x -> x.setGroupQuantum(0, quantum), 10);
            DeficitCircles x = Edges.after(Servers::few);
            x.setGroupQuantum(0, quantum);
            Edges.due("group(0, 0)", x.group(0, 0), quantum);
            Edges.due("group(1, 0)", x.group(1, 0), 8);
        }
        for (int quantum : Edges.outside(1, 200)) {
            Edges.refused("to " + quantum, Servers::mixed,
                    x -> x.setGroupQuantum(0, quantum), BAD_VALUE);
        }
        Edges.sentence("setGroupQuantum: UNKNOWN; BAD_VALUE");
        for (int quantum : Edges.outside(1, 200)) {
            Edges.refused("of no group to " + quantum, Servers::mixed,
                    x -> x.setGroupQuantum(2, quantum), UNKNOWN);
        }
        Edges.sentence("setGroupQuantum: NONE if it is so already");
        Edges.refused("10 to 10", Servers::mixed, x -> x.setGroupQuantum(0, 10), NONE);
        Edges.refused("7 to 7", Servers::mixed, x -> x.setGroupQuantum(1, 7), NONE);
        Edges.act("10 to 11", Servers::few, x -> x.setGroupQuantum(0, 11), 10);
        Edges.act("10 to 9", Servers::few, x -> x.setGroupQuantum(0, 9), 10);
        Edges.refused("of no group", Servers::empty, x -> x.setGroupQuantum(0, 10), UNKNOWN);
    }

    private static void setQuantum() {
        Edges.sentence("setQuantum: which: a class");
        Edges.act("of class 0", Servers::few, x -> x.setQuantum(0, 3), 4);
        Edges.act("of class 2", Servers::few, x -> x.setQuantum(2, 3), 8);
        for (int which : Edges.outside(0, 2)) {
            Edges.refused("of class " + which, Servers::mixed,
                    x -> x.setQuantum(which, 3), UNKNOWN);
        }
        Edges.refused("of class 8", Servers::wide, x -> x.setQuantum(8, 9), UNKNOWN);
        Edges.sentence("setQuantum: quantum: 1 to 200");
        for (int quantum : Edges.inside(1, 200)) {
            Edges.act("to " + quantum, Servers::few, x -> x.setQuantum(1, quantum), 6);
            DeficitCircles x = Edges.after(Servers::few);
            x.setQuantum(1, quantum);
            Edges.due("classOf(1, 1)", x.classOf(1, 1), quantum);
            Edges.due("classOf(0, 1)", x.classOf(0, 1), 4);
        }
        for (int quantum : Edges.outside(1, 200)) {
            Edges.refused("to " + quantum, Servers::mixed,
                    x -> x.setQuantum(0, quantum), BAD_VALUE);
        }
        Edges.sentence("setQuantum: UNKNOWN; BAD_VALUE");
        for (int quantum : Edges.outside(1, 200)) {
            Edges.refused("of no class to " + quantum, Servers::mixed,
                    x -> x.setQuantum(3, quantum), UNKNOWN);
        }
        Edges.sentence("setQuantum: NONE if it is so already");
        Edges.refused("4 to 4", Servers::mixed, x -> x.setQuantum(0, 4), NONE);
        Edges.refused("8 to 8", Servers::mixed, x -> x.setQuantum(2, 8), NONE);
        Edges.act("4 to 5", Servers::few, x -> x.setQuantum(0, 5), 4);
        Edges.act("4 to 3", Servers::few, x -> x.setQuantum(0, 3), 4);
    }

    private static void setAge() {
        Edges.sentence("setAge: which: a class");
        Edges.act("of class 0", Servers::few, x -> x.setAge(0, 3), 0);
        Edges.act("of class 2", Servers::few, x -> x.setAge(2, 3), 0);
        for (int which : Edges.outside(0, 2)) {
            Edges.refused("of class " + which, Servers::mixed, x -> x.setAge(which, 3), UNKNOWN);
        }
        Edges.refused("of class 8", Servers::wide, x -> x.setAge(8, 9), UNKNOWN);
        Edges.sentence("setAge: age: 0 to 2000");
        for (int age : Edges.inside(0, 2000)) {
            Edges.act("to " + age, Servers::few, x -> x.setAge(1, age), 15);
            DeficitCircles x = Edges.after(Servers::few);
            x.setAge(1, age);
            Edges.due("classOf(1, 6)", x.classOf(1, 6), age);
            Edges.due("classOf(0, 6)", x.classOf(0, 6), 0);
        }
        for (int age : Edges.outside(0, 2000)) {
            Edges.refused("to " + age, Servers::mixed, x -> x.setAge(0, age), BAD_VALUE);
        }
        Edges.sentence("setAge: UNKNOWN; BAD_VALUE");
        for (int age : Edges.outside(0, 2000)) {
            Edges.refused("of no class to " + age, Servers::mixed,
                    x -> x.setAge(3, age), UNKNOWN);
        }
        Edges.sentence("setAge: NONE if it is so already");
        Edges.refused("0 to 0", Servers::mixed, x -> x.setAge(0, 0), NONE);
        Edges.refused("15 to 15", Servers::mixed, x -> x.setAge(1, 15), NONE);
        Edges.act("0 to 1", Servers::few, x -> x.setAge(0, 1), 0);
        Edges.act("15 to 14", Servers::few, x -> x.setAge(1, 14), 15);
        Edges.act("15 to 16", Servers::few, x -> x.setAge(1, 16), 15);
    }

    private static void addRanges() {
        Edges.sentence("add: which: a class");
        Edges.act("add(0, 1)", Servers::few, x -> x.add(0, 1), 5);
        Edges.act("add(2, 1)", Servers::few, x -> x.add(2, 1), 5);
        for (int which : Edges.outside(0, 2)) {
            Edges.refused("add(" + which + ", 1)", Servers::mixed, x -> x.add(which, 1), UNKNOWN);
        }
        Edges.refused("add(8, 1)", Servers::wide, x -> x.add(8, 1), UNKNOWN);
        Edges.sentence("add: size: 1 to 99");
        Edges.Run roomy = x -> {
            Servers.few(x);
            x.addClass(1, 5, 100, 0);
        };
        for (int size : Edges.inside(1, 99)) {
            Edges.act("add(3, " + size + ")", roomy, x -> x.add(3, size), 5);
            DeficitCircles x = Edges.after(roomy);
            x.add(3, size);
            Edges.due("its size", x.job(5, 1), size);
            Edges.due("tokens of " + size, x.classOf(3, 5), 100 - size);
            Edges.due("units left", x.job(5, 6), size);
        }
        for (int size : Edges.outside(1, 99)) {
            Edges.refused("add(3, " + size + ")", roomy, x -> x.add(3, size), BAD_VALUE);
            Edges.refused("add(0, " + size + ")", Servers::mixed, x -> x.add(0, size), BAD_VALUE);
        }
    }

    private static void addTokens() {
        Edges.sentence("add: NOT_POSSIBLE if the bucket has not so many tokens");
        // Class 1 of few() has 60 - 20 - 30 tokens, and its bucket is never filled.
        Edges.act("10 of 10 tokens", Servers::few, x -> x.add(1, 10), 5);
        Edges.refused("11 of 10 tokens", Servers::few, x -> x.add(1, 11), NOT_POSSIBLE);
        Edges.refused("11 of 10 tokens", Servers::mixed, x -> x.add(1, 11), NOT_POSSIBLE);
        Edges.Run dry = x -> {
            Servers.few(x);
            x.add(1, 10);
        };
        Edges.refused("1 of 0 tokens", dry, x -> x.add(1, 1), NOT_POSSIBLE);
        Edges.due("tokens", Edges.after(dry).classOf(1, 5), 0);
        DeficitCircles x = new DeficitCircles();
        x.addGroup(1);
        x.addClass(0, 1, 99, 2);
        Edges.due("99 of 99", x.add(0, 99), 0);
        Edges.due("1 of 0", x.add(0, 1), NOT_POSSIBLE);
        x.pass(1);
        Edges.due("3 of 2", x.add(0, 3), NOT_POSSIBLE);
        Edges.due("2 of 2", x.add(0, 2), 1);
        x.pass(49);
        Edges.due("99 of 98", x.add(0, 99), NOT_POSSIBLE);
        x.pass(1);
        Edges.due("99 of 99, filled up to its size", x.add(0, 99), 2);
    }

    private static void addFull() {
        Edges.sentence("add: FULL if 60 jobs wait, or there have been 200");
        Edges.Run fiftyNine = x -> {
            Servers.crowded(x);
            x.undo();
        };
        Edges.due("jobs that wait", Edges.after(fiftyNine).count(4), 59);
        Edges.act("the 60th that waits", fiftyNine, x -> x.add(0, 2), 60);
        Edges.refused("the 61st that waits", Servers::crowded, x -> x.add(0, 2), FULL);
        Edges.refused("the 61st, of another class", Servers::crowded, x -> x.add(7, 99), FULL);
        DeficitCircles crowded = Edges.after(Servers::crowded);
        Edges.due("jobs that wait", crowded.count(4), 60);
        Edges.due("one more is in service", crowded.count(5), 0);
        crowded.pass(1);
        Edges.due("none is in service, 60 wait", crowded.add(0, 1), FULL);
        crowded.pass(1);
        Edges.due("one has begun", crowded.add(0, 1), 61);
        Edges.due("60 wait again", crowded.add(0, 1), FULL);
        Edges.Run hundredNinetyNine = x -> {
            Servers.spent(x);
            x.undo();
        };
        Edges.due("jobs", Edges.after(hundredNinetyNine).count(3), 199);
        Edges.act("the 200th", hundredNinetyNine, x -> x.add(0, 2), 199);
        Edges.refused("the 201st", Servers::spent, x -> x.add(0, 2), FULL);
        Edges.due("jobs that wait", Edges.after(Servers::spent).count(4), 5);
        DeficitCircles spent = Edges.after(Servers::spent);
        spent.pass(500);
        Edges.due("none waits, there have been 200", spent.add(0, 1), FULL);
        Edges.due("jobs that are done", spent.count(7), 200);
        Edges.refused("both", Servers::crowdedAndSpent, x -> x.add(0, 2), FULL);
        DeficitCircles both = Edges.after(Servers::crowdedAndSpent);
        Edges.due("both, jobs", both.count(3), 200);
        Edges.due("both, jobs that wait", both.count(4), 60);
    }

    private static void addOrder() {
        Edges.sentence("add: UNKNOWN; BAD_VALUE; NOT_POSSIBLE; FULL");
        for (int size : Edges.outside(1, 99)) {
            Edges.refused("no class, size " + size, Servers::mixed,
                    x -> x.add(3, size), UNKNOWN);
            Edges.refused("size " + size + ", no tokens", Servers::mixed,
                    x -> x.add(2, size), BAD_VALUE);
            Edges.refused("size " + size + ", full", Servers::crowded,
                    x -> x.add(0, size), BAD_VALUE);
            Edges.refused("size " + size + ", full", Servers::spent,
                    x -> x.add(0, size), BAD_VALUE);
        }
        // Class 1 of wide() has a bucket of 10.
        Edges.refused("no class, full", Servers::crowded, x -> x.add(8, 1), UNKNOWN);
        Edges.refused("no class, full", Servers::spent, x -> x.add(8, 1), UNKNOWN);
        Edges.refused("no tokens, full", Servers::crowded, x -> x.add(1, 11), NOT_POSSIBLE);
        Edges.refused("tokens, full", Servers::crowded, x -> x.add(1, 10), FULL);
        Edges.refused("no tokens, full", Servers::spent, x -> x.add(1, 11), NOT_POSSIBLE);
        Edges.refused("tokens, full", Servers::spent, x -> x.add(1, 10), FULL);
    }

    private static void passRange() {
        Edges.sentence("pass: ticks: 1 to 500");
        int[] done = {0, 0, 2, 2};
        int[] ticks = Edges.inside(1, 500);
        Edges.Run two = x -> {
            x.addGroup(1);
            x.addClass(0, 1, 100, 1);
            Edges.type(x, "0:50;0:40");
            x.readJobs();
        };
        for (int i = 0; i < ticks.length; i++) {
            int length = ticks[i];
            Edges.act("pass(" + length + ") of nothing", Servers::empty, x -> x.pass(length), 0);
            Edges.act("pass(" + length + ")", two, x -> x.pass(length), done[i]);
            DeficitCircles x = Edges.after(two);
            x.pass(length);
            Edges.due("the time behind pass(" + length + ")", x.count(0), length);
        }
        for (int length : Edges.outside(1, 500)) {
            String call = "pass(" + length + ")";
            Edges.refused(call, Servers::empty, x -> x.pass(length), BAD_VALUE);
            Edges.refused(call, Servers::mixed, x -> x.pass(length), BAD_VALUE);
        }
        Edges.sentence("pass: BAD_VALUE; NOT_POSSIBLE");
        for (int length : Edges.outside(1, 500)) {
            Edges.refused("pass(" + length + ") at the end", Servers::late,
                    x -> x.pass(length), BAD_VALUE);
        }
        Edges.sentence("pass: how many jobs are done in them");
        DeficitCircles x = Edges.after(two);
        Edges.due("a tick too few", x.pass(49), 0);
        Edges.due("the last tick of one", x.pass(1), 1);
        Edges.due("a tick too few", x.pass(39), 0);
        Edges.due("the last tick of the other one", x.pass(1), 1);
        Edges.due("all 90 ticks", Edges.after(two).pass(90), 2);
        Edges.due("89 ticks", Edges.after(two).pass(89), 1);
    }

    /** A server without jobs at a time, with room in its history. */
    private static Edges.Run at(int time) {
        return x -> {
            x.addGroup(1);
            Edges.pass(x, time);
            Servers.makeRoom(x);
        };
    }

    private static void passEnd() {
        Edges.sentence("pass: NOT_POSSIBLE if the time would become more than 20000");
        Edges.act("pass(500) at 19500", at(19500), x -> x.pass(500), 0);
        Edges.act("pass(499) at 19500", at(19500), x -> x.pass(499), 0);
        Edges.act("pass(1) at 19999", at(19999), x -> x.pass(1), 0);
        Edges.refused("pass(500) at 19501", at(19501), x -> x.pass(500), NOT_POSSIBLE);
        Edges.refused("pass(2) at 19999", at(19999), x -> x.pass(2), NOT_POSSIBLE);
        Edges.refused("pass(1) at 20000", at(20000), x -> x.pass(1), NOT_POSSIBLE);
        Edges.refused("pass(1) at 20000", Servers::late, x -> x.pass(1), NOT_POSSIBLE);
        Edges.refused("pass(500) at 20000", Servers::late, x -> x.pass(500), NOT_POSSIBLE);
        DeficitCircles x = Edges.after(at(19501));
        Edges.due("pass(500) at 19501", x.pass(500), NOT_POSSIBLE);
        Edges.due("the time", x.count(0), 19501);
        Edges.due("pass(499) at 19501", x.pass(499), 0);
        Edges.due("the time", x.count(0), 20000);
        x.undo();
        x.pass(498);
        Edges.due("pass(2) at 19999", x.pass(2), NOT_POSSIBLE);
        Edges.due("pass(1) at 19999", x.pass(1), 0);
        Edges.due("the time", x.count(0), 20000);
        Edges.due("add() at 20000", Edges.after(Servers::late).add(0, 1), 7);
        Edges.due("mark() at 20000", Edges.after(Servers::late).mark(), 77);
        Edges.due("keep() at 20000", Edges.after(Servers::late).keep(), 20000);
    }

    private static void mark() {
        Edges.sentence("mark: the units that were served since the mark before");
        Edges.act("of nothing", Servers::empty, DeficitCircles::mark, 0);
        // Jobs 0 (5) and 1 (20) are first by turns; mixed() passes 12 ticks without a pause.
        Edges.act("of 12 ticks", Servers::few, DeficitCircles::mark, 12);
        DeficitCircles x = Edges.after(Servers::few);
        x.mark();
        for (int which = 0; which < 3; which++) {
            Edges.due("units behind it", x.classOf(which, 10), 0);
        }
        Edges.due("units of group 0 behind it", x.group(0, 6), 0);
        Edges.due("units of group 1 behind it", x.group(1, 6), 0);
        Edges.due("another one at once", x.mark(), 0);
        Edges.due("that is an act too", x.count(12), 4);
        x.pass(1);
        Edges.due("behind one tick", x.mark(), 1);
    }

    private static void keepAndRestore() {
        Edges.sentence("restore: NONE if there is no snapshot");
        Edges.refused("of a new object", Servers::empty, DeficitCircles::restore, NONE);
        Edges.refused("behind acts", Servers::wide, DeficitCircles::restore, NONE);
        Edges.Run kept = x -> {
            x.keep();
            x.addGroup(3);
            x.pass(9);
        };
        Edges.act("of the snapshot of a new object", kept, DeficitCircles::restore, 0);
        Edges.due("groups", Edges.after(x -> {
            kept.on(x);
            x.restore();
        }).count(1), 0);
        Edges.act("few()", Servers::few, DeficitCircles::restore, 12);
        Edges.sentence("keep: a snapshot, in place of the one that was. Returns the time");
        Edges.due("at 0", new DeficitCircles().keep(), 0);
        DeficitCircles x = Edges.after(Servers::mixed);
        Edges.due("at 12", x.keep(), 12);
        Edges.due("no act", x.count(12), 4);
        x.pass(5);
        Edges.due("at 17", x.keep(), 17);
        x.pass(5);
        Edges.due("restore()", x.restore(), 17);
        Edges.due("of a snapshot that stays", x.restore(), 17);
        Edges.due("at the same time", x.keep(), 17);
    }

    public static void main(String[] args) {
        newObject();
        addGroup();
        addClassRanges();
        addClassFull();
        addClassOrder();
        setGroupQuantum();
        setQuantum();
        setAge();
        addRanges();
        addTokens();
        addFull();
        addOrder();
        passRange();
        passEnd();
        mark();
        keepAndRestore();
        Due.finish("EdgesOfCallsTest");
    }
}
