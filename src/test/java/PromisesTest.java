/** Each promise by itself; the answers that are due are worked out by hand from the document. */
public final class PromisesTest {
    private static final int UNKNOWN = -1;
    private static final int BAD_VALUE = -2;
    private static final int FULL = -3;
    private static final int NOT_POSSIBLE = -4;
    private static final int NONE = -5;
    private static final int[] WRONG = {Integer.MIN_VALUE, -1000, -5, -1};

    private static String promise = "";

    private PromisesTest() {
    }

    private static void due(String call, int got, int want) {
        Due.equal(promise + ": " + call, got, want);
    }

    /** One group of quantum 10 with two classes, of quanta 4 and 6, full buckets of 500. */
    private static DeficitCircles plain() {
        DeficitCircles x = new DeficitCircles();
        x.addGroup(10);
        x.addClass(0, 4, 500, 0);
        x.addClass(0, 6, 500, 0);
        return x;
    }

    private static void type(DeficitCircles x, String text) {
        x.clearText();
        for (int i = 0; i < text.length(); i++) {
            x.type(text.charAt(i));
        }
    }

    private static void passLong(DeficitCircles x, int ticks) {
        int left = ticks;
        while (left > 0) {
            int part = Math.min(500, left);
            x.pass(part);
            left -= part;
        }
    }

    private static void promise1() {
        promise = "1, a new object";
        DeficitCircles x = new DeficitCircles();
        int[] counts = {0, 0, 0, 0, 0, NONE, NONE, 0, 0, 0, 0, 0, 0, 0};
        for (int what = 0; what < counts.length; what++) {
            due("count(" + what + ")", x.count(what), counts[what]);
        }
        due("group(0, 0)", x.group(0, 0), UNKNOWN);
        due("classOf(0, 0)", x.classOf(0, 0), UNKNOWN);
        due("job(0, 0)", x.job(0, 0), UNKNOWN);
        due("served(0)", x.served(0), NONE);
        due("undo()", x.undo(), NONE);
        due("restore()", x.restore(), NONE);
        due("readJobs()", x.readJobs(), -100);
        due("pass(3)", x.pass(3), 0);
        due("count(9)", x.count(9), 3);
        DeficitCircles other = new DeficitCircles();
        due("another one's count(0)", other.count(0), 0);
        due("UNKNOWN", DeficitCircles.UNKNOWN, UNKNOWN);
        due("BAD_VALUE", DeficitCircles.BAD_VALUE, BAD_VALUE);
        due("FULL", DeficitCircles.FULL, FULL);
        due("NOT_POSSIBLE", DeficitCircles.NOT_POSSIBLE, NOT_POSSIBLE);
        due("NONE", DeficitCircles.NONE, NONE);
    }

    private static void promise2() {
        promise = "2, addGroup";
        DeficitCircles x = new DeficitCircles();
        due("addGroup(0)", x.addGroup(0), BAD_VALUE);
        due("addGroup(201)", x.addGroup(201), BAD_VALUE);
        due("addGroup(-1)", x.addGroup(-1), BAD_VALUE);
        due("no act", x.count(12), 0);
        due("addGroup(1)", x.addGroup(1), 0);
        due("addGroup(200)", x.addGroup(200), 1);
        due("addGroup(7)", x.addGroup(7), 2);
        due("addGroup(7)", x.addGroup(7), FULL);
        due("addGroup(0) when full", x.addGroup(0), BAD_VALUE);
        due("addGroup(201) when full", x.addGroup(201), BAD_VALUE);
        due("three acts", x.count(12), 3);
        due("groups", x.count(1), 3);
        int[] told = {200, 100000, 0, 0, 0, NONE, 0};
        for (int what = 0; what < told.length; what++) {
            due("group(1, " + what + ")", x.group(1, what), told[what]);
        }
        due("undo()", x.undo(), 2);
        due("addGroup(9) after undo", x.addGroup(9), 2);
        due("group(2, 0)", x.group(2, 0), 9);
    }

    private static void promise3() {
        promise = "3, addClass";
        DeficitCircles x = new DeficitCircles();
        due("without groups", x.addClass(0, 1, 10, 0), UNKNOWN);
        x.addGroup(5);
        x.addGroup(6);
        due("addClass(2, ..)", x.addClass(2, 1, 10, 0), UNKNOWN);
        for (int wrong : WRONG) {
            due("addClass(" + wrong + ", ..)", x.addClass(wrong, 1, 10, 0), UNKNOWN);
        }
        due("unknown is first", x.addClass(2, 0, 9, 21), UNKNOWN);
        due("quantum 0", x.addClass(0, 0, 10, 0), BAD_VALUE);
        due("quantum 201", x.addClass(0, 201, 10, 0), BAD_VALUE);
        due("size 9", x.addClass(0, 1, 9, 0), BAD_VALUE);
        due("size 501", x.addClass(0, 1, 501, 0), BAD_VALUE);
        due("fill -1", x.addClass(0, 1, 10, -1), BAD_VALUE);
        due("fill 21", x.addClass(0, 1, 10, 21), BAD_VALUE);
        due("no act", x.count(12), 2);
        due("the least", x.addClass(0, 1, 10, 0), 0);
        due("the most", x.addClass(1, 200, 500, 20), 1);
        int[] least = {0, 1, 100000, 0, 0, 10, 0, NONE, 0, 0, 0};
        int[] most = {1, 200, 100000, 0, 0, 500, 0, NONE, 0, 0, 0};
        for (int what = 0; what < least.length; what++) {
            due("classOf(0, " + what + ")", x.classOf(0, what), least[what]);
            due("classOf(1, " + what + ")", x.classOf(1, what), most[what]);
        }
        due("an act", x.count(12), 4);
        for (int which = 2; which < 8; which++) {
            due("class " + which, x.addClass(1, 3, 20, 2), which);
        }
        due("the ninth", x.addClass(1, 3, 20, 2), FULL);
        due("bad when full", x.addClass(1, 3, 9, 2), BAD_VALUE);
        due("unknown when full", x.addClass(2, 3, 20, 2), UNKNOWN);
        due("no act", x.undo(), 3);
        due("no act", x.count(2), 7);
        due("again", x.addClass(1, 3, 20, 2), 7);
        due("classes", x.count(2), 8);
        due("group(1, 2)", x.group(1, 2), 7);
        due("group(0, 2)", x.group(0, 2), 1);
    }

    private static void promise4() {
        promise = "4, setGroupQuantum";
        DeficitCircles x = plain();
        int acts = x.count(12);
        due("unknown", x.setGroupQuantum(1, 5), UNKNOWN);
        due("unknown", x.setGroupQuantum(-1, 5), UNKNOWN);
        due("unknown is first", x.setGroupQuantum(1, 0), UNKNOWN);
        due("0", x.setGroupQuantum(0, 0), BAD_VALUE);
        due("201", x.setGroupQuantum(0, 201), BAD_VALUE);
        due("the same", x.setGroupQuantum(0, 10), NONE);
        due("no act", x.count(12), acts);
        due("200", x.setGroupQuantum(0, 200), 10);
        due("an act", x.count(12), acts + 1);
        due("1", x.setGroupQuantum(0, 1), 200);
        due("1 again", x.setGroupQuantum(0, 1), NONE);
        due("group(0, 0)", x.group(0, 0), 1);
        // With quantum 1 the group needs 5 rounds for a job of 5: its deficit is just used up.
        x.add(0, 5);
        x.add(0, 9);
        x.pass(1);
        due("group(0, 1)", x.group(0, 1), 100000);
        // With quantum 7 it needs two for the job of 9 that begins at 5, and 5 are left.
        due("7", x.setGroupQuantum(0, 7), 1);
        x.add(0, 9);
        x.pass(5);
        due("group(0, 1) of two quanta", x.group(0, 1), 100005);
    }

    private static void promise5() {
        promise = "5, setQuantum";
        DeficitCircles x = plain();
        int acts = x.count(12);
        due("unknown", x.setQuantum(2, 5), UNKNOWN);
        due("unknown", x.setQuantum(-1, 5), UNKNOWN);
        due("unknown is first", x.setQuantum(2, 0), UNKNOWN);
        due("0", x.setQuantum(0, 0), BAD_VALUE);
        due("201", x.setQuantum(0, 201), BAD_VALUE);
        due("the same", x.setQuantum(0, 4), NONE);
        due("no act", x.count(12), acts);
        due("200", x.setQuantum(0, 200), 4);
        due("an act", x.count(12), acts + 1);
        due("classOf(0, 1)", x.classOf(0, 1), 200);
        due("classOf(1, 1)", x.classOf(1, 1), 6);
        x.add(0, 99);
        x.add(0, 99);
        x.add(0, 99);
        x.pass(1);
        due("its deficit", x.classOf(0, 2), 100101);
        due("1", x.setQuantum(0, 1), 200);
        due("its deficit stays", x.classOf(0, 2), 100101);
        due("undo()", x.undo(), 3);
        due("classOf(0, 1)", x.classOf(0, 1), 200);
    }

    private static void promise6() {
        promise = "6, setAge";
        DeficitCircles x = plain();
        int acts = x.count(12);
        due("unknown", x.setAge(2, 5), UNKNOWN);
        due("unknown", x.setAge(-1, 5), UNKNOWN);
        due("unknown is first", x.setAge(2, -1), UNKNOWN);
        due("-1", x.setAge(0, -1), BAD_VALUE);
        due("2001", x.setAge(0, 2001), BAD_VALUE);
        due("0, the same", x.setAge(0, 0), NONE);
        due("no act", x.count(12), acts);
        due("2000", x.setAge(0, 2000), 0);
        due("2000, the same", x.setAge(0, 2000), NONE);
        due("an act", x.count(12), acts + 1);
        due("1", x.setAge(0, 1), 2000);
        due("classOf(0, 6)", x.classOf(0, 6), 1);
        due("classOf(1, 6)", x.classOf(1, 6), 0);
        due("0", x.setAge(0, 0), 1);
        // An age makes jobs old that have waited as long already.
        x.add(1, 6);
        x.add(0, 90);
        x.pass(3);
        due("old jobs", x.count(8), 0);
        x.setAge(0, 4);
        due("a tick too early", x.count(8), 0);
        x.setAge(0, 3);
        due("old jobs", x.count(8), 1);
        due("job(1, 7)", x.job(1, 7), 1);
        x.setAge(0, 0);
        due("not any more", x.job(1, 7), 0);
    }

    private static void promise7() {
        promise = "7, add";
        DeficitCircles x = new DeficitCircles();
        due("without classes", x.add(0, 1), UNKNOWN);
        x.addGroup(10);
        x.addClass(0, 4, 120, 3);
        int acts = x.count(12);
        due("unknown", x.add(1, 1), UNKNOWN);
        due("unknown", x.add(-1, 1), UNKNOWN);
        due("unknown is first", x.add(1, 0), UNKNOWN);
        due("0", x.add(0, 0), BAD_VALUE);
        due("100", x.add(0, 100), BAD_VALUE);
        due("-7", x.add(0, -7), BAD_VALUE);
        due("no act", x.count(12), acts);
        due("99", x.add(0, 99), 0);
        due("an act", x.count(12), acts + 1);
        due("tokens", x.classOf(0, 5), 21);
        due("22 of 21", x.add(0, 22), NOT_POSSIBLE);
        due("tokens stay", x.classOf(0, 5), 21);
        due("bad before not possible", x.add(0, 100), BAD_VALUE);
        due("20 of 21", x.add(0, 20), 1);
        due("1 of 1", x.add(0, 1), 2);
        due("1 of 0", x.add(0, 1), NOT_POSSIBLE);
        x.pass(1);
        due("4 of 3", x.add(0, 4), NOT_POSSIBLE);
        due("3 of 3", x.add(0, 3), 3);
        int[] told = {0, 3, 1, 0, NONE, NONE, 3, 0};
        for (int what = 0; what < told.length; what++) {
            due("job(3, " + what + ")", x.job(3, what), told[what]);
        }
        due("jobs", x.count(3), 4);
        due("jobs that wait", x.count(4), 3);
    }

    private static void promise7Full() {
        promise = "7, add, when there is no room";
        DeficitCircles x = new DeficitCircles();
        x.addGroup(10);
        x.addClass(0, 4, 59, 0);
        x.addClass(0, 4, 500, 20);
        for (int job = 0; job < 59; job++) {
            due("add(0, 1)", x.add(0, 1), job);
        }
        due("add(1, 1)", x.add(1, 1), 59);
        due("not possible is before full", x.add(0, 1), NOT_POSSIBLE);
        due("bad is before full", x.add(1, 100), BAD_VALUE);
        due("unknown is before full", x.add(2, 1), UNKNOWN);
        due("60 wait", x.add(1, 1), FULL);
        due("tokens stay", x.classOf(1, 5), 499);
        due("history", x.count(12), 4);
        x.pass(1);
        due("59 wait", x.add(1, 1), 60);
        due("60 wait", x.add(1, 1), FULL);
        int came = 61;
        while (came < 200) {
            x.pass(50);
            for (int i = 0; i < 20 && came < 200; i++) {
                due("add(1, 1)", x.add(1, 1), came);
                came++;
            }
        }
        x.pass(500);
        due("none waits", x.count(4), 0);
        due("there have been 200", x.add(1, 1), FULL);
        due("not possible is before full", x.add(0, 1), NOT_POSSIBLE);
        due("jobs", x.count(3), 200);
        due("done", x.count(7), 200);
        due("undo()", x.undo(), 3);
        x.undo();
        due("room again after undo", x.add(1, 1), 199);
    }

    private static void promise8() {
        promise = "8, pass";
        DeficitCircles x = new DeficitCircles();
        x.addGroup(10);
        x.addClass(0, 5, 100, 3);
        int acts = x.count(12);
        due("0", x.pass(0), BAD_VALUE);
        due("501", x.pass(501), BAD_VALUE);
        due("-1", x.pass(-1), BAD_VALUE);
        due("the most", x.pass(Integer.MAX_VALUE), BAD_VALUE);
        due("no act", x.count(12), acts);
        x.add(0, 3);
        x.add(0, 4);
        due("pass(2)", x.pass(2), 0);
        due("job(0, 6)", x.job(0, 6), 1);
        due("count(5)", x.count(5), 0);
        due("tokens", x.classOf(0, 5), 99);
        due("pass(1)", x.pass(1), 1);
        due("none in service", x.count(5), NONE);
        due("job(0, 5)", x.job(0, 5), 3);
        due("tokens up to the size", x.classOf(0, 5), 100);
        due("job(1, 3)", x.job(1, 3), 0);
        due("pass(1)", x.pass(1), 0);
        due("job(1, 4)", x.job(1, 4), 3);
        due("pass(500)", x.pass(500), 1);
        due("job(1, 5)", x.job(1, 5), 7);
        due("count(0)", x.count(0), 504);
        due("count(9)", x.count(9), 497);
        due("history", x.count(12), 4);
        due("undo()", x.undo(), 3);
        due("count(0)", x.count(0), 4);
        due("job(1, 6)", x.job(1, 6), 3);
        passLong(x, 19496);
        due("count(0)", x.count(0), 19500);
        due("pass(500), to the end", x.pass(500), 0);
        due("count(0)", x.count(0), 20000);
        due("pass(1), behind the end", x.pass(1), NOT_POSSIBLE);
        due("pass(0), behind the end", x.pass(0), BAD_VALUE);
        due("history", x.undo(), 3);
        due("pass(499)", x.pass(499), 0);
        due("pass(2)", x.pass(2), NOT_POSSIBLE);
        due("count(0)", x.count(0), 19999);
        due("pass(1)", x.pass(1), 0);
    }

    /** Two groups; the deficits at each step are worked out from "Turns". */
    private static void turns() {
        promise = "8, turns";
        DeficitCircles x = new DeficitCircles();
        x.addGroup(3);
        x.addGroup(5);
        x.addGroup(200);
        x.addClass(0, 2, 500, 0);
        x.addClass(1, 4, 500, 0);
        x.addClass(0, 7, 500, 0);
        x.add(0, 4);
        x.add(1, 6);
        x.add(2, 10);
        x.add(0, 1);
        // Group 0 is looked at: class 0 to 2, class 2 to 7, class 0 to 4: next is job 0, of 4.
        // Group 0 to 3: not enough. Group 1: class 1 to 8 for job 1, of 6; the group to 5.
        // Group 2 is not busy. Group 0 to 6: job 0 begins, and 4 is taken from both.
        x.pass(1);
        due("in service", x.count(5), 0);
        due("group(0, 1)", x.group(0, 1), 100002);
        due("group(1, 1)", x.group(1, 1), 100005);
        due("group(2, 1)", x.group(2, 1), 100000);
        due("group(2, 5)", x.group(2, 5), NONE);
        due("classOf(0, 2)", x.classOf(0, 2), 100000);
        due("classOf(1, 2)", x.classOf(1, 2), 100008);
        due("classOf(2, 2)", x.classOf(2, 2), 100007);
        due("present group", x.count(6), 0);
        due("group(0, 5)", x.group(0, 5), 0);
        due("group(1, 5)", x.group(1, 5), 1);
        // At 4: class 0 has 0 for job 3, of 1; class 2 to 14 for job 2, of 10; group 0 has 2.
        // Group 1 to 10: job 1, of 6, begins; nobody waits in group 1 then: both deficits are 0.
        x.pass(4);
        due("in service", x.count(5), 1);
        due("group(0, 1)", x.group(0, 1), 100002);
        due("group(0, 5)", x.group(0, 5), 2);
        due("classOf(2, 2)", x.classOf(2, 2), 100014);
        due("group(1, 1)", x.group(1, 1), 100000);
        due("classOf(1, 2)", x.classOf(1, 2), 100000);
        due("present group", x.count(6), 1);
        // Group 0 goes from 2 to 11: job 2, of 10, begins at 10; its class is not busy then.
        due("served(0)", x.served(0), 2);
        due("served(1)", x.served(1), 3);
        x.pass(6);
        due("in service", x.count(5), 2);
        due("group(0, 1)", x.group(0, 1), 100001);
        due("classOf(2, 2)", x.classOf(2, 2), 100000);
        due("group(0, 5)", x.group(0, 5), 2);
        // At 20 class 2 is left for class 0, with 2 for job 3, of 1; the group has 1, just enough.
        x.pass(10);
        due("done in one tick", x.count(5), NONE);
        due("job(3, 4)", x.job(3, 4), 20);
        due("job(3, 5)", x.job(3, 5), 21);
        due("group(0, 1)", x.group(0, 1), 100000);
        due("group(0, 5)", x.group(0, 5), 0);
        due("classOf(0, 2)", x.classOf(0, 2), 100000);
    }

    private static void oldJobs() {
        promise = "8, old jobs";
        DeficitCircles x = new DeficitCircles();
        x.addGroup(1);
        x.addGroup(100);
        x.addClass(0, 1, 500, 0);
        x.addClass(1, 100, 500, 0);
        x.setAge(0, 10);
        x.add(1, 10);
        x.add(1, 20);
        x.add(0, 30);
        x.add(0, 40);
        x.add(0, 50);
        due("served(0)", x.served(0), 0);
        due("served(1)", x.served(1), 2);
        due("served(2)", x.served(2), 3);
        due("served(3)", x.served(3), 4);
        due("served(4)", x.served(4), 1);
        // Group 0 is looked at first: class 0 goes up to 30 by ones; the group has 1.
        x.pass(9);
        due("group(0, 1)", x.group(0, 1), 100001);
        due("classOf(0, 2)", x.classOf(0, 2), 100030);
        due("old jobs", x.count(8), 0);
        x.pass(1);
        due("old jobs", x.count(8), 3);
        due("job(2, 7)", x.job(2, 7), 1);
        due("job(1, 7)", x.job(1, 7), 0);
        due("served when old", x.count(10), 0);
        x.pass(1);
        due("in service", x.count(5), 2);
        due("served when old", x.count(10), 1);
        due("group(0, 1)", x.group(0, 1), 99971);
        due("classOf(0, 2)", x.classOf(0, 2), 100000);
        due("the present group stays", x.count(6), 1);
        due("in service: not old", x.job(2, 7), 0);
        x.pass(30);
        due("in service", x.count(5), 3);
        due("group(0, 1)", x.group(0, 1), 99931);
        due("classOf(0, 2)", x.classOf(0, 2), 99960);
        x.setAge(0, 0);
        x.pass(40);
        // No age any more: job 1 has its turn, as group 1 has 90 left for its 20.
        due("in service", x.count(5), 1);
        due("group(1, 1)", x.group(1, 1), 100000);
        due("group(0, 1) is not looked at", x.group(0, 1), 99931);
        due("classOf(0, 2) is not looked at", x.classOf(0, 2), 99960);
        due("beginsAt(4)", x.beginsAt(4), 100);
        due("beginsAt() changes nothing", x.group(0, 1), 99931);
        x.add(0, 1);
        x.pass(20);
        // From -40 to 50 in ones, and from -69 to 50; both less 50.
        due("in service", x.count(5), 4);
        due("group(0, 1)", x.group(0, 1), 100000);
        due("classOf(0, 2)", x.classOf(0, 2), 100000);
        due("served when old", x.count(10), 2);
        due("longest wait", x.classOf(0, 9), 100);
    }

    private static void oldJobsOfTwoClasses() {
        promise = "8, the old job that came first";
        DeficitCircles x = plain();
        x.setAge(0, 5);
        x.setAge(1, 2);
        x.add(1, 9);
        x.add(0, 3);
        x.pass(1);
        due("job 1 is first by turns", x.count(5), 1);
        x.undo();
        x.add(1, 7);
        x.add(0, 8);
        x.pass(3);
        due("none in service", x.count(5), NONE);
        due("old", x.count(8), 2);
        x.pass(1);
        due("the lowest number", x.count(5), 0);
        x.pass(9);
        due("the lowest number", x.count(5), 2);
        due("job(3, 7)", x.job(3, 7), 1);
        due("count(10)", x.count(10), 2);
    }

    /** A present group or class that has just enough stays the next one, without a quantum. */
    private static void justEnough() {
        promise = "8, turns, just enough";
        DeficitCircles x = new DeficitCircles();
        x.addGroup(9);
        x.addGroup(9);
        x.addClass(0, 9, 500, 0);
        x.addClass(0, 9, 500, 0);
        x.addClass(1, 9, 500, 0);
        x.add(0, 5);
        x.add(1, 1);
        x.add(2, 1);
        x.add(0, 4);
        x.add(0, 1);
        x.pass(5);
        due("classOf(0, 2)", x.classOf(0, 2), 100004);
        due("group(0, 1)", x.group(0, 1), 100004);
        x.pass(1);
        due("in service", x.count(5), 3);
        due("classOf(0, 2)", x.classOf(0, 2), 100000);
        due("group(0, 1)", x.group(0, 1), 100000);
        due("classOf(1, 2)", x.classOf(1, 2), 100000);
        due("group(1, 1)", x.group(1, 1), 100000);
        x.pass(3);
        // Group 0 is looked at with 0: class 1 to 9 becomes its present one; then group 1 is next.
        x.pass(1);
        due("job(2, 4)", x.job(2, 4), 9);
        due("present class", x.group(0, 5), 1);
        due("classOf(1, 2)", x.classOf(1, 2), 100009);
        due("group(0, 1)", x.group(0, 1), 100000);
        x.pass(1);
        due("job(1, 4)", x.job(1, 4), 10);
        due("group(0, 1)", x.group(0, 1), 100008);
    }

    private static void promise9() {
        promise = "9, mark";
        DeficitCircles x = plain();
        due("mark() of nothing", x.mark(), 0);
        due("an act", x.count(12), 4);
        x.add(0, 7);
        x.add(1, 5);
        x.pass(9);
        due("classOf(1, 10)", x.classOf(1, 10), 5);
        due("classOf(0, 10)", x.classOf(0, 10), 4);
        due("group(0, 6)", x.group(0, 6), 9);
        due("mark()", x.mark(), 9);
        due("classOf(0, 10)", x.classOf(0, 10), 0);
        due("classOf(1, 10)", x.classOf(1, 10), 0);
        due("mark() again", x.mark(), 0);
        x.pass(10);
        due("mark()", x.mark(), 3);
        due("undo()", x.undo(), 3);
        due("classOf(0, 10)", x.classOf(0, 10), 3);
    }

    private static void promise10() {
        promise = "10, type";
        DeficitCircles x = new DeficitCircles();
        for (int length = 1; length <= 60; length++) {
            due("type()", x.type((char) (length * 1000)), length);
            due("count(13)", x.count(13), length);
        }
        due("the 61st", x.type('0'), FULL);
        due("count(13)", x.count(13), 60);
        due("no act", x.count(12), 0);
        x.clearText();
        due("type()", x.type((char) 0), 1);
        due("readJobs()", x.readJobs(), -100);
    }

    private static void promise11() {
        promise = "11, clearText";
        DeficitCircles x = plain();
        int acts = x.count(12);
        due("empty", x.clearText(), 0);
        type(x, "0:12");
        due("clearText()", x.clearText(), 4);
        due("clearText() again", x.clearText(), 0);
        due("readJobs()", x.readJobs(), -100);
        due("no act", x.count(12), acts);
        type(x, "0:1;1:2;0:3;1:4;0:5;1:6;0:7;1:8;0:9;1:1;0:2;1:3;0:4;1:5;0:66");
        due("clearText() of 60", x.clearText(), 60);
        due("type()", x.type('1'), 1);
        due("readJobs()", x.readJobs(), -101);
    }

    private static void fault(DeficitCircles x, String text, int fault) {
        type(x, text);
        due("\"" + text + "\"", x.readJobs(), -100 - fault);
        due("the text stays", x.count(13), text.length());
    }

    private static void promise12() {
        promise = "12, readJobs";
        DeficitCircles x = plain();
        int acts = x.count(12);
        fault(x, "", 0);
        fault(x, "0", 1);
        fault(x, "0:", 2);
        fault(x, "0:1;", 4);
        fault(x, "0:12;", 5);
        fault(x, "0:12;1", 6);
        fault(x, "0:12;1:", 7);
        fault(x, "0:0", 2);
        fault(x, "0:05", 2);
        fault(x, "0:123", 4);
        fault(x, "00:1", 1);
        fault(x, ":", 0);
        fault(x, ";0:1", 0);
        fault(x, "0;1", 1);
        fault(x, "0::1", 2);
        fault(x, "0:1:", 3);
        fault(x, "0:1;;", 4);
        fault(x, "0:12:", 4);
        fault(x, " 0:1", 0);
        fault(x, "0:1 ", 3);
        fault(x, "/:1", 0);
        fault(x, "0:/", 2);
        fault(x, "0:1/", 3);
        fault(x, "0:1;0:1x", 7);
        fault(x, "9:1;a", 4);
        fault(x, "\u0660:1", 0);
        fault(x, "0:\u0661", 2);
        fault(x, "0:1;1:2;0:3;1:4;0:5;1:6;0:7;1:8;0:9;1:1;0:2;1:3;0:4;1:5;0:6;", 60);
        due("no act", x.count(12), acts);
        due("no job", x.count(3), 0);
        type(x, "0:10;1:9;0:99");
        due("readJobs()", x.readJobs(), 3);
        due("one act", x.count(12), acts + 1);
        due("the text stays", x.count(13), 13);
        due("job(0, 1)", x.job(0, 1), 10);
        due("job(1, 1)", x.job(1, 1), 9);
        due("job(1, 0)", x.job(1, 0), 1);
        due("job(2, 1)", x.job(2, 1), 99);
        due("classOf(0, 5)", x.classOf(0, 5), 391);
        due("again", x.readJobs(), 3);
        due("undo()", x.undo(), 4 - 1);
        due("jobs", x.count(3), 3);
        due("undo()", x.undo(), 2);
        due("jobs", x.count(3), 0);
    }

    private static void promise12Errors() {
        promise = "12, readJobs, all or none";
        DeficitCircles x = new DeficitCircles();
        type(x, "0:1");
        due("no class", x.readJobs(), UNKNOWN);
        x.addGroup(10);
        x.addClass(0, 4, 100, 0);
        type(x, "0:1;2:1");
        due("unknown", x.readJobs(), UNKNOWN);
        type(x, "0:1;9:1;0:100");
        due("a fault is before unknown", x.readJobs(), -112);
        type(x, "0:60;0:41;5:1");
        due("the first error", x.readJobs(), NOT_POSSIBLE);
        type(x, "0:60;5:1;0:41");
        due("the first error", x.readJobs(), UNKNOWN);
        due("no job", x.count(3), 0);
        due("tokens stay", x.classOf(0, 5), 100);
        due("no act", x.count(12), 2);
        type(x, "0:60;0:40");
        due("just enough", x.readJobs(), 2);
        due("tokens", x.classOf(0, 5), 0);
        due("one act", x.undo(), 2);
        for (int job = 0; job < 58; job++) {
            x.add(0, 1);
        }
        type(x, "0:1;0:1;0:1");
        due("61 would wait", x.readJobs(), FULL);
        due("58 wait", x.count(4), 58);
        due("tokens stay", x.classOf(0, 5), 42);
        type(x, "0:1;0:1");
        due("60 wait", x.readJobs(), 2);
        due("60 wait", x.count(4), 60);
        x.undo();
        due("58 wait", x.count(4), 58);
        type(x, "0:1;0:1;3:1");
        due("unknown is before full", x.readJobs(), UNKNOWN);
        type(x, "0:1;0:1;0:41");
        due("not possible is before full", x.readJobs(), NOT_POSSIBLE);
    }

    private static void promise13() {
        promise = "13, undo";
        DeficitCircles x = new DeficitCircles();
        due("undo() of nothing", x.undo(), NONE);
        x.addGroup(1);
        x.setGroupQuantum(0, 2);
        due("history", x.count(12), 2);
        due("undo()", x.undo(), 1);
        due("group(0, 0)", x.group(0, 0), 1);
        due("undo()", x.undo(), 0);
        due("groups", x.count(1), 0);
        due("undo()", x.undo(), NONE);
        x.addGroup(1);
        for (int quantum = 2; quantum <= 8; quantum++) {
            due("setGroupQuantum()", x.setGroupQuantum(0, quantum), quantum - 1);
        }
        due("at most 4 states", x.count(12), 4);
        for (int left = 3; left >= 0; left--) {
            due("undo()", x.undo(), left);
            due("group(0, 0)", x.group(0, 0), 4 + left);
        }
        due("undo()", x.undo(), NONE);
        due("group(0, 0)", x.group(0, 0), 4);
    }

    private static void promise13Whole() {
        promise = "13, undo, of a whole state";
        DeficitCircles x = plain();
        x.setAge(1, 50);
        type(x, "0:9;1:30;0:4;1:3");
        x.readJobs();
        x.pass(12);
        x.clearText();
        int[] before = allAnswers(x);
        x.pass(400);
        x.mark();
        x.add(0, 8);
        x.undo();
        x.undo();
        due("undo()", x.undo(), 1);
        int[] after = allAnswers(x);
        for (int i = 0; i < before.length; i++) {
            due("answer " + i, after[i], before[i]);
        }
        x.add(1, 2);
        type(x, "1:1");
        x.undo();
        due("the text is no state", x.count(13), 3);
        due("undo()", x.undo(), 0);
        due("before pass(12)", x.count(0), 0);
        due("before pass(12)", x.count(5), NONE);
        due("before pass(12)", x.classOf(0, 2), 100000);
        due("before pass(12)", x.group(0, 5), NONE);
        due("before pass(12)", x.job(0, 3), 0);
    }

    /** The history, that stays out of a state, apart. */
    private static int[] allAnswers(DeficitCircles x) {
        int[] all = new int[200];
        int n = 0;
        for (int what = 0; what < 12; what++) {
            all[n++] = x.count(what);
        }
        for (int what = 0; what < 7; what++) {
            all[n++] = x.group(0, what);
        }
        for (int which = 0; which < 2; which++) {
            for (int what = 0; what < 11; what++) {
                all[n++] = x.classOf(which, what);
            }
        }
        for (int job = 0; job < 6; job++) {
            for (int what = 0; what < 8; what++) {
                all[n++] = x.job(job, what);
            }
            all[n++] = x.beginsAt(job);
            all[n++] = x.bound(job);
            all[n++] = x.served(job);
        }
        return all;
    }

    private static void promise14And15() {
        promise = "14 and 15, keep and restore";
        DeficitCircles x = plain();
        due("restore() of nothing", x.restore(), NONE);
        int acts = x.count(12);
        due("keep()", x.keep(), 0);
        due("keep() is no act", x.count(12), acts);
        x.add(1, 30);
        x.add(0, 9);
        x.pass(17);
        int[] kept = allAnswers(x);
        due("keep(), in place of the one before", x.keep(), 17);
        x.pass(300);
        x.mark();
        x.setAge(0, 9);
        x.clearText();
        type(x, "0:5");
        due("restore()", x.restore(), 17);
        due("restore() is an act", x.count(12), 4);
        int[] restored = allAnswers(x);
        for (int i = 0; i < kept.length; i++) {
            due("answer " + i, restored[i], kept[i]);
        }
        due("the text stays", x.count(13), 3);
        due("undo()", x.undo(), 3);
        due("classOf(0, 6)", x.classOf(0, 6), 9);
        due("count(0)", x.count(0), 317);
        due("the snapshot stays", x.restore(), 17);
        x.pass(100);
        due("keep()", x.keep(), 117);
        due("restore() of the same state", x.restore(), 117);
        x.addGroup(4);
        x.undo();
        x.undo();
        due("count(0)", x.count(0), 117);
        due("the snapshot outlives undo", x.restore(), 117);
    }

    private static void promise15Rows() {
        promise = "15, restore, of classes that were others since";
        DeficitCircles x = new DeficitCircles();
        x.addGroup(9);
        x.addGroup(8);
        x.addClass(0, 5, 100, 7);
        x.setAge(0, 6);
        x.add(0, 60);
        x.add(0, 40);
        x.keep();
        for (int i = 0; i < 4; i++) {
            x.undo();
        }
        x.addClass(1, 3, 20, 1);
        x.add(0, 2);
        x.setAge(0, 50);
        x.pass(1);
        due("restore()", x.restore(), 0);
        int[] told = {0, 5, 100000, 2, 100, 0, 6, 0, 0, 0, 0};
        for (int what = 0; what < told.length; what++) {
            due("classOf(0, " + what + ")", x.classOf(0, what), told[what]);
        }
        due("group(0, 2)", x.group(0, 2), 1);
        due("group(1, 2)", x.group(1, 2), 0);
        due("count(6)", x.count(6), NONE);
        due("job(0, 1)", x.job(0, 1), 60);
        x.pass(2);
        due("its own fill", x.classOf(0, 5), 14);
        x.pass(50);
        due("its own bucket", x.classOf(0, 5), 100);
        x.pass(10);
        due("served when old", x.count(10), 1);
        x.restore();
        due("served when old", x.count(10), 0);
        due("undo()", x.undo(), 3);
        due("served when old", x.count(10), 1);
        due("present group", x.count(6), 0);
    }

    private static void promise14Empty() {
        promise = "14, keep, of a server without groups";
        DeficitCircles empty = new DeficitCircles();
        due("keep() of an empty one", empty.keep(), 0);
        empty.addGroup(3);
        due("restore()", empty.restore(), 0);
        due("groups", empty.count(1), 0);
        due("history", empty.count(12), 2);
    }

    private static void promise16() {
        promise = "16, group";
        DeficitCircles x = new DeficitCircles();
        x.addGroup(11);
        x.addGroup(22);
        x.addClass(1, 4, 100, 0);
        x.addClass(0, 5, 100, 0);
        x.addClass(1, 6, 100, 0);
        x.add(0, 9);
        x.add(1, 8);
        x.add(2, 7);
        x.add(2, 3);
        for (int wrong : WRONG) {
            due("group(" + wrong + ", 0)", x.group(wrong, 0), UNKNOWN);
            due("group(" + wrong + ", -1)", x.group(wrong, -1), UNKNOWN);
            due("group(0, " + wrong + ")", x.group(0, wrong), BAD_VALUE);
        }
        due("group(2, 0)", x.group(2, 0), UNKNOWN);
        due("group(0, 7)", x.group(0, 7), BAD_VALUE);
        int[] before = {22, 100000, 2, 3, 19, NONE, 0};
        for (int what = 0; what < before.length; what++) {
            due("group(1, " + what + ")", x.group(1, what), before[what]);
        }
        // Group 0 with 11 begins job 1, of 8, at 0; group 1 goes to 22, and class 0 (4), class 2
        // (6), class 0 (8), class 2 (12): job 2, of 7, begins at 8.
        x.pass(10);
        int[] after = {22, 100015, 2, 2, 12, 2, 2};
        for (int what = 0; what < after.length; what++) {
            due("group(1, " + what + ")", x.group(1, what), after[what]);
        }
        int[] first = {11, 100000, 1, 0, 0, 1, 8};
        for (int what = 0; what < first.length; what++) {
            due("group(0, " + what + ")", x.group(0, what), first[what]);
        }
    }

    private static void promise17() {
        promise = "17, classOf";
        DeficitCircles x = new DeficitCircles();
        x.addGroup(11);
        x.addGroup(22);
        x.addClass(1, 4, 100, 2);
        x.setAge(0, 77);
        for (int wrong : WRONG) {
            due("classOf(" + wrong + ", 0)", x.classOf(wrong, 0), UNKNOWN);
            due("classOf(" + wrong + ", -1)", x.classOf(wrong, -1), UNKNOWN);
            due("classOf(0, " + wrong + ")", x.classOf(0, wrong), BAD_VALUE);
        }
        due("classOf(1, 0)", x.classOf(1, 0), UNKNOWN);
        due("classOf(0, 11)", x.classOf(0, 11), BAD_VALUE);
        x.add(0, 5);
        x.add(0, 7);
        x.add(0, 9);
        x.add(0, 11);
        int[] before = {1, 4, 100000, 4, 32, 68, 77, 0, 0, 0, 0};
        for (int what = 0; what < before.length; what++) {
            due("classOf(0, " + what + ")", x.classOf(0, what), before[what]);
        }
        // Job 0 begins at 0 with 8 less 5, job 1 at 5 with 7 less 7.
        x.pass(8);
        int[] after = {1, 4, 100000, 2, 20, 84, 77, 2, 1, 5, 8};
        for (int what = 0; what < after.length; what++) {
            due("classOf(0, " + what + ")", x.classOf(0, what), after[what]);
        }
        x.pass(100);
        int[] end = {1, 4, 100000, 0, 0, 100, 77, NONE, 4, 21, 32};
        for (int what = 0; what < end.length; what++) {
            due("classOf(0, " + what + ")", x.classOf(0, what), end[what]);
        }
        x.add(0, 3);
        x.pass(1);
        due("the longest stays", x.classOf(0, 9), 21);
    }

    private static void promise18() {
        promise = "18, job";
        DeficitCircles x = plain();
        due("job(0, 0)", x.job(0, 0), UNKNOWN);
        x.pass(3);
        x.setAge(1, 4);
        x.add(0, 6);
        x.add(1, 20);
        for (int wrong : WRONG) {
            due("job(" + wrong + ", 0)", x.job(wrong, 0), UNKNOWN);
            due("job(" + wrong + ", 9)", x.job(wrong, 9), UNKNOWN);
            due("job(0, " + wrong + ")", x.job(0, wrong), BAD_VALUE);
        }
        due("job(2, 0)", x.job(2, 0), UNKNOWN);
        due("job(0, 8)", x.job(0, 8), BAD_VALUE);
        int[] waits = {1, 20, 3, 0, NONE, NONE, 20, 0};
        for (int what = 0; what < waits.length; what++) {
            due("job(1, " + what + ")", x.job(1, what), waits[what]);
        }
        x.pass(4);
        int[] serves = {0, 6, 3, 1, 3, NONE, 2, 0};
        int[] old = {1, 20, 3, 0, NONE, NONE, 20, 1};
        for (int what = 0; what < serves.length; what++) {
            due("job(0, " + what + ")", x.job(0, what), serves[what]);
            due("job(1, " + what + ")", x.job(1, what), old[what]);
        }
        x.pass(3);
        int[] done = {0, 6, 3, 2, 3, 9, 0, 0};
        int[] begun = {1, 20, 3, 1, 9, NONE, 19, 0};
        for (int what = 0; what < done.length; what++) {
            due("job(0, " + what + ")", x.job(0, what), done[what]);
            due("job(1, " + what + ")", x.job(1, what), begun[what]);
        }
    }

    private static void promise19And20() {
        promise = "19 and 20, served and beginsAt";
        DeficitCircles x = plain();
        due("served(0)", x.served(0), NONE);
        due("beginsAt(0)", x.beginsAt(0), UNKNOWN);
        x.add(0, 10);
        x.add(1, 12);
        x.add(0, 2);
        for (int wrong : WRONG) {
            due("served(" + wrong + ")", x.served(wrong), BAD_VALUE);
            due("beginsAt(" + wrong + ")", x.beginsAt(wrong), UNKNOWN);
        }
        // Class 0: 4, 8; class 1: 6, 12: job 1 is first. Then class 0 with 12: jobs 0 and 2.
        due("served(0)", x.served(0), 1);
        due("served(1)", x.served(1), 0);
        due("served(2)", x.served(2), 2);
        due("served(3)", x.served(3), NONE);
        due("served(the most)", x.served(Integer.MAX_VALUE), NONE);
        due("beginsAt(1)", x.beginsAt(1), 0);
        due("beginsAt(0)", x.beginsAt(0), 12);
        due("beginsAt(2)", x.beginsAt(2), 22);
        due("beginsAt(3)", x.beginsAt(3), UNKNOWN);
        due("nothing has changed", x.classOf(0, 2), 100000);
        due("nothing has changed", x.group(0, 5), NONE);
        due("nothing has changed", x.count(6), NONE);
        due("nothing has changed", x.count(12), 4);
        x.pass(5);
        due("in service", x.count(5), 1);
        due("beginsAt() in service", x.beginsAt(1), NOT_POSSIBLE);
        due("served(0), those that wait", x.served(0), 0);
        due("served(2)", x.served(2), NONE);
        due("beginsAt(0)", x.beginsAt(0), 12);
        x.pass(7);
        due("done", x.beginsAt(1), NOT_POSSIBLE);
        due("beginsAt(0)", x.beginsAt(0), 12);
        // A job that becomes old at 13, while job 0 is served, goes ahead of job 2.
        x.setAge(1, 1);
        x.add(1, 99);
        due("beginsAt(3)", x.beginsAt(3), 22);
        due("beginsAt(2)", x.beginsAt(2), 121);
        due("served(1)", x.served(1), 3);
        due("served when old", x.count(10), 0);
        passLong(x, 19988);
        due("the time", x.count(0), 20000);
        x.add(0, 40);
        x.add(0, 30);
        due("beginsAt(4)", x.beginsAt(4), 20000);
        due("beginsAt(5), above 20000", x.beginsAt(5), 20040);
    }

    private static void promise21() {
        promise = "21, bound";
        DeficitCircles x = plain();
        due("bound(0)", x.bound(0), UNKNOWN);
        x.setAge(0, 20);
        x.add(1, 6);
        x.add(0, 50);
        x.pass(2);
        x.add(1, 7);
        x.add(0, 30);
        due("bound(-1)", x.bound(-1), UNKNOWN);
        due("bound(4)", x.bound(4), UNKNOWN);
        due("in service", x.bound(0), NOT_POSSIBLE);
        due("bound(1)", x.bound(1), 20 + 98);
        due("not old ever", x.bound(2), NONE);
        due("bound(3)", x.bound(3), 22 + 98 + 57);
        x.pass(4);
        x.pass(7);
        due("bound(1) at 13", x.bound(1), 20 + 98);
        x.setAge(0, 5);
        due("old since 5: now", x.bound(1), 13 + 98);
        due("bound(3)", x.bound(3), 13 + 98 + 50);
        x.setAge(0, 11);
        due("becomes old now", x.bound(3), 13 + 98 + 50);
        x.setAge(0, 12);
        due("becomes old at 14", x.bound(3), 14 + 98 + 50);
        x.pass(1);
        due("done", x.bound(0), NOT_POSSIBLE);
        x.setAge(1, 3);
        due("begun", x.bound(2), NOT_POSSIBLE);
    }

    private static void promise22() {
        promise = "22, shares";
        DeficitCircles x = plain();
        x.add(0, 7);
        x.add(1, 5);
        x.pass(9);
        // 4 units of class 0 (quantum 4), 5 units of class 1 (quantum 6).
        due("shares(0, 1)", x.shares(0, 1), 10000000 + 4 * 6 - 5 * 4);
        due("shares(1, 0)", x.shares(1, 0), 10000000 + 5 * 4 - 4 * 6);
        due("shares(0, 0)", x.shares(0, 0), 10000000);
        for (int wrong : WRONG) {
            due("shares(" + wrong + ", 0)", x.shares(wrong, 0), UNKNOWN);
            due("shares(0, " + wrong + ")", x.shares(0, wrong), UNKNOWN);
        }
        due("shares(2, 0)", x.shares(2, 0), UNKNOWN);
        due("shares(0, 2)", x.shares(0, 2), UNKNOWN);
        x.setQuantum(1, 10);
        due("the quanta of now", x.shares(0, 1), 10000000 + 4 * 10 - 5 * 4);
        x.mark();
        due("since the mark", x.shares(0, 1), 10000000);
        x.pass(2);
        due("since the mark", x.shares(1, 0), 10000000 - 2 * 10);
    }

    private static void promise23() {
        promise = "23, count";
        DeficitCircles x = plain();
        x.setAge(0, 10);
        x.pass(4);
        x.add(1, 12);
        x.add(0, 5);
        x.add(0, 7);
        type(x, "0:1");
        for (int wrong : WRONG) {
            due("count(" + wrong + ")", x.count(wrong), BAD_VALUE);
        }
        due("count(14)", x.count(14), BAD_VALUE);
        due("the most", x.count(Integer.MAX_VALUE), BAD_VALUE);
        // Class 0 (4) is passed, class 1 (6), class 0 (8): job 1, of 5. Then class 1 (12): job 0.
        x.pass(8);
        int[] told = {12, 1, 2, 3, 1, 0, 0, 1, 0, 4, 0, 7, 4, 3};
        for (int what = 0; what < told.length; what++) {
            due("count(" + what + ")", x.count(what), told[what]);
        }
        x.pass(9);
        due("old", x.count(8), 1);
        due("served when old", x.count(10), 0);
        x.pass(1);
        due("old", x.count(8), 0);
        due("served when old", x.count(10), 1);
        x.pass(50);
        int[] end = {72, 1, 2, 3, 0, NONE, 0, 3, 0, 72 - 24, 1, 0, 4, 3};
        for (int what = 0; what < end.length; what++) {
            due("count(" + what + ")", x.count(what), end[what]);
        }
    }

    public static void main(String[] args) {
        promise1();
        promise2();
        promise3();
        promise4();
        promise5();
        promise6();
        promise7();
        promise7Full();
        promise8();
        turns();
        oldJobs();
        oldJobsOfTwoClasses();
        justEnough();
        promise9();
        promise10();
        promise11();
        promise12();
        promise12Errors();
        promise13();
        promise13Whole();
        promise14And15();
        promise14Empty();
        promise15Rows();
        promise16();
        promise17();
        promise18();
        promise19And20();
        promise21();
        promise22();
        promise23();
        Due.finish("PromisesTest");
    }
}
