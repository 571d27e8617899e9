/** The edges of the history and of the snapshot, and of the number of calls. */
public final class EdgesOfHistoryTest {
    private static final int NONE = Edges.NONE;

    private EdgesOfHistoryTest() {
    }

    /** So many acts: a group of quantum 1, then its quantum to 2, 3, and so on. */
    private static DeficitCircles changed(int acts) {
        DeficitCircles x = new DeficitCircles();
        x.addGroup(1);
        for (int act = 1; act < acts; act++) {
            Edges.due("setGroupQuantum()", x.setGroupQuantum(0, act + 1), act);
        }
        return x;
    }

    private static void fourStates() {
        Edges.sentence("A history of at most 4 states is kept; the oldest one is dropped");
        for (int acts = 1; acts <= 13; acts++) {
            DeficitCircles x = changed(acts);
            int states = Math.min(4, acts);
            Edges.due(acts + " acts, states", x.count(12), states);
            for (int left = states - 1; left >= 0; left--) {
                Edges.due(acts + " acts, undo()", x.undo(), left);
                Edges.due(acts + " acts, states", x.count(12), left);
                int quantum = acts - (states - left);
                if (quantum > 0) {
                    Edges.due(acts + " acts, the state", x.group(0, 0), quantum);
                } else {
                    Edges.due(acts + " acts, the first state", x.count(1), 0);
                }
            }
            Edges.due(acts + " acts, undo() of none", x.undo(), NONE);
            Edges.due(acts + " acts, what stays", x.count(1), acts <= 4 ? 0 : 1);
            Edges.due(acts + " acts, undo() of none again", x.undo(), NONE);
            Edges.due(acts + " acts, states", x.count(12), 0);
        }
    }

    private static void undoAndActs() {
        Edges.sentence("undo() removes and restores the latest one");
        DeficitCircles x = changed(4);
        Edges.due("undo()", x.undo(), 3);
        Edges.due("undo()", x.undo(), 2);
        Edges.due("an act behind undo()", x.setGroupQuantum(0, 77), 2);
        Edges.due("states", x.count(12), 3);
        x.setGroupQuantum(0, 78);
        x.setGroupQuantum(0, 79);
        Edges.due("states, one dropped", x.count(12), 4);
        int[] quanta = {78, 77, 2, 1};
        for (int i = 0; i < 4; i++) {
            Edges.due("undo()", x.undo(), 3 - i);
            Edges.due("the state", x.group(0, 0), quanta[i]);
        }
        Edges.due("undo()", x.undo(), NONE);
        Edges.sentence("undo: NONE if the history is empty");
        Edges.refused("of a new object", Servers::empty, DeficitCircles::undo, NONE);
        Edges.refused("behind the last one", y -> {
            Servers.mixed(y);
            for (int i = 0; i < 4; i++) {
                y.undo();
            }
        }, DeficitCircles::undo, NONE);
        Edges.refused("of what was kept alone", DeficitCircles::keep, DeficitCircles::undo, NONE);
        Edges.refused("of a text alone", y -> y.type('0'), DeficitCircles::undo, NONE);
    }

    /** A call that is no act, and leaves the history as it is. */
    private static void noAct(String name, Edges.Call call) {
        DeficitCircles full = Edges.after(Servers::mixed);
        call.on(full);
        Edges.due(name + ", states", full.count(12), 4);
        Edges.due(name + ", undo()", full.undo(), 3);
        Edges.due(name + ", the state before setQuantum()", full.classOf(2, 1), 9);
        Edges.due(name + ", undo()", full.undo(), 2);
        Edges.due(name + ", the state before add()", full.count(3), 4);
        DeficitCircles few = Edges.after(Servers::few);
        call.on(few);
        Edges.due(name + ", states", few.count(12), 2);
        DeficitCircles empty = new DeficitCircles();
        call.on(empty);
        Edges.due(name + ", states", empty.count(12), 0);
    }

    private static void acts() {
        Edges.sentence("Each call of a method that is described as an act .. records the state");
        noAct("type()", x -> x.type('0'));
        noAct("clearText()", DeficitCircles::clearText);
        noAct("keep()", DeficitCircles::keep);
        noAct("group()", x -> x.group(0, 0));
        noAct("classOf()", x -> x.classOf(0, 0));
        noAct("job()", x -> x.job(0, 0));
        noAct("served()", x -> x.served(0));
        noAct("beginsAt()", x -> x.beginsAt(4));
        noAct("bound()", x -> x.bound(4));
        noAct("shares()", x -> x.shares(0, 1));
        noAct("count()", x -> x.count(0));
        Edges.act("addGroup()", Servers::few, x -> x.addGroup(5), 2);
        Edges.act("addClass()", Servers::few, x -> x.addClass(1, 5, 50, 5), 3);
        Edges.act("setGroupQuantum()", Servers::few, x -> x.setGroupQuantum(0, 5), 10);
        Edges.act("setQuantum()", Servers::few, x -> x.setQuantum(0, 5), 4);
        Edges.act("setAge()", Servers::few, x -> x.setAge(0, 5), 0);
        Edges.act("add()", Servers::few, x -> x.add(0, 5), 5);
        Edges.act("pass()", Servers::few, x -> x.pass(50), 2);
        Edges.act("mark()", Servers::few, DeficitCircles::mark, 12);
        Edges.act("readJobs()", Servers::few, DeficitCircles::readJobs, 3);
        Edges.act("restore()", Servers::few, DeficitCircles::restore, 12);
    }

    private static void everyActAtFour() {
        Edges.sentence("when one more is recorded, the oldest one is dropped");
        Edges.Call[] calls = {x -> x.addGroup(5), x -> x.addClass(1, 5, 50, 5),
            x -> x.setGroupQuantum(0, 5), x -> x.setQuantum(0, 5), x -> x.setAge(0, 5),
            x -> x.add(0, 5), x -> x.pass(50), DeficitCircles::mark, DeficitCircles::readJobs,
            DeficitCircles::restore};
        for (int i = 0; i < calls.length; i++) {
            DeficitCircles x = Edges.after(Servers::mixed);
            Edges.due("act " + i, calls[i].on(x) >= 0 ? 1 : 0, 1);
            Edges.due("act " + i + ", states", x.count(12), 4);
            Edges.due("act " + i + ", undo()", x.undo(), 3);
            Edges.due("act " + i + ", undo()", x.undo(), 2);
            Edges.due("act " + i + ", before setQuantum()", x.classOf(2, 1), 9);
            Edges.due("act " + i + ", undo()", x.undo(), 1);
            Edges.due("act " + i + ", before add()", x.count(3), 4);
            Edges.due("act " + i + ", undo()", x.undo(), 0);
            Edges.due("act " + i + ", before pass()", x.count(0), 0);
            Edges.due("act " + i + ", undo()", x.undo(), NONE);
            Edges.due("act " + i + ", the state before is dropped", x.count(3), 4);
        }
    }

    private static void whatAStateIs() {
        Edges.sentence("A state is everything but the text, the history and the snapshot");
        DeficitCircles x = Edges.after(Servers::mixed);
        x.clearText();
        x.type('0');
        x.undo();
        Edges.due("undo() leaves the text", x.count(13), 1);
        x.type(':');
        x.restore();
        Edges.due("restore() leaves the text", x.count(13), 2);
        x.type('1');
        Edges.due("the text is whole", x.readJobs(), 1);
        DeficitCircles y = Servers.classes(5);
        y.add(0, 9);
        y.keep();
        y.pass(4);
        y.undo();
        y.undo();
        Edges.due("no job", y.count(3), 0);
        Edges.due("undo() leaves the snapshot", y.restore(), 0);
        Edges.due("with its job", y.count(3), 1);
        Edges.due("restore() leaves the history, but for one more", y.count(12), 3);
        Edges.due("undo()", y.undo(), 2);
        Edges.due("no job", y.count(3), 0);
    }

    private static void snapshot() {
        Edges.sentence("There is one snapshot, empty at first");
        DeficitCircles x = Servers.classes(5);
        Edges.due("restore()", x.restore(), NONE);
        x.pass(1);
        x.keep();
        x.pass(1);
        x.keep();
        x.pass(1);
        Edges.due("the latest one", x.restore(), 2);
        Edges.sentence("restore: the snapshot, which stays. This is an act");
        Edges.due("restore() again", x.restore(), 2);
        Edges.due("states", x.count(12), 4);
        Edges.due("undo()", x.undo(), 3);
        Edges.due("undo()", x.undo(), 2);
        Edges.due("the time before restore()", x.count(0), 3);
        Edges.due("restore()", x.restore(), 2);
        Edges.sentence("restore() of a server with fewer groups, classes and jobs");
        DeficitCircles y = Servers.groups(5);
        y.add(0, 3);
        y.keep();
        y.addGroup(6);
        y.addClass(1, 7, 70, 7);
        y.addClass(0, 8, 80, 8);
        y.setAge(2, 9);
        y.add(1, 30);
        y.pass(20);
        Edges.due("restore()", y.restore(), 0);
        Edges.due("groups", y.count(1), 1);
        Edges.due("classes", y.count(2), 1);
        Edges.due("jobs", y.count(3), 1);
        Edges.due("group(1, 0)", y.group(1, 0), Edges.UNKNOWN);
        Edges.due("classOf(1, 0)", y.classOf(1, 0), Edges.UNKNOWN);
        Edges.due("job(1, 0)", y.job(1, 0), Edges.UNKNOWN);
        Edges.due("addGroup()", y.addGroup(9), 1);
        Edges.due("its present class", y.group(1, 5), NONE);
        Edges.due("addClass()", y.addClass(0, 9, 90, 9), 1);
        int[] told = {0, 9, 100000, 0, 0, 90, 0, NONE, 0, 0, 0};
        for (int what = 0; what < told.length; what++) {
            Edges.due("classOf(1, " + what + ")", y.classOf(1, what), told[what]);
        }
    }

    private static void bucketsToo() {
        Edges.sentence("A state is everything but ..: a bucket's size and fill too");
        DeficitCircles x = new DeficitCircles();
        x.addGroup(5);
        x.addClass(0, 5, 50, 9);
        x.add(0, 50);
        x.keep();
        x.undo();
        x.undo();
        x.addClass(0, 5, 20, 1);
        x.add(0, 20);
        Edges.due("restore()", x.restore(), 0);
        x.pass(1);
        Edges.due("the fill of the snapshot", x.classOf(0, 5), 9);
        x.pass(99);
        Edges.due("the size of the snapshot", x.classOf(0, 5), 50);
        x.undo();
        x.undo();
        x.undo();
        x.pass(1);
        Edges.due("the fill that is undone to", x.classOf(0, 5), 1);
        x.pass(99);
        Edges.due("the size that is undone to", x.classOf(0, 5), 20);
    }

    /** Jobs of 99 and 50 units of a class and a group whose quanta are 1. */
    private static DeficitCircles slowTurns() {
        DeficitCircles x = new DeficitCircles();
        x.addGroup(1);
        x.addClass(0, 1, 500, 0);
        x.add(0, 99);
        x.add(0, 50);
        return x;
    }

    private static void turnsOfThoseThatAreGone() {
        Edges.sentence("A state is everything but ..: turns are taken without groups that are gone");
        DeficitCircles x = slowTurns();
        x.addGroup(1);
        x.addClass(1, 1, 500, 0);
        x.add(1, 50);
        x.pass(1);
        Edges.due("the turn of the group that will be gone", x.count(5), 2);
        Edges.due("the deficit of the other one", x.group(0, 1), 100050);
        for (int left = 3; left >= 0; left--) {
            Edges.due("undo()", x.undo(), left);
        }
        Edges.due("the groups that are left", x.count(1), 1);
        x.pass(100);
        Edges.due("the second job, behind 149 rounds", x.count(5), 1);
        Edges.due("its group is not busy", x.group(0, 1), 100000);
        DeficitCircles y = slowTurns();
        y.keep();
        y.addGroup(200);
        y.addClass(1, 200, 500, 0);
        y.add(1, 99);
        y.add(1, 99);
        y.pass(1);
        Edges.due("the turn of the group that will be gone", y.count(5), 2);
        Edges.due("restore()", y.restore(), 0);
        y.pass(1);
        Edges.due("the turn of the first job", y.count(5), 0);
        Edges.due("99 quanta, all of them taken", y.group(0, 1), 100000);
        Edges.due("99 quanta of the class", y.classOf(0, 2), 100000);
        Edges.due("when the second one begins", y.beginsAt(1), 99);
        Edges.sentence("A state is everything but ..: turns are taken without classes that are gone");
        DeficitCircles z = slowTurns();
        z.addClass(0, 1, 500, 0);
        z.add(1, 50);
        z.pass(1);
        Edges.due("the turn of the class that will be gone", z.count(5), 2);
        Edges.due("the deficit of the other one", z.classOf(0, 2), 100050);
        for (int left = 3; left >= 1; left--) {
            Edges.due("undo()", z.undo(), left);
        }
        z.pass(1);
        Edges.due("the turn of the first job", z.count(5), 0);
        Edges.due("99 quanta, all of them taken", z.classOf(0, 2), 100000);
        Edges.due("99 quanta of the group", z.group(0, 1), 100000);
    }

    private static void calls() {
        Edges.sentence("An object is used for at most 512 calls after it has been made");
        DeficitCircles x = new DeficitCircles();
        for (int call = 0; call < 511; call++) {
            x.pass(39);
        }
        Edges.due("the 512th, an act", x.pass(71), 0);
        DeficitCircles y = new DeficitCircles();
        for (int call = 0; call < 511; call++) {
            y.pass(39);
        }
        Edges.due("the 512th, refused", y.pass(72), Edges.NOT_POSSIBLE);
        DeficitCircles z = new DeficitCircles();
        for (int call = 0; call < 511; call++) {
            z.mark();
        }
        Edges.due("the 512th, undo()", z.undo(), 3);
    }

    public static void main(String[] args) {
        fourStates();
        undoAndActs();
        acts();
        everyActAtFour();
        whatAStateIs();
        snapshot();
        bucketsToo();
        turnsOfThoseThatAreGone();
        calls();
        Due.finish("EdgesOfHistoryTest");
    }
}
