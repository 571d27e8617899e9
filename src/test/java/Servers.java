/** Servers in states that the tests of edges begin with. */
final class Servers {
    private static final String FIFTEEN_JOBS_OF_2 =
            "0:2;0:2;0:2;0:2;0:2;0:2;0:2;0:2;0:2;0:2;0:2;0:2;0:2;0:2;0:2";

    private Servers() {
    }

    /** Without groups. */
    static void empty(DeficitCircles x) {
        // Nothing is done to a new object.
    }

    /**
     * Two groups, three classes (0 and 2 of group 0, 1 of group 1), jobs 0 to 4, of which one is
     * done, one is in service and three wait, a snapshot, a text, and four states in the history.
     */
    static void mixed(DeficitCircles x) {
        x.addGroup(10);
        x.addGroup(7);
        x.addClass(0, 4, 100, 2);
        x.addClass(1, 6, 60, 0);
        x.addClass(0, 9, 10, 20);
        x.setAge(1, 15);
        x.add(0, 5);
        x.add(1, 20);
        x.add(2, 10);
        x.keep();
        x.add(0, 12);
        x.pass(12);
        x.add(1, 30);
        x.setQuantum(2, 8);
        Edges.type(x, "0:5;1:3;2:10");
    }

    /** As mixed(), with two states in the history, so that there is room for acts. */
    static void few(DeficitCircles x) {
        mixed(x);
        makeRoom(x);
        x.setGroupQuantum(1, 8);
    }

    /** Leaves everything as it is, but for one state in the history and a snapshot of now. */
    static void makeRoom(DeficitCircles x) {
        x.keep();
        for (int i = 0; i < 4; i++) {
            x.undo();
        }
        x.restore();
    }

    /** Three groups and eight classes, as many as there can be, and four states. */
    static void wide(DeficitCircles x) {
        x.addGroup(10);
        x.addGroup(20);
        x.addGroup(200);
        x.addClass(0, 30, 500, 20);
        x.addClass(2, 3, 10, 0);
        for (int which = 2; which < 8; which++) {
            x.addClass(which % 3, which, 500, 20);
        }
    }

    /** As wide(), with 60 jobs that wait, as many as there can be, and one in service. */
    static void crowded(DeficitCircles x) {
        wide(x);
        Edges.type(x, FIFTEEN_JOBS_OF_2);
        for (int i = 0; i < 4; i++) {
            x.readJobs();
        }
        x.pass(1);
        x.add(0, 2);
    }

    /** As wide(), with 200 jobs, as many as there can be, of which the last five wait. */
    static void spent(DeficitCircles x) {
        wide(x);
        Edges.type(x, FIFTEEN_JOBS_OF_2);
        for (int i = 0; i < 13; i++) {
            x.readJobs();
            x.pass(30);
        }
        for (int i = 0; i < 5; i++) {
            x.add(0, 2);
        }
    }

    /** As wide(), with 200 jobs of which 60 wait: there is no room in either way. */
    static void crowdedAndSpent(DeficitCircles x) {
        wide(x);
        Edges.type(x, FIFTEEN_JOBS_OF_2);
        for (int i = 0; i < 9; i++) {
            x.readJobs();
            x.pass(30);
        }
        for (int i = 0; i < 5; i++) {
            x.add(0, 2);
        }
        x.pass(10);
        for (int i = 0; i < 4; i++) {
            x.readJobs();
        }
    }

    /** As mixed(), at the latest time that there is, with two jobs that wait. */
    static void late(DeficitCircles x) {
        mixed(x);
        Edges.pass(x, 20000 - 12);
        x.add(0, 9);
        x.add(2, 7);
    }

    /** As many groups of their own as are asked for; each has one class, all of these quanta. */
    static DeficitCircles groups(int... quanta) {
        DeficitCircles x = new DeficitCircles();
        for (int group = 0; group < quanta.length; group++) {
            x.addGroup(quanta[group]);
            x.addClass(group, 200, 500, 20);
        }
        return x;
    }

    /** One group of quantum 200 with classes of these quanta. */
    static DeficitCircles classes(int... quanta) {
        DeficitCircles x = new DeficitCircles();
        x.addGroup(200);
        for (int quantum : quanta) {
            x.addClass(0, quantum, 500, 20);
        }
        return x;
    }
}
