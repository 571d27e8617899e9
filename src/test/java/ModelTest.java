import java.util.Random;

/** Long runs of calls on the program and on the naive server; each answer must be the same. */
public final class ModelTest {
    private static final int RUNS = 240;
    private static final int CALLS = 512;

    private final Random random;
    private final int run;
    private final DeficitCircles program = new DeficitCircles();
    private final NaiveServer naive = new NaiveServer();

    /** The kinds of runs differ in what they do often, since some states need a long way. */
    private final int style;

    private ModelTest(int run) {
        this.run = run;
        this.random = new Random(1000L + run);
        this.style = run % 6;
    }

    private int between(int from, int to) {
        return from + random.nextInt(to - from + 1);
    }

    private void due(String call, int got, int want) {
        Due.equal("run " + run + ": " + call, got, want);
    }

    private int someGroup() {
        int groups = naive.count(1);
        return groups == 0 || random.nextInt(40) == 0 ? between(-1, 3) : random.nextInt(groups);
    }

    private int someClass() {
        int classes = naive.count(2);
        return classes == 0 || random.nextInt(40) == 0 ? between(-1, 8) : random.nextInt(classes);
    }

    private int someJob() {
        int jobs = naive.count(3);
        return jobs == 0 || random.nextInt(20) == 0 ? between(-1, jobs + 1) : random.nextInt(jobs);
    }

    private int someQuantum() {
        if (random.nextInt(30) == 0) {
            return random.nextBoolean() ? 0 : 201;
        }
        return style == 2 || random.nextInt(3) == 0 ? between(1, 5) : between(1, 200);
    }

    private int someAge() {
        if (random.nextInt(30) == 0) {
            return random.nextBoolean() ? -1 : 2001;
        }
        if (style == 2 || style == 3) {
            return random.nextInt(4) == 0 ? 0 : between(1, 60);
        }
        return random.nextInt(3) == 0 ? 0 : between(0, 2000);
    }

    private int someTicks() {
        switch (random.nextInt(20)) {
            case 0:
                return between(-1, 1);
            case 1:
                return between(499, 501);
            case 2:
            case 3:
                return style == 4 ? 500 : between(100, 400);
            default:
                return between(1, style == 5 ? 20 : 120);
        }
    }

    private int someSize() {
        if (random.nextInt(40) == 0) {
            return between(-1, 0) + (random.nextBoolean() ? 101 : 0);
        }
        return style == 5 || random.nextInt(3) == 0 ? between(1, 9) : between(1, 99);
    }

    private void addGroup() {
        int quantum = someQuantum();
        due("addGroup(" + quantum + ")", program.addGroup(quantum), naive.addGroup(quantum));
    }

    private void addClass() {
        int group = someGroup();
        int quantum = someQuantum();
        int size = random.nextInt(30) == 0 ? 9 : between(random.nextInt(3) == 0 ? 10 : 300, 501);
        int fill = random.nextInt(30) == 0 ? -1 : between(style == 1 ? 0 : 10, 21);
        due("addClass(" + group + ", " + quantum + ", " + size + ", " + fill + ")",
                program.addClass(group, quantum, size, fill),
                naive.addClass(group, quantum, size, fill));
    }

    private void addJob() {
        int which = someClass();
        int size = someSize();
        due("add(" + which + ", " + size + ")", program.add(which, size), naive.add(which, size));
    }

    private void set() {
        int kind = random.nextInt(4);
        if (kind == 0) {
            int group = someGroup();
            int quantum = random.nextInt(4) == 0 ? naive.group(group, 0) : someQuantum();
            due("setGroupQuantum(" + group + ", " + quantum + ")",
                    program.setGroupQuantum(group, quantum), naive.setGroupQuantum(group, quantum));
        } else if (kind == 1) {
            int which = someClass();
            int quantum = random.nextInt(4) == 0 ? naive.classOf(which, 1) : someQuantum();
            due("setQuantum(" + which + ", " + quantum + ")",
                    program.setQuantum(which, quantum), naive.setQuantum(which, quantum));
        } else {
            int which = someClass();
            int age = random.nextInt(6) == 0 ? naive.classOf(which, 6) : someAge();
            due("setAge(" + which + ", " + age + ")",
                    program.setAge(which, age), naive.setAge(which, age));
        }
    }

    private void pass() {
        int ticks = someTicks();
        due("pass(" + ticks + ")", program.pass(ticks), naive.pass(ticks));
    }

    private void typeText(String text) {
        for (int i = 0; i < text.length(); i++) {
            char sign = text.charAt(i);
            due("type(" + (int) sign + ")", program.type(sign), naive.type(sign));
        }
    }

    private String someText() {
        StringBuilder text = new StringBuilder();
        int jobs = random.nextInt(10) == 0 ? between(10, 16) : between(1, 5);
        for (int i = 0; i < jobs; i++) {
            text.append(i == 0 ? "" : ";").append(Math.max(0, someClass()) % 10).append(':')
                    .append(random.nextInt(2) == 0 ? between(1, 9) : between(10, 99));
        }
        if (random.nextInt(3) == 0) {
            String signs = "0123456789::;;/<a \u00e9\u0663";
            int at = random.nextInt(text.length());
            text.setCharAt(at, signs.charAt(random.nextInt(signs.length())));
        }
        if (random.nextInt(8) == 0) {
            text.setLength(random.nextInt(text.length()));
        }
        return text.toString();
    }

    private void read() {
        if (random.nextInt(6) != 0) {
            due("clearText()", program.clearText(), naive.clearText());
        }
        typeText(someText());
        due("readJobs()", program.readJobs(), naive.readJobs());
    }

    private void goBack() {
        int kind = random.nextInt(5);
        if (kind < 2) {
            due("undo()", program.undo(), naive.undo());
        } else if (kind < 4) {
            due("keep()", program.keep(), naive.keep());
        } else {
            due("restore()", program.restore(), naive.restore());
        }
    }

    private void act() {
        int kind = random.nextInt(100);
        if (kind < 3) {
            addGroup();
        } else if (kind < 9) {
            addClass();
        } else if (kind < 16) {
            set();
        } else if (kind < (style == 4 ? 30 : 62)) {
            addJob();
        } else if (kind < 85) {
            pass();
        } else if (kind < 88) {
            due("mark()", program.mark(), naive.mark());
        } else if (kind < 93) {
            read();
        } else if (kind < (style == 0 ? 100 : 95)) {
            goBack();
        } else {
            addJob();
        }
    }

    private void compareForecast() {
        int waits = naive.count(4);
        int place = between(-1, waits);
        due("served(" + place + ")", program.served(place), naive.served(place));
        int job = someJob();
        due("beginsAt(" + job + ")", program.beginsAt(job), naive.beginsAt(job));
        due("bound(" + job + ")", program.bound(job), naive.bound(job));
        int which = someClass();
        int other = someClass();
        due("shares(" + which + ", " + other + ")",
                program.shares(which, other), naive.shares(which, other));
    }

    private void compareState() {
        for (int what = -1; what <= 14; what++) {
            due("count(" + what + ")", program.count(what), naive.count(what));
        }
        for (int group = -1; group <= 3; group++) {
            for (int what = -1; what <= 7; what++) {
                due("group(" + group + ", " + what + ")",
                        program.group(group, what), naive.group(group, what));
            }
        }
        for (int which = -1; which <= 8; which++) {
            for (int what = -1; what <= 11; what++) {
                due("classOf(" + which + ", " + what + ")",
                        program.classOf(which, what), naive.classOf(which, what));
            }
        }
    }

    private void compareJobs() {
        int jobs = naive.count(3);
        for (int job = -1; job <= jobs; job++) {
            for (int what = -1; what <= 8; what++) {
                due("job(" + job + ", " + what + ")",
                        program.job(job, what), naive.job(job, what));
            }
            due("bound(" + job + ")", program.bound(job), naive.bound(job));
        }
    }

    private void play() {
        if (random.nextInt(4) != 0) {
            for (int i = 0; i < 3; i++) {
                addGroup();
            }
            for (int i = 0; i < 8; i++) {
                addClass();
            }
        }
        for (int call = 0; call < CALLS && !Due.anyWrong(); call++) {
            act();
            compareState();
            if (call % 4 == 0) {
                compareForecast();
            }
            if (call % 16 == 0) {
                compareJobs();
            }
        }
        compareJobs();
    }

    public static void main(String[] args) {
        for (int run = 0; run < RUNS && !Due.anyWrong(); run++) {
            new ModelTest(run).play();
        }
        Due.finish("ModelTest");
    }
}
