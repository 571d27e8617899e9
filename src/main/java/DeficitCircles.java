/**
 * A server whose work is shared by turns: groups by quanta and deficits, and within each group
 * classes by quanta and deficits of their own.
 *
 * <p>A call that answers with an error or with NONE changes nothing.
 */
public final class DeficitCircles {

    /** There is no such group, class or job. */
    public static final int UNKNOWN = -1;

    /** Another argument is out of range. */
    public static final int BAD_VALUE = -2;

    /** There is no more room. */
    public static final int FULL = -3;

    /** This is not possible. */
    public static final int NOT_POSSIBLE = -4;

    /** There is no such thing; not an error. */
    public static final int NONE = -5;

    private static final int MAX_GROUPS = 3;
    private static final int MAX_CLASSES = 8;
    private static final int MAX_JOBS = 200;
    private static final int MAX_WAITING = 60;
    private static final int MAX_QUANTUM = 200;
    private static final int MIN_BUCKET = 10;
    private static final int MAX_BUCKET = 500;
    private static final int MAX_FILL = 20;
    private static final int MAX_AGE = 2000;
    private static final int MAX_SIZE = 99;
    private static final int MAX_TICKS = 500;
    private static final int MAX_TIME = 20000;
    private static final int MAX_TEXT = 60;
    private static final int MAX_HISTORY = 4;

    private static final int DEFICIT_BASE = 100000;
    private static final int SHARES_BASE = 10000000;
    private static final int FAULT_BASE = -100;

    /** A job that has just begun may keep the server from an old one for as long as this. */
    private static final int LONGEST_REST = 98;

    /** More rounds of turns than any deficit can need. */
    private static final int MANY_ROUNDS = 1000000;

    private final State state = new State();
    private final State snapshot = new State();
    private boolean hasSnapshot = false;

    /** For what is tried out, or looked at ahead, without a change of the state. */
    private final State trial = new State();

    private final History history = new History();
    private final Text text = new Text();
    private final Turns turns = new Turns();

    /** Creates a server without groups. */
    public DeficitCircles() {
    }

    // ---- groups and classes

    /**
     * Adds a group.
     *
     * @param quantum 1 to 200
     * @return its number; BAD_VALUE; FULL if there are 3
     */
    public int addGroup(int quantum) {
        if (!isQuantum(quantum)) {
            return BAD_VALUE;
        }
        if (state.groups.held >= MAX_GROUPS) {
            return FULL;
        }
        history.push(state);
        return state.groups.append(quantum);
    }

    /**
     * Adds a class, whose jobs do not become old.
     *
     * @param group a group
     * @param quantum 1 to 200
     * @param size 10 to 500: the size of its bucket
     * @param fill 0 to 20: the fill of its bucket
     * @return its number; UNKNOWN; BAD_VALUE; FULL if there are 8
     */
    public int addClass(int group, int quantum, int size, int fill) {
        if (!state.groups.has(group)) {
            return UNKNOWN;
        }
        if (!isQuantum(quantum) || !isWithin(size, MIN_BUCKET, MAX_BUCKET)
                || !isWithin(fill, 0, MAX_FILL)) {
            return BAD_VALUE;
        }
        if (state.classes.held >= MAX_CLASSES) {
            return FULL;
        }
        history.push(state);
        return state.classes.append(group, quantum, size, fill);
    }

    /**
     * Changes the quantum of a group.
     *
     * @param group a group
     * @param quantum 1 to 200
     * @return the previous one; UNKNOWN; BAD_VALUE; NONE if it is so already
     */
    public int setGroupQuantum(int group, int quantum) {
        if (!state.groups.has(group)) {
            return UNKNOWN;
        }
        if (!isQuantum(quantum)) {
            return BAD_VALUE;
        }
        int previous = state.groups.quantum[group];
        if (previous == quantum) {
            return NONE;
        }
        history.push(state);
        state.groups.quantum[group] = quantum;
        return previous;
    }

    /**
     * Changes the quantum of a class.
     *
     * @param which a class
     * @param quantum 1 to 200
     * @return the previous one; UNKNOWN; BAD_VALUE; NONE if it is so already
     */
    public int setQuantum(int which, int quantum) {
        if (!state.classes.has(which)) {
            return UNKNOWN;
        }
        if (!isQuantum(quantum)) {
            return BAD_VALUE;
        }
        int previous = state.classes.quantum[which];
        if (previous == quantum) {
            return NONE;
        }
        history.push(state);
        state.classes.quantum[which] = quantum;
        return previous;
    }

    /**
     * Changes the age of a class.
     *
     * @param which a class
     * @param age 0 to 2000
     * @return the previous one; UNKNOWN; BAD_VALUE; NONE if it is so already
     */
    public int setAge(int which, int age) {
        if (!state.classes.has(which)) {
            return UNKNOWN;
        }
        if (!isWithin(age, 0, MAX_AGE)) {
            return BAD_VALUE;
        }
        int previous = state.classes.age[which];
        if (previous == age) {
            return NONE;
        }
        history.push(state);
        state.classes.age[which] = age;
        return previous;
    }

    // ---- jobs

    /**
     * Lets a job come; as many tokens as its size are taken from the bucket of its class.
     *
     * @param which a class
     * @param size 1 to 99
     * @return the number of the job; UNKNOWN; BAD_VALUE; NOT_POSSIBLE if the bucket has not so
     *     many tokens; FULL if 60 jobs wait, or there have been 200
     */
    public int add(int which, int size) {
        int error = state.whyNotAdmit(which, size);
        if (error < 0) {
            return error;
        }
        history.push(state);
        return state.admit(which, size);
    }

    /**
     * Lets ticks pass, one after the other.
     *
     * @param ticks 1 to 500
     * @return how many jobs are done in them; BAD_VALUE; NOT_POSSIBLE if the time would become
     *     more than 20000
     */
    public int pass(int ticks) {
        if (!isWithin(ticks, 1, MAX_TICKS)) {
            return BAD_VALUE;
        }
        if (state.time + ticks > MAX_TIME) {
            return NOT_POSSIBLE;
        }
        history.push(state);
        int done = 0;
        for (int tick = 0; tick < ticks; tick++) {
            done += passTick();
        }
        // No job comes between these ticks, so the buckets may be filled for all of them at once.
        state.classes.fillBuckets(ticks);
        return done;
    }

    /**
     * Makes a mark: the units that were served are counted from 0 again.
     *
     * @return the units that were served since the mark before
     */
    public int mark() {
        history.push(state);
        return state.classes.takeUnits();
    }

    // ---- texts

    /**
     * Types a character behind the text.
     *
     * @param character any character
     * @return the length of the text then; FULL if it has 60 characters
     */
    public int type(char character) {
        if (text.length >= MAX_TEXT) {
            return FULL;
        }
        return text.append(character);
    }

    /**
     * Empties the text.
     *
     * @return the length that it had
     */
    public int clearText() {
        int previous = text.length;
        text.length = 0;
        return previous;
    }

    /**
     * Lets the jobs of the text, which stays, come, one after the other; all of them, or none.
     *
     * @return how many there are; -100 minus the fault of the text if it has one; otherwise, of
     *     the first job for which it is so when its turn comes, the error that add() returns
     */
    public int readJobs() {
        int fault = text.fault();
        if (fault >= 0) {
            return FAULT_BASE - fault;
        }
        trial.copyFrom(state);
        int jobs = 0;
        int at = 0;
        while (at < text.length) {
            int which = text.digitAt(at);
            int size = text.sizeAt(at + 2);
            int error = trial.whyNotAdmit(which, size);
            if (error < 0) {
                return error;
            }
            trial.admit(which, size);
            jobs++;
            at += size < 10 ? 4 : 5;
        }
        history.push(state);
        state.copyFrom(trial);
        return jobs;
    }

    // ---- history

    /**
     * Removes and restores the latest state of the history.
     *
     * @return the number of states that are left; NONE if the history is empty
     */
    public int undo() {
        if (history.length == 0) {
            return NONE;
        }
        history.takeLatest(state);
        return history.length;
    }

    /**
     * Takes a snapshot of the state, in place of the one that was.
     *
     * @return the time
     */
    public int keep() {
        snapshot.copyFrom(state);
        hasSnapshot = true;
        return state.time;
    }

    /**
     * Restores the state of the snapshot, which stays.
     *
     * @return the time then; NONE if there is no snapshot
     */
    public int restore() {
        if (!hasSnapshot) {
            return NONE;
        }
        history.push(state);
        state.copyFrom(snapshot);
        return state.time;
    }

    // ---- what is told

    /**
     * Tells of a group.
     *
     * @param group a group
     * @param what 0 for its quantum, 1 for its deficit plus 100000, 2 for its classes, 3 for its
     *     jobs that wait, 4 for the sizes of these together, 5 for its present class (NONE if
     *     there is none), 6 for the units served since the mark
     * @return the number; UNKNOWN; BAD_VALUE
     */
    public int group(int group, int what) {
        if (!state.groups.has(group)) {
            return UNKNOWN;
        }
        switch (what) {
            case 0:
                return state.groups.quantum[group];
            case 1:
                return state.groups.deficit[group] + DEFICIT_BASE;
            case 2:
                return state.classes.heldOf(group);
            case 3:
                return state.waitsOfGroup(group);
            case 4:
                return state.sizesOfGroup(group);
            case 5:
                return state.groups.present[group];
            case 6:
                return state.classes.unitsOf(group);
            default:
                return BAD_VALUE;
        }
    }

    /**
     * Tells of a class.
     *
     * @param which a class
     * @param what 0 for its group, 1 for its quantum, 2 for its deficit plus 100000, 3 for its
     *     jobs that wait, 4 for the sizes of these together, 5 for the tokens in its bucket, 6 for
     *     its age, 7 for its first job that waits (NONE if there is none), 8 for its jobs that are
     *     done, 9 for the longest time that any of its jobs that have begun waited until then, 10
     *     for the units served since the mark
     * @return the number; UNKNOWN; BAD_VALUE
     */
    public int classOf(int which, int what) {
        if (!state.classes.has(which)) {
            return UNKNOWN;
        }
        switch (what) {
            case 0:
                return state.classes.group[which];
            case 1:
                return state.classes.quantum[which];
            case 2:
                return state.classes.deficit[which] + DEFICIT_BASE;
            case 3:
                return state.jobs.waitsOf(which);
            case 4:
                return state.jobs.sizesOf(which);
            case 5:
                return state.classes.tokens[which];
            case 6:
                return state.classes.age[which];
            case 7:
                return state.jobs.firstOf(which);
            case 8:
                return state.doneOf(which);
            case 9:
                return state.classes.longestWait[which];
            case 10:
                return state.classes.units[which];
            default:
                return BAD_VALUE;
        }
    }

    /**
     * Tells of a job.
     *
     * @param job a job
     * @param what 0 for its class, 1 for its size, 2 for the time at which it came, 3 for its
     *     state (0 waits, 1 in service, 2 done), 4 for the time at which it began (NONE if it
     *     waits), 5 for the time at which it ended (NONE if it is not done), 6 for the units left
     *     (0 if it is done), 7 for whether it is old (1, otherwise 0; 0 if it does not wait)
     * @return the number; UNKNOWN; BAD_VALUE
     */
    public int job(int job, int what) {
        if (!state.jobs.has(job)) {
            return UNKNOWN;
        }
        switch (what) {
            case 0:
                return state.jobs.ofClass[job];
            case 1:
                return state.jobs.size[job];
            case 2:
                return state.jobs.came[job];
            case 3:
                return state.stageOf(job);
            case 4:
                return state.jobs.began[job];
            case 5:
                return state.endOf(job);
            case 6:
                return state.leftOf(job);
            case 7:
                return state.isOld(job) ? 1 : 0;
            default:
                return BAD_VALUE;
        }
    }

    /**
     * Tells in which order jobs would be served if no more came and nothing else happened.
     *
     * @param place a place among the jobs that wait, in that order, from 0
     * @return the job; BAD_VALUE if place is negative; NONE if there are not so many
     */
    public int served(int place) {
        if (place < 0) {
            return BAD_VALUE;
        }
        if (place >= state.jobs.waits) {
            return NONE;
        }
        return beginAhead(place + 1);
    }

    /**
     * Tells when a job that waits would begin if no more came and nothing else happened.
     *
     * @param job a job
     * @return the time (also above 20000); UNKNOWN; NOT_POSSIBLE if it does not wait
     */
    public int beginsAt(int job) {
        if (!state.jobs.has(job)) {
            return UNKNOWN;
        }
        if (!state.jobs.isWaiting(job)) {
            return NOT_POSSIBLE;
        }
        beginAhead(state.jobs.waits);
        return trial.jobs.began[job];
    }

    /**
     * Tells a time at which a job that waits has begun for sure, whatever jobs come (as long as
     * ages stay as they are).
     *
     * @param job a job
     * @return the time; UNKNOWN; NOT_POSSIBLE if it does not wait; NONE if it does not become old
     */
    public int bound(int job) {
        if (!state.jobs.has(job)) {
            return UNKNOWN;
        }
        if (!state.jobs.isWaiting(job)) {
            return NOT_POSSIBLE;
        }
        int age = state.ageFor(job);
        if (age == 0) {
            return NONE;
        }
        int old = Math.max(state.jobs.came[job] + age, state.time);
        return old + LONGEST_REST + state.jobs.sizesAheadOf(job);
    }

    /**
     * Compares the shares of two classes since the mark.
     *
     * @param which a class
     * @param other a class
     * @return the units of the first one * the quantum of the other one, less the units of the
     *     other one * the quantum of the first one, plus 10000000; UNKNOWN
     */
    public int shares(int which, int other) {
        if (!state.classes.has(which) || !state.classes.has(other)) {
            return UNKNOWN;
        }
        Classes classes = state.classes;
        return classes.units[which] * classes.quantum[other]
                - classes.units[other] * classes.quantum[which] + SHARES_BASE;
    }

    /**
     * Tells of the whole.
     *
     * @param what 0 for the time, 1 for groups, 2 for classes, 3 for jobs there have been, 4 for
     *     jobs that wait, 5 for the job in service (NONE if there is none), 6 for the present
     *     group (NONE if there is none), 7 for jobs that are done, 8 for old jobs, 9 for ticks
     *     without a job in service so far, 10 for jobs that were served when they were old so far,
     *     11 for the sizes of all jobs that wait, 12 for the states in the history, 13 for the
     *     length of the text
     * @return the number; BAD_VALUE
     */
    public int count(int what) {
        switch (what) {
            case 0:
                return state.time;
            case 1:
                return state.groups.held;
            case 2:
                return state.classes.held;
            case 3:
                return state.jobs.held;
            case 4:
                return state.jobs.waits;
            case 5:
                return state.inService;
            case 6:
                return state.presentGroup;
            case 7:
                return state.doneJobs();
            case 8:
                return state.oldJobs();
            case 9:
                return state.idleTicks;
            case 10:
                return state.servedWhenOld;
            case 11:
                return state.jobs.allSizes();
            case 12:
                return history.length;
            case 13:
                return text.length;
            default:
                return BAD_VALUE;
        }
    }

    private static boolean isWithin(int value, int least, int most) {
        return value >= least && value <= most;
    }

    private static boolean isQuantum(int quantum) {
        return isWithin(quantum, 1, MAX_QUANTUM);
    }

    private int passTick() {
        if (state.inService == NONE && state.jobs.waits > 0) {
            state.begin(turns.nextJob(state));
        }
        int done = state.serveUnit();
        state.time++;
        return done;
    }

    /** Lets some of the jobs that wait begin, in the trial state; answers with the last of them. */
    private int beginAhead(int jobs) {
        trial.copyFrom(state);
        int job = NONE;
        for (int begun = 0; begun < jobs; begun++) {
            trial.time += trial.left;
            job = turns.nextJob(trial);
            trial.begin(job);
        }
        return job;
    }

    /** The groups, by their numbers. */
    private static final class Groups {
        int held = 0;
        final int[] quantum = new int[MAX_GROUPS];
        final int[] deficit = new int[MAX_GROUPS];
        final int[] present = new int[MAX_GROUPS];

        boolean has(int group) {
            return group >= 0 && group < held && group < MAX_GROUPS;
        }

        int append(int itsQuantum) {
            int group = held;
            if (group < 0 || group >= MAX_GROUPS) {
                return FULL;
            }
            quantum[group] = itsQuantum;
            deficit[group] = 0;
            present[group] = NONE;
            held++;
            return group;
        }

        void copyFrom(Groups other) {
            held = other.held;
            System.arraycopy(other.quantum, 0, quantum, 0, MAX_GROUPS);
            System.arraycopy(other.deficit, 0, deficit, 0, MAX_GROUPS);
            System.arraycopy(other.present, 0, present, 0, MAX_GROUPS);
        }
    }

    /** The classes, by their numbers. */
    private static final class Classes {
        int held = 0;
        final int[] group = new int[MAX_CLASSES];
        final int[] quantum = new int[MAX_CLASSES];
        final int[] deficit = new int[MAX_CLASSES];
        final int[] bucket = new int[MAX_CLASSES];
        final int[] fill = new int[MAX_CLASSES];
        final int[] tokens = new int[MAX_CLASSES];
        final int[] age = new int[MAX_CLASSES];
        final int[] longestWait = new int[MAX_CLASSES];
        final int[] units = new int[MAX_CLASSES];

        boolean has(int which) {
            return which >= 0 && which < held && which < MAX_CLASSES;
        }

        int append(int itsGroup, int itsQuantum, int itsBucket, int itsFill) {
            int which = held;
            if (which < 0 || which >= MAX_CLASSES) {
                return FULL;
            }
            group[which] = itsGroup;
            quantum[which] = itsQuantum;
            deficit[which] = 0;
            bucket[which] = itsBucket;
            fill[which] = itsFill;
            tokens[which] = itsBucket;
            age[which] = 0;
            longestWait[which] = 0;
            units[which] = 0;
            held++;
            return which;
        }

        void fillBuckets(int ticks) {
            for (int which = 0; which < held && which < MAX_CLASSES; which++) {
                tokens[which] = Math.min(bucket[which], tokens[which] + fill[which] * ticks);
            }
        }

        int takeUnits() {
            int sum = 0;
            for (int which = 0; which < held && which < MAX_CLASSES; which++) {
                sum += units[which];
                units[which] = 0;
            }
            return sum;
        }

        int heldOf(int itsGroup) {
            int sum = 0;
            for (int which = 0; which < held && which < MAX_CLASSES; which++) {
                if (group[which] == itsGroup) {
                    sum++;
                }
            }
            return sum;
        }

        int unitsOf(int itsGroup) {
            int sum = 0;
            for (int which = 0; which < held && which < MAX_CLASSES; which++) {
                if (group[which] == itsGroup) {
                    sum += units[which];
                }
            }
            return sum;
        }

        void copyFrom(Classes other) {
            held = other.held;
            System.arraycopy(other.group, 0, group, 0, MAX_CLASSES);
            System.arraycopy(other.quantum, 0, quantum, 0, MAX_CLASSES);
            System.arraycopy(other.deficit, 0, deficit, 0, MAX_CLASSES);
            System.arraycopy(other.bucket, 0, bucket, 0, MAX_CLASSES);
            System.arraycopy(other.fill, 0, fill, 0, MAX_CLASSES);
            System.arraycopy(other.tokens, 0, tokens, 0, MAX_CLASSES);
            System.arraycopy(other.age, 0, age, 0, MAX_CLASSES);
            System.arraycopy(other.longestWait, 0, longestWait, 0, MAX_CLASSES);
            System.arraycopy(other.units, 0, units, 0, MAX_CLASSES);
        }
    }

    /** The jobs, by their numbers, and the line of those that wait. */
    private static final class Jobs {
        int held = 0;
        final int[] ofClass = new int[MAX_JOBS];
        final int[] size = new int[MAX_JOBS];
        final int[] came = new int[MAX_JOBS];
        final int[] began = new int[MAX_JOBS];

        int waits = 0;
        final int[] line = new int[MAX_WAITING];

        boolean has(int job) {
            return job >= 0 && job < held && job < MAX_JOBS;
        }

        boolean isWaiting(int job) {
            return has(job) && began[job] == NONE;
        }

        boolean isFull() {
            return held >= MAX_JOBS || waits >= MAX_WAITING;
        }

        int append(int itsClass, int itsSize, int time) {
            int job = held;
            if (job < 0 || job >= MAX_JOBS || waits < 0 || waits >= MAX_WAITING) {
                return FULL;
            }
            ofClass[job] = itsClass;
            size[job] = itsSize;
            came[job] = time;
            began[job] = NONE;
            held++;
            line[waits] = job;
            waits++;
            return job;
        }

        /** Answers with the job at a place of the line; NONE behind its end. */
        int waitingAt(int place) {
            if (place < 0 || place >= waits || place >= MAX_WAITING) {
                return NONE;
            }
            return has(line[place]) ? line[place] : NONE;
        }

        void leaveLine(int job) {
            int left = 0;
            for (int place = 0; place < waits && place < MAX_WAITING; place++) {
                if (line[place] != job) {
                    line[left] = line[place];
                    left++;
                }
            }
            waits = left;
        }

        int firstOf(int which) {
            for (int place = 0; place < waits; place++) {
                int job = waitingAt(place);
                if (job != NONE && ofClass[job] == which) {
                    return job;
                }
            }
            return NONE;
        }

        int waitsOf(int which) {
            int sum = 0;
            for (int place = 0; place < waits; place++) {
                int job = waitingAt(place);
                if (job != NONE && ofClass[job] == which) {
                    sum++;
                }
            }
            return sum;
        }

        int sizesOf(int which) {
            int sum = 0;
            for (int place = 0; place < waits; place++) {
                int job = waitingAt(place);
                if (job != NONE && ofClass[job] == which) {
                    sum += size[job];
                }
            }
            return sum;
        }

        int allSizes() {
            return sizesAheadOf(held);
        }

        /** Adds up the sizes of the jobs that wait and have lower numbers than a job. */
        int sizesAheadOf(int job) {
            int sum = 0;
            for (int place = 0; place < waits; place++) {
                int ahead = waitingAt(place);
                if (ahead != NONE && ahead < job) {
                    sum += size[ahead];
                }
            }
            return sum;
        }

        void copyFrom(Jobs other) {
            held = other.held;
            waits = other.waits;
            System.arraycopy(other.ofClass, 0, ofClass, 0, MAX_JOBS);
            System.arraycopy(other.size, 0, size, 0, MAX_JOBS);
            System.arraycopy(other.came, 0, came, 0, MAX_JOBS);
            System.arraycopy(other.began, 0, began, 0, MAX_JOBS);
            System.arraycopy(other.line, 0, line, 0, MAX_WAITING);
        }
    }

    /** Everything that undo and the snapshot bring back. */
    private static final class State {
        final Groups groups = new Groups();
        final Classes classes = new Classes();
        final Jobs jobs = new Jobs();
        int time = 0;
        int presentGroup = NONE;
        int inService = NONE;

        /** The units left of the job in service; 0 if there is none. */
        int left = 0;

        int idleTicks = 0;
        int servedWhenOld = 0;

        void copyFrom(State other) {
            groups.copyFrom(other.groups);
            classes.copyFrom(other.classes);
            jobs.copyFrom(other.jobs);
            time = other.time;
            presentGroup = other.presentGroup;
            inService = other.inService;
            left = other.left;
            idleTicks = other.idleTicks;
            servedWhenOld = other.servedWhenOld;
        }

        /** Answers with the error that keeps a job from coming; 0 if it may come. */
        int whyNotAdmit(int which, int size) {
            if (!classes.has(which)) {
                return UNKNOWN;
            }
            if (!isWithin(size, 1, MAX_SIZE)) {
                return BAD_VALUE;
            }
            if (classes.tokens[which] < size) {
                return NOT_POSSIBLE;
            }
            return jobs.isFull() ? FULL : 0;
        }

        int admit(int which, int size) {
            if (!classes.has(which)) {
                return UNKNOWN;
            }
            classes.tokens[which] -= size;
            return jobs.append(which, size, time);
        }

        void begin(int job) {
            if (!jobs.isWaiting(job)) {
                return;
            }
            if (isOld(job)) {
                servedWhenOld++;
            }
            jobs.leaveLine(job);
            jobs.began[job] = time;
            inService = job;
            left = jobs.size[job];
            noteWait(jobs.ofClass[job], time - jobs.came[job]);
            payFromClass(jobs.ofClass[job], left);
            payFromGroup(groupFor(job), left);
        }

        private void noteWait(int which, int ticks) {
            if (classes.has(which)) {
                classes.longestWait[which] = Math.max(classes.longestWait[which], ticks);
            }
        }

        private void payFromClass(int which, int size) {
            if (classes.has(which)) {
                boolean isBusy = jobs.waitsOf(which) > 0;
                classes.deficit[which] = isBusy ? classes.deficit[which] - size : 0;
            }
        }

        private void payFromGroup(int group, int size) {
            if (groups.has(group)) {
                boolean isBusy = waitsOfGroup(group) > 0;
                groups.deficit[group] = isBusy ? groups.deficit[group] - size : 0;
            }
        }

        /** Lets one tick of service pass; answers with the number of jobs that are done in it. */
        int serveUnit() {
            if (!jobs.has(inService)) {
                idleTicks++;
                return 0;
            }
            int which = jobs.ofClass[inService];
            if (classes.has(which)) {
                classes.units[which]++;
            }
            left--;
            if (left > 0) {
                return 0;
            }
            inService = NONE;
            return 1;
        }

        int ageFor(int job) {
            if (!jobs.has(job) || !classes.has(jobs.ofClass[job])) {
                return 0;
            }
            return classes.age[jobs.ofClass[job]];
        }

        boolean isOld(int job) {
            int age = ageFor(job);
            return age != 0 && jobs.isWaiting(job) && time - jobs.came[job] >= age;
        }

        int firstOld() {
            for (int place = 0; place < jobs.waits; place++) {
                int job = jobs.waitingAt(place);
                if (isOld(job)) {
                    return job;
                }
            }
            return NONE;
        }

        int oldJobs() {
            int sum = 0;
            for (int place = 0; place < jobs.waits; place++) {
                if (isOld(jobs.waitingAt(place))) {
                    sum++;
                }
            }
            return sum;
        }

        int groupFor(int job) {
            if (!jobs.has(job) || !classes.has(jobs.ofClass[job])) {
                return NONE;
            }
            return classes.group[jobs.ofClass[job]];
        }

        int waitsOfGroup(int group) {
            int sum = 0;
            for (int place = 0; place < jobs.waits; place++) {
                if (groupFor(jobs.waitingAt(place)) == group) {
                    sum++;
                }
            }
            return sum;
        }

        int sizesOfGroup(int group) {
            int sum = 0;
            for (int place = 0; place < jobs.waits; place++) {
                int job = jobs.waitingAt(place);
                if (jobs.has(job) && groupFor(job) == group) {
                    sum += jobs.size[job];
                }
            }
            return sum;
        }

        /** Answers with 0 if a job waits, 1 if it is in service, 2 if it is done. */
        int stageOf(int job) {
            if (jobs.isWaiting(job)) {
                return 0;
            }
            return job == inService ? 1 : 2;
        }

        int endOf(int job) {
            // A job that has begun is served in every tick until it is done.
            return stageOf(job) == 2 && jobs.has(job) ? jobs.began[job] + jobs.size[job] : NONE;
        }

        int leftOf(int job) {
            int stage = stageOf(job);
            if (stage == 0 && jobs.has(job)) {
                return jobs.size[job];
            }
            return stage == 1 ? left : 0;
        }

        int doneOf(int which) {
            int sum = 0;
            for (int job = 0; job < jobs.held && job < MAX_JOBS; job++) {
                if (jobs.ofClass[job] == which && stageOf(job) == 2) {
                    sum++;
                }
            }
            return sum;
        }

        int doneJobs() {
            return jobs.held - jobs.waits - (inService == NONE ? 0 : 1);
        }
    }

    /**
     * Finds the job whose turn it is. Whole rounds of quanta that let nobody in are taken at once,
     * since a deficit far below 0 would take thousands of them.
     */
    private static final class Turns {
        /** The size of the first job that waits of each class; 0 if the class is not busy. */
        private final int[] classNeed = new int[MAX_CLASSES];

        /** What lookAt() told of each group in the latest round; 0 if it is not busy. */
        private final int[] groupNeed = new int[MAX_GROUPS];

        private final boolean[] groupBusy = new boolean[MAX_GROUPS];

        /** Answers with the job to be served now, which may change deficits; NONE if none waits. */
        int nextJob(State state) {
            if (state.jobs.waits == 0) {
                return NONE;
            }
            int old = state.firstOld();
            if (old != NONE) {
                return old;
            }
            noteFirstJobs(state);
            if (!presentGroupIsNext(state) && !walkGroups(state)) {
                skipGroupRounds(state);
                walkGroups(state);
            }
            int group = state.presentGroup;
            return state.groups.has(group) ? state.jobs.firstOf(state.groups.present[group]) : NONE;
        }

        private void noteFirstJobs(State state) {
            for (int group = 0; group < MAX_GROUPS; group++) {
                groupBusy[group] = false;
                groupNeed[group] = 0;
            }
            for (int which = 0; which < MAX_CLASSES; which++) {
                classNeed[which] = 0;
            }
            // From the back, so that the first job of a class is the one that is noted last.
            for (int place = state.jobs.waits - 1; place >= 0; place--) {
                noteJob(state, state.jobs.waitingAt(place));
            }
        }

        private void noteJob(State state, int job) {
            if (!state.jobs.has(job)) {
                return;
            }
            int which = state.jobs.ofClass[job];
            int group = state.groupFor(job);
            if (state.classes.has(which) && state.groups.has(group)) {
                classNeed[which] = state.jobs.size[job];
                groupBusy[group] = true;
            }
        }

        private boolean presentGroupIsNext(State state) {
            int present = state.presentGroup;
            if (!state.groups.has(present)) {
                return false;
            }
            int need = lookAt(state, present);
            return need > 0 && state.groups.deficit[present] >= need;
        }

        /** Walks one round, or until the next group is found; answers whether it is. */
        private boolean walkGroups(State state) {
            Groups groups = state.groups;
            for (int step = 0; step < groups.held; step++) {
                int group = groups.has(state.presentGroup + 1) ? state.presentGroup + 1 : 0;
                state.presentGroup = group;
                int need = lookAt(state, group);
                groupNeed[group] = need;
                if (need == 0) {
                    groups.deficit[group] = 0;
                    continue;
                }
                groups.deficit[group] += groups.quantum[group];
                if (groups.deficit[group] >= need) {
                    return true;
                }
            }
            return false;
        }

        private void skipGroupRounds(State state) {
            Groups groups = state.groups;
            int rounds = MANY_ROUNDS;
            for (int group = 0; group < MAX_GROUPS; group++) {
                if (groupNeed[group] > 0) {
                    rounds = Math.min(rounds, roundsBelow(
                            groupNeed[group], groups.deficit[group], groups.quantum[group]));
                }
            }
            for (int group = 0; group < MAX_GROUPS; group++) {
                if (groupNeed[group] > 0) {
                    groups.deficit[group] += rounds * groups.quantum[group];
                }
            }
        }

        /**
         * Makes the next class of a group its present one; answers with the size of its first job,
         * or 0, with nothing changed, if the group is not busy.
         */
        private int lookAt(State state, int group) {
            if (group < 0 || group >= MAX_GROUPS || !groupBusy[group]) {
                return 0;
            }
            int present = state.groups.present[group];
            if (state.classes.has(present) && classNeed[present] > 0
                    && state.classes.deficit[present] >= classNeed[present]) {
                return classNeed[present];
            }
            if (!walkClasses(state, group)) {
                skipClassRounds(state, group);
                walkClasses(state, group);
            }
            int found = state.groups.present[group];
            return state.classes.has(found) ? classNeed[found] : 0;
        }

        /** Walks one round, or until the next class is found; answers whether it is. */
        private boolean walkClasses(State state, int group) {
            Classes classes = state.classes;
            int which = state.groups.present[group];
            for (int step = 0; step < classes.held; step++) {
                which = classes.has(which + 1) ? which + 1 : 0;
                if (classes.group[which] != group) {
                    continue;
                }
                state.groups.present[group] = which;
                if (classNeed[which] == 0) {
                    classes.deficit[which] = 0;
                    continue;
                }
                classes.deficit[which] += classes.quantum[which];
                if (classes.deficit[which] >= classNeed[which]) {
                    return true;
                }
            }
            return false;
        }

        private void skipClassRounds(State state, int group) {
            Classes classes = state.classes;
            int rounds = MANY_ROUNDS;
            for (int which = 0; which < MAX_CLASSES; which++) {
                if (classNeed[which] > 0 && classes.group[which] == group) {
                    rounds = Math.min(rounds, roundsBelow(
                            classNeed[which], classes.deficit[which], classes.quantum[which]));
                }
            }
            for (int which = 0; which < MAX_CLASSES; which++) {
                if (classNeed[which] > 0 && classes.group[which] == group) {
                    classes.deficit[which] += rounds * classes.quantum[which];
                }
            }
        }

        /** Answers how often a quantum may be added to a deficit that stays below a need. */
        private static int roundsBelow(int need, int deficit, int quantum) {
            return quantum > 0 && deficit < need ? (need - 1 - deficit) / quantum : 0;
        }
    }

    /** The latest states, the oldest one first. */
    private static final class History {
        int length = 0;
        private final State[] states = new State[MAX_HISTORY];

        History() {
            for (int place = 0; place < MAX_HISTORY; place++) {
                states[place] = new State();
            }
        }

        void push(State state) {
            if (length >= MAX_HISTORY) {
                dropOldest();
            }
            State room = roomAt(length);
            if (room != null) {
                room.copyFrom(state);
                length++;
            }
        }

        void takeLatest(State state) {
            State latest = roomAt(length - 1);
            if (latest != null) {
                state.copyFrom(latest);
                length--;
            }
        }

        private void dropOldest() {
            // Its room goes to the back, where the next state is written into it.
            State room = states[0];
            for (int place = 1; place < MAX_HISTORY; place++) {
                states[place - 1] = states[place];
            }
            states[MAX_HISTORY - 1] = room;
            length--;
        }

        private State roomAt(int place) {
            return place >= 0 && place < MAX_HISTORY ? states[place] : null;
        }
    }

    /** The text that is typed, and what it says as a text of jobs. */
    private static final class Text {
        private static final int AT_CLASS = 0;
        private static final int AT_COLON = 1;
        private static final int AT_SIZE = 2;
        private static final int AFTER_ONE_DIGIT = 3;
        private static final int AFTER_TWO_DIGITS = 4;
        private static final int NOT_ALLOWED = -1;

        int length = 0;
        private final char[] signs = new char[MAX_TEXT];

        int append(char sign) {
            if (length >= 0 && length < MAX_TEXT) {
                signs[length] = sign;
                length++;
            }
            return length;
        }

        /** Answers with the fault of the text of jobs; NONE if it has none. */
        int fault() {
            int part = AT_CLASS;
            for (int at = 0; at < length && at < MAX_TEXT; at++) {
                part = partAfter(part, signs[at]);
                if (part == NOT_ALLOWED) {
                    return at;
                }
            }
            return part == AFTER_ONE_DIGIT || part == AFTER_TWO_DIGITS ? NONE : length;
        }

        private static int partAfter(int part, char sign) {
            boolean isDigit = sign >= '0' && sign <= '9';
            switch (part) {
                case AT_CLASS:
                    return isDigit ? AT_COLON : NOT_ALLOWED;
                case AT_COLON:
                    return sign == ':' ? AT_SIZE : NOT_ALLOWED;
                case AT_SIZE:
                    return isDigit && sign != '0' ? AFTER_ONE_DIGIT : NOT_ALLOWED;
                case AFTER_ONE_DIGIT:
                    if (isDigit) {
                        return AFTER_TWO_DIGITS;
                    }
                    return sign == ';' ? AT_CLASS : NOT_ALLOWED;
                default:
                    return sign == ';' ? AT_CLASS : NOT_ALLOWED;
            }
        }

        /** Answers with the digit at a place; NONE if there is none. */
        int digitAt(int at) {
            if (at < 0 || at >= length || at >= MAX_TEXT || signs[at] < '0' || signs[at] > '9') {
                return NONE;
            }
            return signs[at] - '0';
        }

        /** Answers with the size of one or two digits that begins at a place. */
        int sizeAt(int at) {
            int first = digitAt(at);
            int second = digitAt(at + 1);
            return second == NONE ? first : first * 10 + second;
        }
    }
}
