import java.util.ArrayDeque;
import java.util.ArrayList;
import java.util.Deque;
import java.util.List;

/**
 * The document once more, word by word and as slowly as it tells: every round of quanta is walked,
 * every tick is passed. It shares no code with the program, so that the two can be compared.
 */
final class NaiveServer {
    static final int UNKNOWN = -1;
    static final int BAD_VALUE = -2;
    static final int FULL = -3;
    static final int NOT_POSSIBLE = -4;
    static final int NONE = -5;

    private static final class Group {
        int number;
        int quantum;
        int deficit;
        Kind present;
    }

    private static final class Kind {
        int number;
        Group group;
        int quantum;
        int deficit;
        int bucket;
        int fill;
        int tokens;
        int age;
        int units;
    }

    private static final class Job {
        int number;
        Kind kind;
        int size;
        int came;
        int began = NONE;
        int ended = NONE;
        int left;

        boolean waits() {
            return began == NONE;
        }
    }

    private static final class State {
        int time;
        List<Group> groups = new ArrayList<>();
        List<Kind> kinds = new ArrayList<>();
        List<Job> jobs = new ArrayList<>();
        Group present;
        Job inService;
        int idle;
        int servedOld;

        State copy() {
            State to = new State();
            to.time = time;
            to.idle = idle;
            to.servedOld = servedOld;
            for (Group g : groups) {
                Group n = new Group();
                n.number = g.number;
                n.quantum = g.quantum;
                n.deficit = g.deficit;
                to.groups.add(n);
            }
            for (Kind k : kinds) {
                Kind n = new Kind();
                n.number = k.number;
                n.group = to.groups.get(k.group.number);
                n.quantum = k.quantum;
                n.deficit = k.deficit;
                n.bucket = k.bucket;
                n.fill = k.fill;
                n.tokens = k.tokens;
                n.age = k.age;
                n.units = k.units;
                to.kinds.add(n);
            }
            for (Group g : groups) {
                to.groups.get(g.number).present =
                        g.present == null ? null : to.kinds.get(g.present.number);
            }
            for (Job j : jobs) {
                Job n = new Job();
                n.number = j.number;
                n.kind = to.kinds.get(j.kind.number);
                n.size = j.size;
                n.came = j.came;
                n.began = j.began;
                n.ended = j.ended;
                n.left = j.left;
                to.jobs.add(n);
            }
            to.present = present == null ? null : to.groups.get(present.number);
            to.inService = inService == null ? null : to.jobs.get(inService.number);
            return to;
        }

        List<Job> waiting() {
            List<Job> found = new ArrayList<>();
            for (Job j : jobs) {
                if (j.waits()) {
                    found.add(j);
                }
            }
            return found;
        }

        Job first(Kind k) {
            for (Job j : jobs) {
                if (j.waits() && j.kind == k) {
                    return j;
                }
            }
            return null;
        }

        boolean busy(Group g) {
            for (Kind k : kinds) {
                if (k.group == g && first(k) != null) {
                    return true;
                }
            }
            return false;
        }

        boolean old(Job j) {
            return j.waits() && j.kind.age != 0 && time - j.came >= j.kind.age;
        }

        Kind kindBehind(Group g) {
            List<Kind> own = new ArrayList<>();
            for (Kind k : kinds) {
                if (k.group == g) {
                    own.add(k);
                }
            }
            return own.get(g.present == null ? 0 : (own.indexOf(g.present) + 1) % own.size());
        }

        Kind nextKind(Group g) {
            if (g.present != null && first(g.present) != null
                    && g.present.deficit >= first(g.present).size) {
                return g.present;
            }
            while (true) {
                g.present = kindBehind(g);
                if (first(g.present) == null) {
                    g.present.deficit = 0;
                    continue;
                }
                g.present.deficit += g.present.quantum;
                if (g.present.deficit >= first(g.present).size) {
                    return g.present;
                }
            }
        }

        Group nextGroup() {
            if (present != null && busy(present)
                    && present.deficit >= first(nextKind(present)).size) {
                return present;
            }
            while (true) {
                present = groups.get(present == null ? 0 : (present.number + 1) % groups.size());
                if (!busy(present)) {
                    present.deficit = 0;
                    continue;
                }
                present.deficit += present.quantum;
                if (present.deficit >= first(nextKind(present)).size) {
                    return present;
                }
            }
        }

        Job choose() {
            Job chosen = null;
            for (Job j : waiting()) {
                if (chosen == null && old(j)) {
                    chosen = j;
                }
            }
            if (chosen != null) {
                servedOld++;
            } else {
                chosen = first(nextKind(nextGroup()));
            }
            chosen.began = time;
            Kind k = chosen.kind;
            k.deficit -= chosen.size;
            k.group.deficit -= chosen.size;
            if (first(k) == null) {
                k.deficit = 0;
            }
            if (!busy(k.group)) {
                k.group.deficit = 0;
            }
            return chosen;
        }

        int tick() {
            int done = 0;
            if (inService == null && !waiting().isEmpty()) {
                inService = choose();
            }
            if (inService == null) {
                idle++;
            } else {
                inService.left--;
                inService.kind.units++;
                if (inService.left == 0) {
                    inService.ended = time + 1;
                    inService = null;
                    done = 1;
                }
            }
            for (Kind k : kinds) {
                k.tokens += k.fill;
                if (k.tokens > k.bucket) {
                    k.tokens = k.bucket;
                }
            }
            time++;
            return done;
        }

        int add(int which, int size) {
            if (which < 0 || which >= kinds.size()) {
                return UNKNOWN;
            }
            if (size < 1 || size > 99) {
                return BAD_VALUE;
            }
            Kind k = kinds.get(which);
            if (k.tokens < size) {
                return NOT_POSSIBLE;
            }
            if (waiting().size() == 60 || jobs.size() == 200) {
                return FULL;
            }
            k.tokens -= size;
            Job j = new Job();
            j.number = jobs.size();
            j.kind = k;
            j.size = size;
            j.left = size;
            j.came = time;
            jobs.add(j);
            return j.number;
        }
    }

    private State now = new State();
    private State kept = null;
    private final Deque<State> history = new ArrayDeque<>();
    private final StringBuilder text = new StringBuilder();

    private void act(State before) {
        history.addLast(before);
        if (history.size() > 4) {
            history.removeFirst();
        }
    }

    private void act() {
        act(now.copy());
    }

    private boolean noGroup(int group) {
        return group < 0 || group >= now.groups.size();
    }

    private boolean noKind(int which) {
        return which < 0 || which >= now.kinds.size();
    }

    private boolean noJob(int job) {
        return job < 0 || job >= now.jobs.size();
    }

    private static boolean out(int value, int from, int to) {
        return value < from || value > to;
    }

    int addGroup(int quantum) {
        if (out(quantum, 1, 200)) {
            return BAD_VALUE;
        }
        if (now.groups.size() == 3) {
            return FULL;
        }
        act();
        Group g = new Group();
        g.number = now.groups.size();
        g.quantum = quantum;
        now.groups.add(g);
        return g.number;
    }

    int addClass(int group, int quantum, int size, int fill) {
        if (noGroup(group)) {
            return UNKNOWN;
        }
        if (out(quantum, 1, 200) || out(size, 10, 500) || out(fill, 0, 20)) {
            return BAD_VALUE;
        }
        if (now.kinds.size() == 8) {
            return FULL;
        }
        act();
        Kind k = new Kind();
        k.number = now.kinds.size();
        k.group = now.groups.get(group);
        k.quantum = quantum;
        k.bucket = size;
        k.tokens = size;
        k.fill = fill;
        now.kinds.add(k);
        return k.number;
    }

    int setGroupQuantum(int group, int quantum) {
        if (noGroup(group)) {
            return UNKNOWN;
        }
        if (out(quantum, 1, 200)) {
            return BAD_VALUE;
        }
        int before = now.groups.get(group).quantum;
        if (before == quantum) {
            return NONE;
        }
        act();
        now.groups.get(group).quantum = quantum;
        return before;
    }

    int setQuantum(int which, int quantum) {
        if (noKind(which)) {
            return UNKNOWN;
        }
        if (out(quantum, 1, 200)) {
            return BAD_VALUE;
        }
        int before = now.kinds.get(which).quantum;
        if (before == quantum) {
            return NONE;
        }
        act();
        now.kinds.get(which).quantum = quantum;
        return before;
    }

    int setAge(int which, int age) {
        if (noKind(which)) {
            return UNKNOWN;
        }
        if (out(age, 0, 2000)) {
            return BAD_VALUE;
        }
        int before = now.kinds.get(which).age;
        if (before == age) {
            return NONE;
        }
        act();
        now.kinds.get(which).age = age;
        return before;
    }

    int add(int which, int size) {
        State before = now.copy();
        int answer = now.add(which, size);
        if (answer >= 0) {
            act(before);
        }
        return answer;
    }

    int pass(int ticks) {
        if (out(ticks, 1, 500)) {
            return BAD_VALUE;
        }
        if (now.time + ticks > 20000) {
            return NOT_POSSIBLE;
        }
        act();
        int done = 0;
        for (int i = 0; i < ticks; i++) {
            done += now.tick();
        }
        return done;
    }

    int mark() {
        act();
        int sum = 0;
        for (Kind k : now.kinds) {
            sum += k.units;
            k.units = 0;
        }
        return sum;
    }

    int type(char character) {
        if (text.length() == 60) {
            return FULL;
        }
        text.append(character);
        return text.length();
    }

    int clearText() {
        int before = text.length();
        text.setLength(0);
        return before;
    }

    private static final String JOB = "[0-9]:[1-9][0-9]?";

    /** A beginning of a text of jobs can be made into one by one of these endings. */
    private static boolean canGoOn(String beginning) {
        for (String ending : new String[] {"", "1", ":1", "0:1"}) {
            if ((beginning + ending).matches(JOB + "(;" + JOB + ")*")) {
                return true;
            }
        }
        return false;
    }

    private int fault() {
        for (int i = 0; i < text.length(); i++) {
            if (!canGoOn(text.substring(0, i + 1))) {
                return i;
            }
        }
        return text.toString().matches(JOB + "(;" + JOB + ")*") ? -1 : text.length();
    }

    int readJobs() {
        int fault = fault();
        if (fault >= 0) {
            return -100 - fault;
        }
        State before = now.copy();
        String[] parts = text.toString().split(";");
        for (String part : parts) {
            String[] sides = part.split(":");
            int answer = now.add(Integer.parseInt(sides[0]), Integer.parseInt(sides[1]));
            if (answer < 0) {
                now = before;
                return answer;
            }
        }
        act(before);
        return parts.length;
    }

    int undo() {
        if (history.isEmpty()) {
            return NONE;
        }
        now = history.removeLast();
        return history.size();
    }

    int keep() {
        kept = now.copy();
        return now.time;
    }

    int restore() {
        if (kept == null) {
            return NONE;
        }
        act();
        now = kept.copy();
        return now.time;
    }

    int group(int group, int what) {
        if (noGroup(group)) {
            return UNKNOWN;
        }
        Group g = now.groups.get(group);
        int kinds = 0;
        int units = 0;
        for (Kind k : now.kinds) {
            if (k.group == g) {
                kinds++;
                units += k.units;
            }
        }
        int waits = 0;
        int sizes = 0;
        for (Job j : now.waiting()) {
            if (j.kind.group == g) {
                waits++;
                sizes += j.size;
            }
        }
        int present = g.present == null ? NONE : g.present.number;
        int[] told = {g.quantum, g.deficit + 100000, kinds, waits, sizes, present, units};
        return out(what, 0, told.length - 1) ? BAD_VALUE : told[what];
    }

    int classOf(int which, int what) {
        if (noKind(which)) {
            return UNKNOWN;
        }
        Kind k = now.kinds.get(which);
        int waits = 0;
        int sizes = 0;
        int done = 0;
        int longest = 0;
        for (Job j : now.jobs) {
            if (j.kind != k) {
                continue;
            }
            if (j.waits()) {
                waits++;
                sizes += j.size;
            } else {
                longest = Math.max(longest, j.began - j.came);
            }
            if (j.ended != NONE) {
                done++;
            }
        }
        int first = now.first(k) == null ? NONE : now.first(k).number;
        int[] told = {k.group.number, k.quantum, k.deficit + 100000, waits, sizes, k.tokens, k.age,
            first, done, longest, k.units};
        return out(what, 0, told.length - 1) ? BAD_VALUE : told[what];
    }

    int job(int job, int what) {
        if (noJob(job)) {
            return UNKNOWN;
        }
        Job j = now.jobs.get(job);
        int state = j.waits() ? 0 : j == now.inService ? 1 : 2;
        int[] told = {j.kind.number, j.size, j.came, state, j.began, j.ended, j.left,
            now.old(j) ? 1 : 0};
        return out(what, 0, told.length - 1) ? BAD_VALUE : told[what];
    }

    /** What becomes of the jobs if nothing but time goes on, until none of them waits. */
    private State later() {
        State later = now.copy();
        while (!later.waiting().isEmpty()) {
            later.tick();
        }
        return later;
    }

    int served(int place) {
        if (place < 0) {
            return BAD_VALUE;
        }
        List<Job> waiting = now.waiting();
        if (place >= waiting.size()) {
            return NONE;
        }
        State later = later();
        List<Job> begun = new ArrayList<>();
        for (Job j : waiting) {
            begun.add(later.jobs.get(j.number));
        }
        begun.sort((a, b) -> Integer.compare(a.began, b.began));
        return begun.get(place).number;
    }

    int beginsAt(int job) {
        if (noJob(job)) {
            return UNKNOWN;
        }
        if (!now.jobs.get(job).waits()) {
            return NOT_POSSIBLE;
        }
        return later().jobs.get(job).began;
    }

    int bound(int job) {
        if (noJob(job)) {
            return UNKNOWN;
        }
        Job asked = now.jobs.get(job);
        if (!asked.waits()) {
            return NOT_POSSIBLE;
        }
        if (asked.kind.age == 0) {
            return NONE;
        }
        int sum = Math.max(now.time, asked.came + asked.kind.age) + 98;
        for (Job j : now.waiting()) {
            if (j.number < job) {
                sum += j.size;
            }
        }
        return sum;
    }

    int shares(int which, int other) {
        if (noKind(which) || noKind(other)) {
            return UNKNOWN;
        }
        Kind a = now.kinds.get(which);
        Kind b = now.kinds.get(other);
        return a.units * b.quantum - b.units * a.quantum + 10000000;
    }

    int count(int what) {
        int waits = 0;
        int done = 0;
        int old = 0;
        int sizes = 0;
        for (Job j : now.jobs) {
            waits += j.waits() ? 1 : 0;
            done += j.ended == NONE ? 0 : 1;
            old += now.old(j) ? 1 : 0;
            sizes += j.waits() ? j.size : 0;
        }
        int[] told = {now.time, now.groups.size(), now.kinds.size(), now.jobs.size(), waits,
            now.inService == null ? NONE : now.inService.number,
            now.present == null ? NONE : now.present.number,
            done, old, now.idle, now.servedOld, sizes, history.size(), text.length()};
        return out(what, 0, told.length - 1) ? BAD_VALUE : told[what];
    }
}
