/** The edges of the text, and of what is read from it. */
public final class EdgesOfTextsTest {
    private static final int UNKNOWN = Edges.UNKNOWN;
    private static final int FULL = Edges.FULL;
    private static final int NOT_POSSIBLE = Edges.NOT_POSSIBLE;

    private static final String FIFTEEN = "0:1;0:1;0:1;0:1;0:1;0:1;0:1;0:1;0:1;0:1;0:1;0:1;0:1;0:1;0:1";

    private EdgesOfTextsTest() {
    }

    /** A server with one class, number 0, and a text. */
    private static DeficitCircles typed(String text) {
        DeficitCircles x = Servers.classes(5);
        Edges.type(x, text);
        return x;
    }

    private static Edges.Run withText(Edges.Run before, String text) {
        return x -> {
            before.on(x);
            Edges.type(x, text);
        };
    }

    private static void fault(String text, int fault) {
        Edges.due("\"" + text + "\"", typed(text).readJobs(), -100 - fault);
    }

    private static void read(String text, int jobs) {
        Edges.due("\"" + text + "\"", typed(text).readJobs(), jobs);
    }

    private static void refused(String text, Edges.Run before, int answer) {
        Edges.refused("readJobs() of \"" + text + "\"", withText(before, text),
                DeficitCircles::readJobs, answer);
    }

    // ---- the text

    private static void lengths() {
        Edges.sentence("There is a text of at most 60 characters, empty at first");
        DeficitCircles x = new DeficitCircles();
        Edges.due("the length at first", x.count(13), 0);
        for (int length = 1; length <= 60; length++) {
            Edges.due("type()", x.type('0'), length);
        }
        Edges.due("the 61st", x.type('0'), FULL);
        Edges.due("the 62nd", x.type('0'), FULL);
        Edges.due("the length", x.count(13), 60);
        Edges.refused("the 61st", withText(Servers::mixed, FIFTEEN + "0"), y -> y.type('9'), FULL);
        // What is refused isn't kept behind the end either.
        x.clearText();
        Edges.type(x, FIFTEEN + "2");
        x.type(';');
        Edges.due("the 61st isn't read", x.readJobs(), UNKNOWN);
        x.clearText();
        Edges.due("room again", x.type('0'), 1);
        Edges.sentence("clearText: the length that it had");
        Edges.due("1", x.clearText(), 1);
        Edges.due("0", x.clearText(), 0);
        Edges.type(x, FIFTEEN);
        Edges.due("59", x.clearText(), 59);
        Edges.type(x, FIFTEEN + "0");
        Edges.due("60", x.clearText(), 60);
        Edges.due("empty then", x.count(13), 0);
        Edges.due("empty then", x.readJobs(), -100);
    }

    private static void whatWasEmptied() {
        Edges.sentence("clearText: Empties the text: nothing of it is read behind a shorter one");
        DeficitCircles x = Servers.classes(5);
        Edges.type(x, "0:19;0:29;0:39");
        Edges.due("the longer one", x.readJobs(), 3);
        Edges.type(x, "0:3");
        Edges.due("the shorter one", x.readJobs(), 1);
        Edges.due("its size, one digit", x.job(3, 1), 3);
        Edges.type(x, "0:45;0:7");
        Edges.due("two jobs", x.readJobs(), 2);
        Edges.due("the first size, two digits", x.job(4, 1), 45);
        Edges.due("the last size, one digit", x.job(5, 1), 7);
        Edges.type(x, "0:19");
        Edges.type(x, "0:");
        Edges.due("it ends too early", x.readJobs(), -102);
        x.clearText();
        Edges.due("it is empty", x.readJobs(), -100);
        Edges.due("jobs", x.count(3), 6);
    }

    private static void anyCharacter() {
        Edges.sentence("type: character: any character");
        char[] characters = {0, 1, '\t', '\n', ' ', '"', '0', '9', ';', 127, 128, 255, 256, 0x0663,
            0xD800, 0xDC00, 0xFFFE, 0xFFFF};
        DeficitCircles x = new DeficitCircles();
        for (int i = 0; i < characters.length; i++) {
            Edges.due("type(" + (int) characters[i] + ")", x.type(characters[i]), i + 1);
        }
        for (char character : characters) {
            Edges.Run one = y -> {
                Servers.mixed(y);
                y.type(character);
                y.clearText();
            };
            Edges.alike("type() is no act, clearText() neither", one, y -> {
                Servers.mixed(y);
                y.clearText();
            });
        }
    }

    // ---- what is read

    private static void oneOrMore() {
        Edges.sentence("A text of jobs is one or more jobs");
        fault("", 0);
        read("0:1", 1);
        read("0:1;0:1", 2);
        read(FIFTEEN, 15);
        read(FIFTEEN + "0", 15);
        Edges.refused("readJobs() of the empty text", withText(Servers::mixed, ""),
                DeficitCircles::readJobs, -100);
        Edges.sentence("with \";\" between two");
        fault(";", 0);
        fault(";0:1", 0);
        fault("0:1;", 4);
        fault("0:10;", 5);
        fault("0:1;;0:1", 4);
        fault("0:1,0:1", 3);
        fault("0:1 0:1", 3);
        fault("0:1:0:1", 3);
        fault("0:10:0:1", 4);
        fault("0;0:1", 1);
        fault("0:;0:1", 2);
    }

    private static void oneJob() {
        Edges.sentence("a job is a class (one digit)");
        fault(":1", 0);
        fault("/:1", 0);
        read("0:1", 1);
        for (int which = 1; which <= 9; which++) {
            read(which + ":1", UNKNOWN);
        }
        fault("00:1", 1);
        fault("01:1", 1);
        fault("-1:1", 0);
        fault("0", 1);
        fault("01", 1);
        fault("0:1;1", 5);
        Edges.sentence("\":\", and a size (one or two digits, the first one not 0)");
        fault("0:", 2);
        fault("0::", 2);
        fault("0:0", 2);
        fault("0:00", 2);
        fault("0:01", 2);
        fault("0:09", 2);
        read("0:1", 1);
        read("0:9", 1);
        read("0:10", 1);
        read("0:19", 1);
        read("0:90", 1);
        read("0:99", 1);
        fault("0:100", 4);
        fault("0:999", 4);
        fault("0:/", 2);
        fault("0:1/", 3);
        fault("0:-1", 2);
        fault("0:+1", 2);
        for (int size = 1; size <= 99; size++) {
            DeficitCircles x = typed("0:" + size);
            Edges.due("readJobs() of size " + size, x.readJobs(), 1);
            Edges.due("its size", x.job(0, 1), size);
            Edges.due("its tokens", x.classOf(0, 5), 500 - size);
            Edges.due("its class", x.job(0, 0), 0);
        }
    }

    /** Whether a character may stand behind a beginning; told apart from what the program does. */
    private static boolean isAllowed(String behind, char character) {
        boolean digit = "0123456789".indexOf(character) >= 0;
        switch (behind) {
            case "class":
                return digit;
            case "colon":
                return character == ':';
            case "size":
                return digit && character != '0';
            case "digit":
                return digit || character == ';';
            default:
                return character == ';';
        }
    }

    private static void everyCharacter() {
        Edges.sentence("the index of the first character that is not allowed at its place");
        String[] beginnings = {"", "0", "0:", "0:1", "0:12", "0:1;", "0:1;0", "0:12;0:",
            "0:12;0:1", "0:12;0:12"};
        String[] places = {"class", "colon", "size", "digit", "end", "class", "colon", "size",
            "digit", "end"};
        for (int i = 0; i < beginnings.length; i++) {
            for (int code = 0; code < 0x10000; code += code < 700 ? 1 : 97) {
                char character = (char) code;
                if (!isAllowed(places[i], character)) {
                    Edges.due("\"" + beginnings[i] + "\" and " + code,
                            typed(beginnings[i] + character).readJobs(),
                            -100 - beginnings[i].length());
                    // The fault is the first one, whatever stands behind it.
                    Edges.due("\"" + beginnings[i] + "\", " + code + ", and more",
                            typed(beginnings[i] + character + "?:1;").readJobs(),
                            -100 - beginnings[i].length());
                } else {
                    int answer = typed(beginnings[i] + character + "?").readJobs();
                    Edges.due("\"" + beginnings[i] + "\", " + code + ", \"?\"", answer,
                            -100 - beginnings[i].length() - 1);
                }
            }
        }
    }

    private static void tooEarly() {
        Edges.sentence("or the length of the text if it ends too early (the empty text does)");
        String whole = "0:12;0:3;0:45";
        for (int length = 0; length <= whole.length(); length++) {
            String text = whole.substring(0, length);
            boolean complete = length == 3 || length == 4 || length == 8 || length >= 12;
            int jobs = length < 5 ? 1 : length < 9 ? 2 : 3;
            Edges.due("\"" + text + "\"", typed(text).readJobs(), complete ? jobs : -100 - length);
        }
        fault(FIFTEEN + ";", 60);
    }

    private static void sixtyCharacters() {
        Edges.sentence("60 characters");
        String early = "0:1;0:1;0:1;0:1;0:1;0:1;0:1;0:1;0:1;0:1;0:1;0:1;0:1;0:1;";
        fault(early, 56);
        fault(early + "0", 57);
        fault(early + "0:", 58);
        read(early + "0:1", 15);
        read(early + "0:12", 15);
        fault(early + "0:1;", 60);
        fault(early + "0:1:", 59);
        fault(early + "0:00", 58);
        DeficitCircles x = typed(early.substring(0, 52) + "0:12;0:1");
        Edges.due("the length", x.count(13), 60);
        Edges.due("whole", x.readJobs(), 15);
        // What would make the text whole is the 61st.
        DeficitCircles y = typed("0:12;" + early.substring(0, 48) + "0:12;0:");
        Edges.due("the length", y.count(13), 60);
        Edges.due("the 61st", y.type('1'), FULL);
        Edges.due("too early", y.readJobs(), -160);
    }

    // ---- the jobs come

    private static void oneAct() {
        Edges.sentence("This is one act");
        Edges.act("of one job", withText(Servers::few, "0:5"), DeficitCircles::readJobs, 1);
        Edges.act("of three jobs", Servers::few, DeficitCircles::readJobs, 3);
        Edges.act("of fifteen jobs", withText(Servers::few, FIFTEEN), DeficitCircles::readJobs, 15);
        Edges.sentence("Lets the jobs of the text, which stays, come, one after the other");
        DeficitCircles x = Edges.after(Servers::few);
        x.readJobs();
        int[] classes = {0, 1, 2};
        int[] sizes = {5, 3, 10};
        for (int i = 0; i < 3; i++) {
            Edges.due("its class", x.job(5 + i, 0), classes[i]);
            Edges.due("its size", x.job(5 + i, 1), sizes[i]);
            Edges.due("it came", x.job(5 + i, 2), 12);
        }
        Edges.due("the text stays", x.count(13), 12);
        // Four marks fill the history in both, so that what was before can't be told apart.
        Edges.alike("as add() of each", y -> {
            Servers.few(y);
            y.add(0, 5);
            y.add(1, 3);
            y.add(2, 10);
            markFourTimes(y);
        }, y -> {
            Servers.few(y);
            y.readJobs();
            markFourTimes(y);
        });
    }

    private static void markFourTimes(DeficitCircles x) {
        for (int i = 0; i < 4; i++) {
            x.mark();
        }
    }

    private static void allOrNone() {
        Edges.sentence("all of them, or none: of the first job for which it is so, the error");
        // Class 1 of mixed() and few() has 10 tokens, class 2 has 10; class 3 there is not.
        Edges.act("just enough", withText(Servers::few, "1:9;1:1"), DeficitCircles::readJobs, 2);
        refused("1:9;1:2", Servers::few, NOT_POSSIBLE);
        refused("1:11", Servers::few, NOT_POSSIBLE);
        refused("0:1;2:10;2:1", Servers::mixed, NOT_POSSIBLE);
        refused("3:1", Servers::mixed, UNKNOWN);
        refused("2:1;3:1", Servers::mixed, UNKNOWN);
        refused("9:1;1:99", Servers::mixed, UNKNOWN);
        refused("1:99;9:1", Servers::mixed, NOT_POSSIBLE);
        refused("0:1;1:5;1:6;9:1", Servers::mixed, NOT_POSSIBLE);
        refused("0:1;1:5;9:1;1:6", Servers::mixed, UNKNOWN);
        refused("9:1;0:0", Servers::mixed, -106);
        refused("1:99;0", Servers::mixed, -106);
        refused("0:1", Servers::empty, UNKNOWN);
        refused("8:1", Servers::wide, UNKNOWN);
        Edges.due("7:1", Edges.after(withText(Servers::wide, "7:1")).readJobs(), 1);
    }

    private static void noRoom() {
        Edges.sentence("FULL if 60 jobs wait, or there have been 200");
        Edges.Run fiftyNine = x -> {
            Servers.crowded(x);
            x.undo();
            Servers.makeRoom(x);
        };
        Edges.act("the 60th", withText(fiftyNine, "0:1"), DeficitCircles::readJobs, 1);
        refused("0:1;0:1", fiftyNine, FULL);
        refused("0:1", Servers::crowded, FULL);
        Edges.Run hundredNinetyNine = x -> {
            Servers.spent(x);
            x.undo();
            Servers.makeRoom(x);
        };
        Edges.act("the 200th", withText(hundredNinetyNine, "0:1"), DeficitCircles::readJobs, 1);
        refused("0:1;0:1", hundredNinetyNine, FULL);
        refused("0:1", Servers::spent, FULL);
        Edges.sentence("UNKNOWN; BAD_VALUE; NOT_POSSIBLE; FULL");
        // Class 1 of crowded() and spent() has a bucket of 10.
        refused("8:1", Servers::crowded, UNKNOWN);
        refused("1:11", Servers::crowded, NOT_POSSIBLE);
        refused("1:10;8:1", Servers::crowded, FULL);
        refused("0:1;8:1", fiftyNine, UNKNOWN);
        refused("0:1;1:11", fiftyNine, NOT_POSSIBLE);
        refused("1:5;1:6", fiftyNine, NOT_POSSIBLE);
        refused("1:5;1:5", fiftyNine, FULL);
        refused("8:1", Servers::spent, UNKNOWN);
        refused("1:11", Servers::spent, NOT_POSSIBLE);
        refused("0:1;8:1", hundredNinetyNine, UNKNOWN);
        refused("0:1;1:11", hundredNinetyNine, NOT_POSSIBLE);
        Edges.sentence("-100 minus the fault of the text if it has one; otherwise ..");
        refused("0:1;", Servers::crowded, -104);
        refused("", Servers::crowdedAndSpent, -100);
        refused("8:100", Servers::empty, -104);
    }

    public static void main(String[] args) {
        lengths();
        whatWasEmptied();
        anyCharacter();
        oneOrMore();
        oneJob();
        everyCharacter();
        tooEarly();
        sixtyCharacters();
        oneAct();
        allOrNone();
        noRoom();
        Due.finish("EdgesOfTextsTest");
    }
}
