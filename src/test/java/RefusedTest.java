/**
 * "Refused, and nothing changes, the first of these: BAD (a number is not as told, or there is no such
 * thing), STATE (as told), FULL." Every call, with every number of it on both sides of its bounds, of new,
 * small, rich and full objects. And: what is only asked changes nothing, either.
 */
public final class RefusedTest {
    private static final int BAD = RegaliaVotes.BAD;
    private static final int STATE = RegaliaVotes.STATE;
    private static final int FULL = RegaliaVotes.FULL;
    private static final int NO = RegaliaVotes.NO;

    private static final String ONLY_ASK =
            " thing officer bill now power least sways turn hand swaps isFor odds count ";

    interface Numbers {
        long call(RegaliaVotes x, int[] n);
    }

    /** A call, how many numbers from 0 on each of its parameters takes, what it answers to others. */
    private record Face(String name, int refusal, int[] bounds, Numbers numbers) {
    }

    public static void main(String[] args) {
        numbersOf(new Twins("new", RefusedTest::newStory), 0, 3);
        numbersOf(new Twins("small", RefusedTest::smallStory), 1, 1);
        numbersOf(new Twins("rich", RefusedTest::richStory), 6, 4);
        numbersOf(new Twins("full", RefusedTest::fullStory), 7, 5);
        stateOfTheWash();
        stateOfWarms();
        stateOfUndo();
        stateOfBack();
        stateOfPuts();
        full();
        faults();
        onlyAsked();
        Checks.end("RefusedTest");
    }

    // ---- the stories

    private static void newStory(RegaliaVotes x) {
    }

    private static void smallStory(RegaliaVotes x) {
        Checks.type(x, "o1;t1 1 1 0;w1;");
        x.council();
        x.warms(0);
        x.keep(1);
        x.puts(0);
        x.rate(0, 0);
        x.record(0, 1);
    }

    /** Something of all: both images, seven deeds that can be undone, three records, half a text. */
    private static void richStory(RegaliaVotes x) {
        Checks.type(x, "o4;t1 5 3 0;t2 3 12 1;t3 9 31 2;t0 4 21 3;t0 2 10 1;t1 6 8 2;w3;");
        x.council();
        x.keep(0);
        x.warms(0);
        x.washes(1);
        x.hangs(1);
        x.sickens(2, 1);
        x.puts(0);
        x.keep(1);
        x.washes(3);
        x.hands(4, 3);
        x.record(0, 1);
        x.record(3, 0);
        x.record(4, 1);
        x.rate(3, 1);
        Checks.type(x, "o2;w7;");
    }

    /** Seven things, five officers, more than ten deeds, six records, 200 letters; image 1 is not kept. */
    private static void fullStory(RegaliaVotes x) {
        Checks.type(x, "o5;t1 1 1 0;t2 9 2 1;t3 5 4 2;t0 7 8 3;t0 3 16 4;t1 2 31 0;t2 4 21 1;w9;");
        x.council();
        x.warms(0);
        x.warms(5);
        x.washes(1);
        x.hangs(1);
        x.puts(1);
        x.keep(0);
        x.washes(6);
        x.hangs(6);
        x.washes(6);
        x.sickens(4, 1);
        x.hands(4, 0);
        x.puts(4);
        x.washes(3);
        x.puts(0);
        for (int i = 0; i < 6; i++) {
            x.record(i % 5, i % 2);
        }
        x.rate(5, 6);
        Checks.type(x, "o1;w5;");
        Checks.type(x, " ".repeat(194));
    }

    // ---- BAD, of every number of every call

    private static Face[] faces(int things, int officers) {
        return new Face[] {
            new Face("type", BAD, new int[] {256}, (x, n) -> x.type(n[0])),
            new Face("thing", BAD, new int[] {things, 8}, (x, n) -> x.thing(n[0], n[1])),
            new Face("officer", BAD, new int[] {officers, 3}, (x, n) -> x.officer(n[0], n[1])),
            new Face("bill", BAD, new int[] {5, 4}, (x, n) -> x.bill(n[0], n[1])),
            new Face("now", BAD, new int[] {6}, (x, n) -> x.now(n[0])),
            new Face("puts", BAD, new int[] {5}, (x, n) -> x.puts(n[0])),
            new Face("hands", BAD, new int[] {things, officers}, (x, n) -> x.hands(n[0], n[1])),
            new Face("washes", BAD, new int[] {things}, (x, n) -> x.washes(n[0])),
            new Face("hangs", BAD, new int[] {things}, (x, n) -> x.hangs(n[0])),
            new Face("warms", BAD, new int[] {things}, (x, n) -> x.warms(n[0])),
            new Face("sickens", BAD, new int[] {officers, 2}, (x, n) -> x.sickens(n[0], n[1])),
            new Face("power", BAD, new int[] {things, 2}, (x, n) -> x.power(n[0], n[1])),
            new Face("least", BAD, new int[] {2}, (x, n) -> x.least(n[0])),
            new Face("sways", BAD, new int[] {5}, (x, n) -> x.sways(n[0])),
            new Face("turn", BAD, new int[] {5}, (x, n) -> x.turn(n[0])),
            new Face("hand", BAD, new int[] {5}, (x, n) -> x.hand(n[0])),
            new Face("swaps", BAD, new int[] {5}, (x, n) -> x.swaps(n[0])),
            new Face("record", BAD, new int[] {5, 2}, (x, n) -> x.record(n[0], n[1])),
            new Face("isFor", BAD, new int[] {things, 2}, (x, n) -> x.isFor(n[0], n[1])),
            new Face("odds", BAD, new int[] {5, 11, 2}, (x, n) -> x.odds(n[0], n[1], n[2])),
            new Face("rate", NO, new int[] {6, things}, (x, n) -> x.rate(n[0], n[1])),
            new Face("keep", BAD, new int[] {2}, (x, n) -> x.keep(n[0])),
            new Face("back", BAD, new int[] {2}, (x, n) -> x.back(n[0])),
            new Face("count", BAD, new int[] {5}, (x, n) -> x.count(n[0])),
        };
    }

    private static void numbersOf(Twins twins, int things, int officers) {
        Face[] faces = faces(things, officers);
        Checks.due("calls that take numbers", faces.length, 24);
        for (Face face : faces) {
            within(twins, face, new int[face.bounds.length], 0);
            for (int i = 0; i < face.bounds.length; i++) {
                beyond(twins, face, i);
            }
        }
    }

    /** No number within its bounds is BAD: all of them, together with all of the others. */
    private static void within(Twins twins, Face face, int[] n, int i) {
        if (i == n.length) {
            long answer = face.numbers.call(twins.toldObject(), n);
            Checks.holds(shown(face, n) + " is not refused as BAD", answer != face.refusal);
            return;
        }
        for (n[i] = 0; n[i] < face.bounds[i]; n[i]++) {
            within(twins, face, n, i + 1);
        }
        n[i] = 0;
    }

    /** Each number beyond its bounds is BAD, the others being the lowest, the highest, or wrong, too. */
    private static void beyond(Twins twins, Face face, int i) {
        int bound = face.bounds[i];
        int[] numbers = {-1, bound, bound + 1, 31, 32, 33, 64, 256, 256 + ' ', 256 + 'w', 65536, -32, -256,
            1 << 30, Integer.MIN_VALUE, Integer.MIN_VALUE + 1, Integer.MAX_VALUE};
        for (int number : numbers) {
            if (number >= 0 && number < bound) {
                continue;
            }
            int[] low = new int[face.bounds.length];
            int[] high = new int[face.bounds.length];
            int[] wrong = new int[face.bounds.length];
            for (int k = 0; k < high.length; k++) {
                high[k] = Math.max(0, face.bounds[k] - 1);
                wrong[k] = face.bounds[k];
            }
            low[i] = number;
            high[i] = number;
            wrong[i] = number;
            twins.unchanged(shown(face, low), face.refusal, x -> face.numbers.call(x, low));
            if (face.bounds.length > 1) {
                twins.unchanged(shown(face, high), face.refusal, x -> face.numbers.call(x, high));
                twins.unchanged(shown(face, wrong), face.refusal, x -> face.numbers.call(x, wrong));
            }
        }
    }

    private static String shown(Face face, int[] n) {
        StringBuilder text = new StringBuilder(face.name + "(");
        for (int i = 0; i < n.length; i++) {
            text.append(i == 0 ? "" : ", ").append(n[i]);
        }
        return text.append(")").toString();
    }

    // ---- STATE and FULL

    // Promise 11, "STATE: it is there." Promise 12, "STATE: it is not in the WASH."
    private static void stateOfTheWash() {
        String text = "t0 1 1 0;t1 2 2 1;t2 3 3 2;t3 4 4 0;";
        for (int t = 0; t < 4; t++) {
            int it = t;
            Twins dry = new Twins("dry", x -> tell(x, text));
            dry.unchanged("hangs(" + t + ")", STATE, x -> x.hangs(it));
            Checks.due("dry: washes(" + t + ")", dry.toldObject().washes(t), 1);
            Twins wet = new Twins("wet", x -> {
                tell(x, text);
                x.washes(it);
            });
            wet.unchanged("washes(" + t + ")", STATE, x -> x.washes(it));
            Checks.due("wet: hangs(" + t + ")", wet.toldObject().hangs(t), t == 2 ? 1 : 0);
            Twins dried = new Twins("dried", x -> {
                tell(x, text);
                x.washes(it);
                x.hangs(it);
            });
            dried.unchanged("hangs(" + t + ")", STATE, x -> x.hangs(it));
            Checks.due("dried: washes(" + t + ")", dried.toldObject().washes(t), 1);
        }
    }

    // Promise 13, "STATE: it is no CROWN."
    private static void stateOfWarms() {
        Twins twins = new Twins("sorts", x -> {
            tell(x, "t0 1 1 0;t1 2 2 1;t2 3 3 2;t3 4 4 0;w5;");
            x.washes(1);
            x.washes(2);
            x.sickens(1, 1);
        });
        twins.unchanged("warms(0)", STATE, x -> x.warms(0));
        twins.unchanged("warms(2)", STATE, x -> x.warms(2));
        twins.unchanged("warms(3)", STATE, x -> x.warms(3));
        RegaliaVotes x = twins.toldObject();
        Checks.due("a crown, washed and with the sick, too", x.warms(1), 0);
        Checks.due("warmth left", x.thing(1, 6), 5);
    }

    // Promise 15, "STATE: none."
    private static void stateOfUndo() {
        new Twins("new", RefusedTest::newStory).unchanged("undo()", STATE, RegaliaVotes::undo);
        new Twins("told anew", x -> {
            richStory(x);
            x.council();
        }).unchanged("undo()", STATE, RegaliaVotes::undo);
        new Twins("back", x -> {
            richStory(x);
            x.back(1);
        }).unchanged("undo()", STATE, RegaliaVotes::undo);
        new Twins("ten undone", x -> {
            fullStory(x);
            for (int i = 0; i < 10; i++) {
                x.undo();
            }
        }).unchanged("undo()", STATE, RegaliaVotes::undo);
        RegaliaVotes nine = new Twins("nine undone", RefusedTest::fullStory).toldObject();
        for (int left = 9; left >= 0; left--) {
            Checks.due("full: undo()", nine.undo(), left);
        }
    }

    // Promise 31, "STATE: none was kept."
    private static void stateOfBack() {
        for (int image = 0; image < 2; image++) {
            int it = image;
            int other = 1 - image;
            Twins none = new Twins("none kept", x -> {
                tell(x, "t2 1 1 0;");
                x.washes(0);
            });
            none.unchanged("back(" + image + ")", STATE, x -> x.back(it));
            Twins onlyOther = new Twins("the other kept", x -> {
                tell(x, "t2 1 1 0;");
                x.puts(0);
                x.keep(other);
                x.puts(1);
            });
            onlyOther.unchanged("back(" + image + ")", STATE, x -> x.back(it));
            Checks.due("back(" + other + ")", onlyOther.toldObject().back(other), 1);
            Twins gone = new Twins("gone", x -> {
                richStory(x);
                x.council();
            });
            gone.unchanged("back(" + image + ")", STATE, x -> x.back(it));
        }
    }

    // Promise 9, "STATE: 999 were put": beyond 512 calls, but no other way leads there
    private static void stateOfPuts() {
        Twins twins = new Twins("999 put", x -> {
            tell(x, "t1 5 1 0;t0 1 2 1;w9;");
            for (int i = 0; i < 998; i++) {
                x.puts(i % 5);
            }
            x.warms(0);
            Checks.due("the 999th", x.puts(0), 1);
        });
        for (int b = 0; b < 5; b++) {
            int it = b;
            twins.unchanged("puts(" + b + ")", STATE, x -> x.puts(it));
        }
        twins.unchanged("BAD is ahead of STATE: puts(5)", BAD, x -> x.puts(5));
        twins.unchanged("BAD is ahead of STATE: puts(-1)", BAD, x -> x.puts(-1));
        RegaliaVotes x = twins.toldObject();
        x.undo();
        Checks.due("998 were put", x.now(0), 998);
        Checks.due("puts(0) of 998", x.puts(0), 1);
        Checks.due("999 were put", x.now(0), 999);
    }

    // Promise 2, FULL at 200 letters. Promise 24, FULL at 6 of the RECORD.
    private static void full() {
        Twins twins = new Twins("full", RefusedTest::fullStory);
        for (int letter : new int[] {0, ' ', ';', 'o', 255}) {
            twins.unchanged("type(" + letter + ")", FULL, x -> x.type(letter));
        }
        for (int b = 0; b < 5; b++) {
            int it = b;
            twins.unchanged("record(" + b + ", 0)", FULL, x -> x.record(it, 0));
            twins.unchanged("record(" + b + ", 1)", FULL, x -> x.record(it, 1));
        }
        RegaliaVotes x = twins.toldObject();
        Checks.due("clear() of the full text", x.clear(), 200);
        Checks.due("type() then", x.type(0), 1);
        Checks.due("forget() of the full record", x.forget(), 6);
        Checks.due("record() then", x.record(0, 0), 1);
    }

    // Promise 4, "-10 less FAULT: nothing changes (THE TEXT stays, too)."
    private static void faults() {
        String[] texts = {"x", "o2;t3 2 1 1;w1;x", "t0 1 0 3;", "w5;w5;", "o2;o3;", "t0 1 0 0", "o5;w0;t0 1 0 4;t0 0"};
        int[] places = {0, 15, 7, 3, 3, 8, 18};
        for (int i = 0; i < texts.length; i++) {
            String text = texts[i];
            Twins twins = new Twins("fault in " + text, x -> {
                richStory(x);
                x.clear();
                Checks.type(x, text);
            });
            twins.unchanged("council()", -10 - places[i], RegaliaVotes::council);
            Checks.due("the text stays", twins.toldObject().clear(), text.length());
        }
    }

    // "(As things are NOW; nothing is changed.)", and of what is asked of the council
    private static void onlyAsked() {
        onlyAsked(new Twins("new", RefusedTest::newStory), 0, 3);
        onlyAsked(new Twins("rich", RefusedTest::richStory), 6, 4);
        onlyAsked(new Twins("full", RefusedTest::fullStory), 7, 5);
    }

    private static void onlyAsked(Twins twins, int things, int officers) {
        twins.unchanged("dummies()", RegaliaVotes::dummies);
        twins.unchanged("free()", RegaliaVotes::free);
        twins.unchanged("who()", RegaliaVotes::who);
        twins.unchanged("trace()", RegaliaVotes::trace);
        int found = 0;
        for (Face face : faces(things, officers)) {
            if (ONLY_ASK.contains(" " + face.name + " ")) {
                askedWithAll(twins, face, new int[face.bounds.length], 0);
                found++;
            }
        }
        Checks.due("calls with numbers that only ask", found, 13);
    }

    private static void askedWithAll(Twins twins, Face face, int[] n, int i) {
        if (i == n.length) {
            int[] numbers = n.clone();
            twins.unchanged(shown(face, n), x -> face.numbers.call(x, numbers));
            return;
        }
        for (n[i] = 0; n[i] < face.bounds[i]; n[i]++) {
            askedWithAll(twins, face, n, i + 1);
        }
        n[i] = 0;
    }

    private static void tell(RegaliaVotes x, String text) {
        Checks.type(x, text);
        Checks.holds("council() of \"" + text + "\" has no fault", x.council() >= 0);
    }
}
