import java.util.Random;

/** All promises: runs of calls, always the same ones, asked of RegaliaVotes and of World alike. */
public final class WorldTest {
    private static final int RUNS = 300;
    private static final int CALLS = 512;
    private static final int TEXTS = 20000;

    private final Random random;
    private RegaliaVotes x = new RegaliaVotes();
    private World w = new World();

    private WorldTest(long seed) {
        random = new Random(seed);
    }

    public static void main(String[] args) {
        for (int run = 0; run < RUNS; run++) {
            new WorldTest(run).oneRun("run " + run + " ");
        }
        new WorldTest(-1).texts();
        Checks.end("WorldTest");
    }

    private void texts() {
        for (int i = 0; i < TEXTS; i++) {
            x = new RegaliaVotes();
            w = new World();
            String text = aText();
            typeAll(text);
            Checks.due("council() of \"" + text + "\"", x.council(), w.council());
            for (int what = 0; what < 5; what++) {
                Checks.due("\"" + text + "\" count(" + what + ")", x.count(what), w.count(what));
            }
        }
    }

    private void oneRun(String name) {
        int asked = 0;
        if (random.nextInt(10) > 0) {
            String text = goodText();
            typeAll(text);
            Checks.due(name + "council() of \"" + text + "\"", x.council(), w.council());
            asked = text.length() + 1;
        }
        int retoldAt = random.nextInt(2 * CALLS);
        for (; asked < CALLS; asked++) {
            if (asked >= retoldAt && asked < CALLS - 220) {
                retoldAt = CALLS;
                asked += retell(name + asked + ": ");
            }
            oneCall(name + asked + ": ");
        }
    }

    private int retell(String name) {
        String text = aText();
        Checks.due(name + "clear()", x.clear(), w.clear());
        typeAll(text);
        Checks.due(name + "council() of \"" + text + "\"", x.council(), w.council());
        return text.length() + 2;
    }

    private void typeAll(String text) {
        for (int i = 0; i < text.length(); i++) {
            Checks.due("type", x.type(text.charAt(i)), w.type(text.charAt(i)));
        }
    }

    private String blanks() {
        return random.nextInt(8) == 0 ? " ".repeat(1 + random.nextInt(2)) : "";
    }

    private String goodText() {
        StringBuilder text = new StringBuilder(blanks());
        int officers = 3;
        if (random.nextInt(4) > 0) {
            officers = 1 + random.nextInt(5);
            text.append("o" + blanks() + officers + blanks() + ";" + blanks());
        }
        int things = random.nextInt(8);
        int warmthAt = random.nextInt(12);
        int most = random.nextBoolean() ? 9 : 3;
        for (int t = 0; t <= things; t++) {
            if (t == warmthAt) {
                text.append("w" + random.nextInt(10) + blanks() + ";");
            }
            if (t < things) {
                int sort = random.nextBoolean() ? 0 : random.nextInt(4);
                text.append("t" + blanks() + sort + " " + blanks() + (1 + random.nextInt(most)) + " "
                        + random.nextInt(32) + " " + random.nextInt(officers) + blanks() + ";" + blanks());
            }
        }
        return text.toString();
    }

    /** Mostly a good text in which a little was changed. */
    private String aText() {
        StringBuilder text = new StringBuilder(goodText());
        String letters = "otw; 0123456789";
        for (int changes = random.nextInt(3); changes > 0; changes--) {
            int place = random.nextInt(text.length() + 1);
            int what = random.nextInt(4);
            char letter = random.nextInt(20) == 0
                    ? (char) random.nextInt(256) : letters.charAt(random.nextInt(letters.length()));
            if (what == 0 && place < text.length()) {
                text.deleteCharAt(place);
            } else if (what == 1 && place < text.length()) {
                text.setCharAt(place, letter);
            } else if (what == 2) {
                text.insert(place, letter);
            } else {
                text.setLength(place);
            }
        }
        if (text.length() > 200) {
            text.setLength(200);
        }
        return text.toString();
    }

    /** A number from 0 on below a bound; now and then one beyond what it may be. */
    private int number(int bound) {
        int[] odd = {-1, bound, bound + 1, Integer.MIN_VALUE, Integer.MAX_VALUE, 32, 64, -32};
        return random.nextInt(25) == 0 ? odd[random.nextInt(odd.length)] : random.nextInt(bound);
    }

    private void oneCall(String name) {
        // Asked of the model, as an object is promised for 512 calls alone.
        int things = Math.max(1, w.count(0));
        int officers = w.count(1);
        int t = number(things);
        int o = number(officers);
        int b = number(5);
        int two = number(2);
        int p = number(11);
        switch (random.nextInt(47)) {
            case 0: Checks.due(name + "type", x.type(b * 50), w.type(b * 50)); break;
            case 1: Checks.due(name + "clear()", x.clear(), w.clear()); break;
            case 2:
                if (random.nextInt(20) == 0) {
                    Checks.due(name + "council()", x.council(), w.council());
                }
                break;
            case 3: case 4: {
                int what = number(8);
                Checks.due(name + "thing(" + t + ", " + what + ")", x.thing(t, what), w.thing(t, what));
                break;
            }
            case 5: case 6: {
                int what = number(3);
                Checks.due(name + "officer(" + o + ", " + what + ")", x.officer(o, what), w.officer(o, what));
                break;
            }
            case 7: case 8: {
                int what = number(4);
                Checks.due(name + "bill(" + b + ", " + what + ")", x.bill(b, what), w.bill(b, what));
                break;
            }
            case 9: case 10: {
                int what = number(6);
                Checks.due(name + "now(" + what + ")", x.now(what), w.now(what));
                break;
            }
            case 11: case 12: Checks.due(name + "puts(" + b + ")", x.puts(b), w.puts(b)); break;
            case 13: case 14: Checks.due(name + "hands(" + t + ", " + o + ")", x.hands(t, o), w.hands(t, o)); break;
            case 15: Checks.due(name + "washes(" + t + ")", x.washes(t), w.washes(t)); break;
            case 16: case 17: Checks.due(name + "hangs(" + t + ")", x.hangs(t), w.hangs(t)); break;
            case 18: case 19: case 20: Checks.due(name + "warms(" + t + ")", x.warms(t), w.warms(t)); break;
            case 21: case 22:
                Checks.due(name + "sickens(" + o + ", " + two + ")", x.sickens(o, two), w.sickens(o, two));
                break;
            case 23: case 24: Checks.due(name + "undo()", x.undo(), w.undo()); break;
            case 25: Checks.due(name + "power(" + t + ", " + two + ")", x.power(t, two), w.power(t, two)); break;
            case 26: Checks.due(name + "least(" + two + ")", x.least(two), w.least(two)); break;
            case 27:
                if (random.nextInt(4) == 0) {
                    Checks.due(name + "dummies()", x.dummies(), w.dummies());
                }
                break;
            case 28: Checks.due(name + "sways(" + b + ")", x.sways(b), w.sways(b)); break;
            case 29: Checks.due(name + "free()", x.free(), w.free()); break;
            case 30: case 31: Checks.due(name + "turn(" + b + ")", x.turn(b), w.turn(b)); break;
            case 32: case 33: Checks.due(name + "hand(" + b + ")", x.hand(b), w.hand(b)); break;
            case 34: case 35: Checks.due(name + "swaps(" + b + ")", x.swaps(b), w.swaps(b)); break;
            case 36: Checks.due(name + "record(" + b + ", " + two + ")", x.record(b, two), w.record(b, two)); break;
            case 37:
                if (random.nextInt(4) == 0) {
                    Checks.due(name + "forget()", x.forget(), w.forget());
                }
                break;
            case 38: case 39: Checks.due(name + "isFor(" + t + ", " + two + ")", x.isFor(t, two), w.isFor(t, two)); break;
            case 40: Checks.due(name + "who()", x.who(), w.who()); break;
            case 41:
                Checks.due(name + "odds(" + b + ", " + p + ", " + two + ")", x.odds(b, p, two), w.odds(b, p, two));
                break;
            case 42: {
                int kind = number(6);
                Checks.due(name + "rate(" + kind + ", " + t + ")", x.rate(kind, t), w.rate(kind, t));
                break;
            }
            case 43: Checks.due(name + "keep(" + two + ")", x.keep(two), w.keep(two)); break;
            case 44:
                if (random.nextInt(4) == 0) {
                    Checks.due(name + "back(" + two + ")", x.back(two), w.back(two));
                }
                break;
            case 45: {
                int what = number(5);
                Checks.due(name + "count(" + what + ")", x.count(what), w.count(what));
                break;
            }
            default: Checks.due(name + "trace()", x.trace(), w.trace()); break;
        }
    }
}
