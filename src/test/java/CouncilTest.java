/** Promises 1 to 8: a new object, the text and what it tells, what can be asked of the council. */
public final class CouncilTest {
    private static final int BAD = RegaliaVotes.BAD;
    private static final int FULL = RegaliaVotes.FULL;

    public static void main(String[] args) {
        newObject();
        letters();
        clearing();
        goodTexts();
        faults();
        faultChangesNothing();
        readAnew();
        things();
        officers();
        bills();
        nowAsked();
        Checks.end("CouncilTest");
    }

    // Promise 1
    private static void newObject() {
        RegaliaVotes x = new RegaliaVotes();
        Checks.due("new: count(0)", x.count(0), 0);
        Checks.due("new: count(1)", x.count(1), 3);
        Checks.due("new: count(2)", x.count(2), 2);
        Checks.due("new: count(3)", x.count(3), 0);
        Checks.due("new: count(4)", x.count(4), 0);
        for (int what = 0; what < 6; what++) {
            Checks.due("new: now(" + what + ")", x.now(what), 0);
        }
        Checks.due("new: thing(0, 0)", x.thing(0, 0), BAD);
        Checks.due("new: officer(2, 0)", x.officer(2, 0), 0);
        Checks.due("new: officer(3, 0)", x.officer(3, 0), BAD);
        Checks.due("new: back(0)", x.back(0), RegaliaVotes.STATE);
        Checks.due("new: undo()", x.undo(), RegaliaVotes.STATE);
        Checks.due("new: trace()", x.trace(), 0);
    }

    // Promise 2
    private static void letters() {
        RegaliaVotes x = new RegaliaVotes();
        Checks.due("type(-1)", x.type(-1), BAD);
        Checks.due("type(256)", x.type(256), BAD);
        Checks.due("type(least int)", x.type(Integer.MIN_VALUE), BAD);
        Checks.due("type(greatest int)", x.type(Integer.MAX_VALUE), BAD);
        Checks.due("type(0)", x.type(0), 1);
        Checks.due("type(255)", x.type(255), 2);
        for (int i = 3; i <= 200; i++) {
            Checks.due("type(32), " + i, x.type(32), i);
        }
        Checks.due("type, 201", x.type(32), FULL);
        Checks.due("BAD is ahead of FULL", x.type(256), BAD);
        Checks.due("count(4)", x.count(4), 200);
        Checks.due("letter 0 is a fault", x.council(), -10);
    }

    // Promise 3
    private static void clearing() {
        RegaliaVotes x = new RegaliaVotes();
        Checks.due("clear() of nothing", x.clear(), 0);
        Checks.type(x, "o 2;");
        Checks.due("clear()", x.clear(), 4);
        Checks.due("clear() again", x.clear(), 0);
        Checks.due("type behind clear()", x.type('w'), 1);
        x.clear();
        Checks.due("council() behind clear()", x.council(), 0);
        Checks.due("officers", x.count(1), 3);
    }

    // Promise 4
    private static void goodTexts() {
        Checks.items("", 0);
        Checks.items("     ", 0);
        Checks.items("o1;", 1);
        Checks.items("o5;", 1);
        Checks.items("w0;", 1);
        Checks.items("w9;", 1);
        Checks.items("  o  5  ;  w  9  ;  ", 2);
        Checks.items("w3;t0 1 0 2;", 2);
        Checks.items("t3 9 31 2;t0 1 0 0;", 2);
        Checks.items("o5;t0 1 0 4;", 2);
        Checks.items("o1;t0 1 0 0;t0 1 0 0;t0 1 0 0;t0 1 0 0;t0 1 0 0;t0 1 0 0;t0 1 0 0;w2;", 9);
    }

    // Promise 4
    private static void faults() {
        Checks.fault("o0;", 1);
        Checks.fault("o6;", 1);
        Checks.fault("o", 1);
        Checks.fault("o ", 2);
        Checks.fault("o 3", 3);
        Checks.fault("o 3   ", 6);
        Checks.fault("o 3 4;", 4);
        Checks.fault("o;", 1);
        Checks.fault("o3;o3;", 3);
        Checks.fault("w1;o3;", 3);
        Checks.fault("t0 1 0 0; o3;", 10);
        Checks.fault(";", 0);
        Checks.fault("o3;;", 3);
        Checks.fault("3;", 0);
        Checks.fault("w10;", 1);
        Checks.fault("w1;w1;", 3);
        Checks.fault("w1;w", 3);
        Checks.fault("w00;", 1);
        Checks.fault("w01;", 1);
        Checks.fault("w1;  w1;", 5);
        Checks.fault("t4 1 0 0;", 1);
        Checks.fault("t0 0 0 0;", 3);
        Checks.fault("t0 10 0 0;", 3);
        Checks.fault("t0 1 32 0;", 5);
        Checks.fault("t0 1 031 0;", 5);
        Checks.fault("t0 1 0 3;", 7);
        Checks.fault("o2;t0 1 0 2;", 10);
        Checks.fault("o4;t0 1 0 4;", 10);
        Checks.fault("t0 1 0;", 6);
        Checks.fault("t0 1 0 0 0;", 9);
        Checks.fault("t0 1 0 0 t", 9);
        Checks.fault("t0 1 0 0 ", 9);
        Checks.fault("t0100;", 1);
        Checks.fault("x", 0);
        Checks.fault("  x", 2);
        Checks.fault("O3;", 0);
        Checks.fault("o3\t;", 2);
        Checks.fault("o3,", 2);
        Checks.fault("o-3;", 1);
        Checks.fault("t9 x", 1);
        Checks.fault("w4294967297;", 1);
        Checks.fault("w99999999999999999999999999999999999999999999;", 1);
        Checks.fault("o1;t0 1 0 0;t0 1 0 0;t0 1 0 0;t0 1 0 0;t0 1 0 0;t0 1 0 0;t0 1 0 0;w2;t", 69);
    }

    // Promise 4
    private static void faultChangesNothing() {
        RegaliaVotes x = Checks.told("o4;t1 5 3 3;w7;");
        x.warms(0);
        x.sickens(2, 1);
        x.record(1, 1);
        x.keep(1);
        Checks.type(x, "o2;t0 1 0 0;w1;t0 1 0 9;");
        Checks.due("council() with a fault", x.council(), -10 - 22);
        Checks.due("the text stays", x.count(4), 24);
        Checks.due("the text's fault stays", x.council(), -10 - 22);
        Checks.due("things stay", x.count(0), 1);
        Checks.due("officers stay", x.count(1), 4);
        Checks.due("WARMTH stays", x.count(2), 7);
        Checks.due("the record stays", x.count(3), 1);
        Checks.due("votes stay", x.thing(0, 1), 5);
        Checks.due("the holder stays", x.thing(0, 3), 3);
        Checks.due("warmth left stays", x.thing(0, 6), 7);
        Checks.due("the sick stay", x.now(3), 4);
        Checks.due("what can be undone stays", x.now(5), 2);
        Checks.due("the image stays", x.back(1), 0);
        x.clear();
        Checks.type(x, "w1;t0 1 0 0;");
        Checks.due("a good text behind a fault", x.council(), 2);
        Checks.due("its WARMTH", x.count(2), 1);
    }

    // Promise 4
    private static void readAnew() {
        RegaliaVotes x = Checks.told("o5;t2 5 3 4;t1 2 1 0;w7;");
        x.warms(1);
        x.washes(0);
        x.hangs(0);
        x.washes(0);
        x.sickens(2, 1);
        x.puts(0);
        x.record(1, 1);
        x.keep(0);
        x.keep(1);
        x.rate(5, 0);
        Checks.type(x, "t2 3 1 2;t1 1 1 1;");
        Checks.due("council() anew", x.council(), 2);
        Checks.due("the text is empty", x.count(4), 0);
        Checks.due("officers as at first", x.count(1), 3);
        Checks.due("WARMTH as at first", x.count(2), 2);
        Checks.due("no record", x.count(3), 0);
        for (int what = 0; what < 6; what++) {
            int want = what == 2 ? 1 : what == 4 ? 2 : 0;
            Checks.due("anew: now(" + what + ")", x.now(what), want);
        }
        Checks.due("not in the wash", x.thing(0, 4), 0);
        Checks.due("not turned", x.thing(0, 5), 0);
        Checks.due("not warm", x.thing(1, 6), 0);
        Checks.due("image 0 is gone", x.back(0), RegaliaVotes.STATE);
        Checks.due("image 1 is gone", x.back(1), RegaliaVotes.STATE);
        Checks.due("nothing can be undone", x.undo(), RegaliaVotes.STATE);
        Checks.due("the trace goes on", x.trace(), 100001);
        Checks.due("council() of the empty text", x.council(), 0);
        Checks.due("no things then", x.count(0), 0);
    }

    // Promise 5
    private static void things() {
        RegaliaVotes x = Checks.told("o2;t1 5 19 1;t3 9 31 0;w4;");
        int[] crown = {1, 5, 19, 1, 0, 0, 0, 0};
        int[] cushion = {3, 9, 31, 0, 0, 0, 0, 0};
        for (int what = 0; what < 8; what++) {
            Checks.due("thing(0, " + what + ")", x.thing(0, what), crown[what]);
            Checks.due("thing(1, " + what + ")", x.thing(1, what), cushion[what]);
        }
        x.warms(0);
        Checks.due("warmth left", x.thing(0, 6), 4);
        Checks.due("a warm crown speaks", x.thing(0, 7), 1);
        x.sickens(1, 1);
        Checks.due("not if its holder is sick", x.thing(0, 7), 0);
        x.hands(0, 0);
        Checks.due("again from who is well", x.thing(0, 7), 1);
        Checks.due("its holder", x.thing(0, 3), 0);
        x.washes(0);
        Checks.due("in the wash", x.thing(0, 4), 1);
        Checks.due("not from the wash", x.thing(0, 7), 0);
        Checks.due("thing(-1, 0)", x.thing(-1, 0), BAD);
        Checks.due("thing(2, 0)", x.thing(2, 0), BAD);
        Checks.due("thing(0, -1)", x.thing(0, -1), BAD);
        Checks.due("thing(0, 8)", x.thing(0, 8), BAD);
        Checks.due("thing(greatest int, 0)", x.thing(Integer.MAX_VALUE, 0), BAD);
    }

    // Promise 6
    private static void officers() {
        RegaliaVotes x = Checks.told("o3;t0 5 1 0;t0 3 0 0;t3 9 1 0;t0 4 1 2;");
        Checks.due("officer(0, 0)", x.officer(0, 0), 0);
        Checks.due("officer(0, 1)", x.officer(0, 1), 7);
        Checks.due("officer(0, 2)", x.officer(0, 2), 8);
        Checks.due("officer(1, 1)", x.officer(1, 1), 0);
        Checks.due("officer(1, 2)", x.officer(1, 2), 0);
        Checks.due("officer(2, 1)", x.officer(2, 1), 8);
        Checks.due("officer(2, 2)", x.officer(2, 2), 4);
        x.sickens(0, 1);
        Checks.due("sick: officer(0, 0)", x.officer(0, 0), 1);
        Checks.due("sick: officer(0, 1)", x.officer(0, 1), 7);
        Checks.due("sick: officer(0, 2)", x.officer(0, 2), 0);
        Checks.due("officer(-1, 0)", x.officer(-1, 0), BAD);
        Checks.due("officer(3, 0)", x.officer(3, 0), BAD);
        Checks.due("officer(0, -1)", x.officer(0, -1), BAD);
        Checks.due("officer(0, 3)", x.officer(0, 3), BAD);
    }

    // Promise 7
    private static void bills() {
        RegaliaVotes x = Checks.told("t0 5 1 0;t2 3 2 1;t0 2 3 2;t3 9 31 0;");
        Checks.due("bill(0, 0)", x.bill(0, 0), 7);
        Checks.due("bill(0, 1)", x.bill(0, 1), 3);
        Checks.due("bill(0, 2)", x.bill(0, 2), 1);
        Checks.due("bill(0, 3)", x.bill(0, 3), 5);
        Checks.due("a tie: yes", x.bill(1, 0), 5);
        Checks.due("a tie: no", x.bill(1, 1), 5);
        Checks.due("a tie does not pass", x.bill(1, 2), 0);
        Checks.due("bill(4, 0)", x.bill(4, 0), 0);
        Checks.due("bill(4, 1)", x.bill(4, 1), 10);
        x.washes(1);
        x.hangs(1);
        Checks.due("turned: bill(0, 0)", x.bill(0, 0), 10);
        Checks.due("turned: bill(1, 3)", x.bill(1, 3), 4);
        Checks.due("bill(-1, 0)", x.bill(-1, 0), BAD);
        Checks.due("bill(5, 0)", x.bill(5, 0), BAD);
        Checks.due("bill(0, -1)", x.bill(0, -1), BAD);
        Checks.due("bill(0, 4)", x.bill(0, 4), BAD);
    }

    // Promise 8
    private static void nowAsked() {
        RegaliaVotes x = Checks.told("o4;t0 3 1 1;t0 4 1 3;t0 1 0 1;t1 9 0 0;");
        x.puts(0);
        x.puts(1);
        x.sickens(2, 1);
        Checks.due("now(0)", x.now(0), 2);
        Checks.due("now(1)", x.now(1), 1);
        Checks.due("now(2)", x.now(2), 7);
        Checks.due("now(3)", x.now(3), 4);
        Checks.due("now(4): of several the lowest", x.now(4), 1);
        Checks.due("now(5)", x.now(5), 3);
        x.sickens(1, 1);
        Checks.due("now(4)", x.now(4), 3);
        x.sickens(3, 1);
        Checks.due("now(4): nobody has any", x.now(4), 0);
        Checks.due("now(-1)", x.now(-1), BAD);
        Checks.due("now(6)", x.now(6), BAD);
    }
}
