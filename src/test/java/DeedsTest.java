/** Promises 9 to 15: what is done to things and officers, and undone. */
public final class DeedsTest {
    private static final int BAD = RegaliaVotes.BAD;
    private static final int STATE = RegaliaVotes.STATE;

    public static void main(String[] args) {
        putting();
        puttingNoMore();
        handing();
        washing();
        hanging();
        warming();
        sickening();
        undoing();
        undoneOneByOne();
        Checks.end("DeedsTest");
    }

    // Promise 9
    private static void putting() {
        RegaliaVotes x = Checks.told("t1 5 1 0;t0 2 2 1;t1 1 0 2;w2;");
        Checks.due("puts(0): the crown is cold", x.puts(0), 0);
        x.warms(0);
        x.warms(2);
        x.sickens(2, 1);
        x.washes(2);
        Checks.due("puts(0)", x.puts(0), 1);
        Checks.due("warmth is one less", x.thing(0, 6), 1);
        Checks.due("in the wash with the sick, too", x.thing(2, 6), 1);
        Checks.due("puts(0): the last warm one", x.puts(0), 1);
        Checks.due("puts(0): cold again", x.puts(0), 0);
        Checks.due("no warmth below 0", x.thing(0, 6), 0);
        Checks.due("puts(1)", x.puts(1), 1);
        Checks.due("how many put", x.now(0), 5);
        Checks.due("how many passed", x.now(1), 3);
        Checks.due("puts(-1)", x.puts(-1), BAD);
        Checks.due("puts(5)", x.puts(5), BAD);
        Checks.due("refused ones are not counted", x.now(0), 5);
    }

    // Promise 9: beyond the 512 calls that are promised, but no other way leads to this refusal
    private static void puttingNoMore() {
        RegaliaVotes x = Checks.told("t0 1 1 0;");
        for (int i = 0; i < 999; i++) {
            x.puts(i % 2);
        }
        Checks.due("999 were put", x.now(0), 999);
        Checks.due("every other one passed", x.now(1), 500);
        Checks.due("puts(0)", x.puts(0), STATE);
        Checks.due("BAD is ahead of STATE", x.puts(5), BAD);
        Checks.due("still 999", x.now(0), 999);
        x.undo();
        Checks.due("puts(0) behind undo()", x.puts(0), 1);
    }

    // Promise 10
    private static void handing() {
        RegaliaVotes x = Checks.told("o2;t0 5 1 0;t3 2 2 1;");
        Checks.due("hands(0, 1)", x.hands(0, 1), 0);
        Checks.due("hands(0, 1) again", x.hands(0, 1), 1);
        Checks.due("its holder", x.thing(0, 3), 1);
        Checks.due("all he holds", x.officer(1, 1), 3);
        Checks.due("both can be undone", x.now(5), 2);
        Checks.due("hands(-1, 0)", x.hands(-1, 0), BAD);
        Checks.due("hands(2, 0)", x.hands(2, 0), BAD);
        Checks.due("hands(0, -1)", x.hands(0, -1), BAD);
        Checks.due("hands(0, 2)", x.hands(0, 2), BAD);
        Checks.due("refused ones are not known", x.now(5), 2);
    }

    // Promise 11
    private static void washing() {
        RegaliaVotes x = Checks.told("t0 5 1 0;t3 2 2 1;t2 1 1 0;");
        Checks.due("washes(0)", x.washes(0), 1);
        Checks.due("washes(2)", x.washes(2), 2);
        Checks.due("washes(1)", x.washes(1), 3);
        Checks.due("a sword is not turned in the wash", x.thing(2, 5), 0);
        Checks.due("washes(0) again", x.washes(0), STATE);
        Checks.due("washes(-1)", x.washes(-1), BAD);
        Checks.due("washes(3)", x.washes(3), BAD);
        Checks.due("three are known", x.now(5), 3);
    }

    // Promise 12
    private static void hanging() {
        RegaliaVotes x = Checks.told("t0 5 1 0;t1 2 2 1;t2 1 1 0;t3 1 1 0;");
        int[] turned = {0, 0, 1, 0};
        for (int t = 0; t < 4; t++) {
            Checks.due("hangs(" + t + ") out of the wash", x.hangs(t), STATE);
            x.washes(t);
            Checks.due("hangs(" + t + ")", x.hangs(t), turned[t]);
            Checks.due("thing(" + t + ", 4)", x.thing(t, 4), 0);
            Checks.due("thing(" + t + ", 5)", x.thing(t, 5), turned[t]);
        }
        x.washes(2);
        Checks.due("turned while it is washed again", x.thing(2, 5), 1);
        Checks.due("hangs(2) again", x.hangs(2), 0);
        Checks.due("hangs(-1)", x.hangs(-1), BAD);
        Checks.due("hangs(4)", x.hangs(4), BAD);
    }

    // Promise 13
    private static void warming() {
        RegaliaVotes x = Checks.told("t0 5 1 0;t1 2 2 1;t2 1 1 0;t3 1 1 0;w3;");
        Checks.due("warms(1)", x.warms(1), 0);
        x.puts(0);
        Checks.due("warms(1) again", x.warms(1), 2);
        Checks.due("warmth anew", x.thing(1, 6), 3);
        x.washes(1);
        Checks.due("in the wash, too", x.warms(1), 3);
        Checks.due("warms(0)", x.warms(0), STATE);
        Checks.due("warms(2)", x.warms(2), STATE);
        Checks.due("warms(3)", x.warms(3), STATE);
        Checks.due("warms(-1)", x.warms(-1), BAD);
        Checks.due("warms(4)", x.warms(4), BAD);
        Checks.due("five are known", x.now(5), 5);
        RegaliaVotes cold = Checks.told("t1 2 2 1;w0;");
        cold.warms(0);
        Checks.due("a WARMTH of 0 warms nothing", cold.thing(0, 7), 0);
    }

    // Promise 14
    private static void sickening() {
        RegaliaVotes x = Checks.told("o5;");
        Checks.due("sickens(4, 1)", x.sickens(4, 1), 0);
        Checks.due("sickens(4, 1) again", x.sickens(4, 1), 1);
        Checks.due("sickens(0, 1)", x.sickens(0, 1), 0);
        Checks.due("who is sick", x.now(3), 17);
        Checks.due("sickens(4, 0)", x.sickens(4, 0), 1);
        Checks.due("sickens(4, 0) again", x.sickens(4, 0), 0);
        Checks.due("who is sick then", x.now(3), 1);
        Checks.due("sickens(-1, 0)", x.sickens(-1, 0), BAD);
        Checks.due("sickens(5, 0)", x.sickens(5, 0), BAD);
        Checks.due("sickens(0, -1)", x.sickens(0, -1), BAD);
        Checks.due("sickens(0, 2)", x.sickens(0, 2), BAD);
        Checks.due("five are known", x.now(5), 5);
    }

    // Promise 15
    private static void undoing() {
        RegaliaVotes x = Checks.told("t2 3 1 0;t1 1 0 1;");
        Checks.due("undo() of nothing", x.undo(), STATE);
        for (int i = 0; i < 13; i++) {
            x.puts(0);
        }
        Checks.due("ten are known", x.now(5), 10);
        for (int left = 9; left >= 0; left--) {
            Checks.due("undo()", x.undo(), left);
            Checks.due("bills put", x.now(0), 3 + left);
            Checks.due("bills passed", x.now(1), 3 + left);
        }
        Checks.due("older ones are lost", x.undo(), STATE);
        x.washes(0);
        x.record(0, 1);
        x.rate(0, 0);
        Checks.due("undo() of the latest", x.undo(), 0);
        Checks.due("the record is not undone", x.count(3), 1);
        Checks.due("the trace is not undone", x.trace(), 1);
        Checks.due("bills put are those at first", x.now(0), 3);
    }

    // Promise 15
    private static void undoneOneByOne() {
        RegaliaVotes x = Checks.told("t2 3 1 0;t1 1 0 1;w5;");
        x.warms(1);
        x.sickens(2, 1);
        x.hands(0, 2);
        x.washes(0);
        x.hangs(0);
        x.puts(0);
        Checks.due("warmth behind puts()", x.thing(1, 6), 4);
        Checks.due("undo() puts()", x.undo(), 5);
        Checks.due("bills put", x.now(0), 0);
        Checks.due("warmth is back", x.thing(1, 6), 5);
        Checks.due("undo() hangs()", x.undo(), 4);
        Checks.due("in the wash again", x.thing(0, 4), 1);
        Checks.due("not turned again", x.thing(0, 5), 0);
        Checks.due("undo() washes()", x.undo(), 3);
        Checks.due("out of the wash", x.thing(0, 4), 0);
        Checks.due("undo() hands()", x.undo(), 2);
        Checks.due("held as told", x.thing(0, 3), 0);
        Checks.due("undo() sickens()", x.undo(), 1);
        Checks.due("nobody is sick", x.now(3), 0);
        Checks.due("undo() warms()", x.undo(), 0);
        Checks.due("cold again", x.thing(1, 6), 0);
    }
}
