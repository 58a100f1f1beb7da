/** Promises 19 to 23: who sways a bill, who can be missed, the fewest turned or handed, swaps. */
public final class BillsTest {
    private static final int BAD = RegaliaVotes.BAD;
    private static final int NONE = RegaliaVotes.NONE;

    public static void main(String[] args) {
        sways();
        free();
        turn();
        hand();
        swaps();
        Checks.end("BillsTest");
    }

    // Promise 19
    private static void sways() {
        // Bill 0: 4 to 3. Bill 1: 3 to 4. Bill 2: 5 to 2. Bill 3: none to 7.
        RegaliaVotes x = Checks.told("t0 4 1 0;t0 2 6 1;t0 1 2 2;t3 9 1 0;");
        Checks.due("sways(0)", x.sways(0), 1);
        Checks.due("sways(1)", x.sways(1), 1);
        Checks.due("sways(2)", x.sways(2), 1);
        Checks.due("sways(3)", x.sways(3), 0);
        RegaliaVotes tie = Checks.told("t0 4 1 0;t0 4 0 1;");
        Checks.due("without a no a tie passes", tie.sways(0), 2);
        Checks.due("sways(-1)", x.sways(-1), BAD);
        Checks.due("sways(5)", x.sways(5), BAD);
    }

    // Promise 20
    private static void free() {
        RegaliaVotes x = Checks.told("t0 4 1 0;t0 2 6 1;t0 1 2 2;t3 9 1 0;");
        Checks.due("free()", x.free(), 6);
        x.sickens(0, 1);
        Checks.due("2 beside 1", x.free(), 4);
        RegaliaVotes last = Checks.told("t0 1 16 0;");
        Checks.due("bill 4 counts, too", last.free(), 0);
        RegaliaVotes first = Checks.told("t0 1 1 0;");
        Checks.due("bill 0 counts, too", first.free(), 0);
        RegaliaVotes no = Checks.told("t0 1 0 0;");
        Checks.due("who is for none", no.free(), 1);
        Checks.due("no things", new RegaliaVotes().free(), 0);
    }

    // Promise 21
    private static void turn() {
        RegaliaVotes x = Checks.told("t0 1 0 0;t0 3 0 1;t0 3 0 2;t0 3 0 1;t0 2 1 1;");
        Checks.due("of as few the least", x.turn(0), 6);
        Checks.due("more are needed", x.turn(1), 7);
        x.washes(1);
        Checks.due("only voices", x.turn(1), 12);
        x.sickens(0, 1);
        x.sickens(1, 1);
        Checks.due("the last voice", x.turn(0), 4);
        x.sickens(2, 1);
        Checks.due("no voices", x.turn(0), NONE);
        RegaliaVotes yes = Checks.told("t0 1 1 0;");
        Checks.due("it passes as it is", yes.turn(0), 0);
        Checks.due("turn(-1)", x.turn(-1), BAD);
        Checks.due("turn(5)", x.turn(5), BAD);
    }

    // Promise 22
    private static void hand() {
        RegaliaVotes x = Checks.told("t0 4 0 0;t0 2 1 1;t0 3 1 1;t0 5 1 1;t3 9 1 1;t1 9 1 1;t0 9 1 2;");
        Checks.due("it passes as it is", x.hand(0), 0);
        x.sickens(1, 1);
        x.sickens(2, 1);
        Checks.due("the fewest", x.hand(0), 8);
        x.washes(6);
        x.washes(3);
        Checks.due("two, as one is in the wash", x.hand(0), 6);
        Checks.due("no set is enough", x.hand(1), NONE);
        x.warms(5);
        Checks.due("a warm crown", x.hand(0), 32);
        x.sickens(0, 1);
        Checks.due("all are sick", x.hand(0), NONE);
        RegaliaVotes two = Checks.told("o2;t0 3 0 0;t0 2 1 1;t0 2 1 1;t0 2 1 1;");
        two.sickens(1, 1);
        Checks.due("of as few the least", two.hand(0), 6);
        RegaliaVotes alone = Checks.told("o1;t0 3 1 0;");
        alone.sickens(0, 1);
        Checks.due("nobody is well to take it", alone.hand(0), NONE);
        Checks.due("hand(-1)", x.hand(-1), BAD);
        Checks.due("hand(5)", x.hand(5), BAD);
    }

    // Promise 23
    private static void swaps() {
        RegaliaVotes x = Checks.told("t0 3 1 0;t0 2 0 1;t0 2 0 1;t3 1 0 2;");
        Checks.due("nobody is sick", x.swaps(0), 0);
        x.sickens(1, 1);
        Checks.due("with the sick one's things", x.swaps(0), 2);
        x.sickens(1, 0);
        x.sickens(0, 1);
        Checks.due("only the dumb are for it", x.swaps(1), 0);
        Checks.due("one more yes, one no less", x.swaps(0), 2);
        x.hands(0, 1);
        Checks.due("with a cushion, too", x.swaps(1), 0);
        x.sickens(0, 0);
        x.sickens(2, 1);
        x.washes(2);
        Checks.due("a cushion to the well", x.swaps(0), 1);
        Checks.due("swaps(-1)", x.swaps(-1), BAD);
        Checks.due("swaps(5)", x.swaps(5), BAD);
    }
}
