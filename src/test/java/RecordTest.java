/** Promises 24 to 28: the record, what a thing is for, who was sick, odds. */
public final class RecordTest {
    private static final int BAD = RegaliaVotes.BAD;
    private static final int NONE = RegaliaVotes.NONE;

    public static void main(String[] args) {
        record();
        forget();
        isFor();
        who();
        odds();
        Checks.end("RecordTest");
    }

    // Promise 24
    private static void record() {
        RegaliaVotes x = new RegaliaVotes();
        for (int i = 1; i <= 6; i++) {
            Checks.due("record(" + i % 5 + ", 0)", x.record(i % 5, 0), i);
        }
        Checks.due("record, the seventh", x.record(0, 0), RegaliaVotes.FULL);
        Checks.due("BAD is ahead of FULL", x.record(5, 0), BAD);
        Checks.due("record(-1, 0)", x.record(-1, 0), BAD);
        Checks.due("record(0, -1)", x.record(0, -1), BAD);
        Checks.due("record(0, 2)", x.record(0, 2), BAD);
        Checks.due("count(3)", x.count(3), 6);
    }

    // Promise 25
    private static void forget() {
        RegaliaVotes x = new RegaliaVotes();
        Checks.due("forget() of nothing", x.forget(), 0);
        x.record(0, 1);
        x.record(0, 1);
        Checks.due("forget()", x.forget(), 2);
        Checks.due("forget() again", x.forget(), 0);
        Checks.due("nothing is asked of them", x.who(), 39);
    }

    // Promise 26
    private static void isFor() {
        RegaliaVotes x = Checks.told("t2 3 0 0;t0 2 7 1;t3 9 1 0;");
        Checks.due("no record: isFor(0, 0)", x.isFor(0, 0), 32);
        Checks.due("no record: isFor(0, 1)", x.isFor(0, 1), 0);
        x.record(1, 1);
        Checks.due("isFor(0, 0)", x.isFor(0, 0), 16);
        Checks.due("isFor(0, 1)", x.isFor(0, 1), 2);
        x.record(4, 1);
        x.record(0, 0);
        Checks.due("three: isFor(0, 0)", x.isFor(0, 0), 4);
        Checks.due("three: isFor(0, 1)", x.isFor(0, 1), 18);
        Checks.due("it can't be by 2: isFor(1, 0)", x.isFor(1, 0), 0);
        Checks.due("it can't be by 2: isFor(1, 1)", x.isFor(1, 1), NONE);
        Checks.due("nor by a cushion", x.isFor(2, 0), 0);
        x.washes(0);
        x.hangs(0);
        Checks.due("turned: isFor(0, 0)", x.isFor(0, 0), 4);
        Checks.due("turned: isFor(0, 1)", x.isFor(0, 1), 1);
        x.record(0, 1);
        Checks.due("against itself: isFor(0, 1)", x.isFor(0, 1), NONE);
        Checks.due("isFor(-1, 0)", x.isFor(-1, 0), BAD);
        Checks.due("isFor(3, 0)", x.isFor(3, 0), BAD);
        Checks.due("isFor(0, -1)", x.isFor(0, -1), BAD);
        Checks.due("isFor(0, 2)", x.isFor(0, 2), BAD);
    }

    // Promise 27
    private static void who() {
        RegaliaVotes x = Checks.told("o4;t0 3 1 0;t0 2 3 1;t0 2 2 2;");
        Checks.due("no record", x.who(), 47);
        x.record(0, 1);
        Checks.due("bill 0 passed", x.who(), 32 + 8 + 4 + 2);
        x.record(1, 1);
        Checks.due("bill 1, too", x.who(), 32 + 8);
        x.sickens(0, 1);
        Checks.due("whoever is sick now", x.who(), 32 + 8);
        x.forget();
        x.record(1, 0);
        Checks.due("bill 1 did not", x.who(), 4 + 2);
        x.record(0, 0);
        Checks.due("nor bill 0", x.who(), 0);
        RegaliaVotes five = Checks.told("o5;");
        Checks.due("five officers", five.who(), 63);
        five.record(0, 1);
        Checks.due("by nobody", five.who(), 0);
    }

    private static void fraction(RegaliaVotes x, int b, int p, int upper, int lower) {
        Checks.due("odds(" + b + ", " + p + ", 0)", x.odds(b, p, 0), upper);
        Checks.due("odds(" + b + ", " + p + ", 1)", x.odds(b, p, 1), lower);
    }

    // Promise 28
    private static void odds() {
        RegaliaVotes x = Checks.told("o2;t0 3 1 0;t0 2 2 1;");
        fraction(x, 0, 3, 7, 10);
        fraction(x, 1, 3, 21, 100);
        fraction(x, 2, 3, 0, 1);
        fraction(x, 0, 0, 1, 1);
        fraction(x, 0, 10, 0, 1);
        fraction(x, 1, 0, 0, 1);
        x.sickens(0, 1);
        fraction(x, 0, 3, 7, 10);
        x.washes(0);
        fraction(x, 1, 3, 7, 10);
        RegaliaVotes five = Checks.told("o5;t0 1 1 0;t0 1 1 1;t0 1 1 2;t0 1 1 3;t0 1 1 4;");
        fraction(five, 0, 9, 40951, 100000);
        Checks.due("odds(-1, 0, 0)", x.odds(-1, 0, 0), BAD);
        Checks.due("odds(5, 0, 0)", x.odds(5, 0, 0), BAD);
        Checks.due("odds(0, -1, 0)", x.odds(0, -1, 0), BAD);
        Checks.due("odds(0, 11, 0)", x.odds(0, 11, 0), BAD);
        Checks.due("odds(0, 0, -1)", x.odds(0, 0, -1), BAD);
        Checks.due("odds(0, 0, 2)", x.odds(0, 0, 2), BAD);
    }
}
