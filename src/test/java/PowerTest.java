/** Promises 16 to 18: power, the least sets that carry, dummies. */
public final class PowerTest {
    private static final int BAD = RegaliaVotes.BAD;

    public static void main(String[] args) {
        power();
        least();
        dummies();
        Checks.end("PowerTest");
    }

    private static void fraction(RegaliaVotes x, int t, int upper, int lower) {
        Checks.due("power(" + t + ", 0)", x.power(t, 0), upper);
        Checks.due("power(" + t + ", 1)", x.power(t, 1), lower);
    }

    // Promise 16
    private static void power() {
        // 4, 3, 2, 1 of 10: more than 5 carry; the known powers are 5, 3, 3, 1 by 12.
        RegaliaVotes x = Checks.told("t0 4 1 0;t0 3 1 1;t0 2 1 2;t0 1 1 0;t3 9 0 0;t1 9 0 0;");
        fraction(x, 0, 5, 12);
        fraction(x, 1, 1, 4);
        fraction(x, 2, 1, 4);
        fraction(x, 3, 1, 12);
        fraction(x, 4, 0, 1);
        fraction(x, 5, 0, 1);
        x.sickens(1, 1);
        fraction(x, 0, 1, 1);
        fraction(x, 1, 0, 1);
        fraction(x, 2, 0, 1);
        RegaliaVotes seven = Checks.told("t0 1 0 0;t0 1 0 0;t0 1 0 0;t0 1 0 0;t0 1 0 0;t0 1 0 0;t0 2 0 0;");
        fraction(seven, 0, 5, 42);
        fraction(seven, 6, 2, 7);
        Checks.due("power(-1, 0)", x.power(-1, 0), BAD);
        Checks.due("power(6, 0)", x.power(6, 0), BAD);
        Checks.due("power(0, -1)", x.power(0, -1), BAD);
        Checks.due("power(0, 2)", x.power(0, 2), BAD);
    }

    // Promise 17
    private static void least() {
        // 01 (7), 02 (6), 123 (6) and no other: 03 has 5 of 10.
        RegaliaVotes x = Checks.told("t0 4 1 0;t0 3 1 1;t0 2 1 2;t0 1 1 0;");
        Checks.due("least(0)", x.least(0), 3);
        Checks.due("least(1)", x.least(1), 3);
        RegaliaVotes needless = Checks.told("t0 1 1 0;t0 5 1 1;t0 5 1 2;t0 5 1 1;");
        Checks.due("without a dummy: least(0)", needless.least(0), 3);
        Checks.due("without a dummy: least(1)", needless.least(1), 6);
        x.sickens(0, 1);
        Checks.due("the others: least(0)", x.least(0), 1);
        Checks.due("the others: least(1)", x.least(1), 2);
        x.sickens(1, 1);
        x.sickens(2, 1);
        Checks.due("none: least(0)", x.least(0), 0);
        Checks.due("none: least(1)", x.least(1), RegaliaVotes.NONE);
        Checks.due("least(-1)", x.least(-1), BAD);
        Checks.due("least(2)", x.least(2), BAD);
    }

    // Promise 18
    private static void dummies() {
        RegaliaVotes x = Checks.told("t0 1 1 0;t0 5 1 1;t0 5 1 2;t0 5 1 1;t3 9 1 1;");
        Checks.due("dummies()", x.dummies(), 1);
        x.sickens(2, 1);
        Checks.due("none of 1, 5, 5", x.dummies(), 0);
        x.washes(1);
        Checks.due("1 beside 5", x.dummies(), 1);
        Checks.due("no things", new RegaliaVotes().dummies(), 0);
    }
}
