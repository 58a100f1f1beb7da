/** Promises 29 to 33: rates by kinds, images, counts, the trace. */
public final class KindsTest {
    private static final int BAD = RegaliaVotes.BAD;
    private static final int STATE = RegaliaVotes.STATE;

    public static void main(String[] args) {
        ratesAndTrace();
        keep();
        back();
        backAndUndo();
        count();
        Checks.end("KindsTest");
    }

    // Promises 29 and 33
    private static void ratesAndTrace() {
        RegaliaVotes x = Checks.told("t0 2 31 0;t1 3 5 0;w9;");
        x.warms(1);
        x.puts(0);
        int[] rates = {3, 5, -5, 10, -4, 4};
        long[] traces = {1, 11, 101, 1011, 10101, 100001};
        long trace = 0;
        for (int kind = 0; kind < 6; kind++) {
            Checks.due("rate(" + kind + ", 1)", x.rate(kind, 1), rates[kind]);
            trace += traces[kind];
            Checks.due("trace() behind rate(" + kind + ", 1)", x.trace(), trace);
        }
        Checks.due("rate(4, 0)", x.rate(4, 0), 2);
        Checks.due("rate(-1, 0)", x.rate(-1, 0), RegaliaVotes.NO);
        Checks.due("rate(6, 0)", x.rate(6, 0), RegaliaVotes.NO);
        Checks.due("rate(0, -1)", x.rate(0, -1), RegaliaVotes.NO);
        Checks.due("rate(0, 2)", x.rate(0, 2), RegaliaVotes.NO);
        Checks.due("what is refused is not traced", x.trace(), trace + 10101);
        x.undo();
        x.keep(0);
        x.back(0);
        x.council();
        Checks.due("the trace goes on", x.trace(), trace + 10101);
    }

    // Promise 30
    private static void keep() {
        RegaliaVotes x = Checks.told("t0 2 31 0;");
        Checks.due("keep(0)", x.keep(0), 0);
        x.puts(0);
        Checks.due("keep(1)", x.keep(1), 1);
        x.puts(0);
        Checks.due("keep(0) again", x.keep(0), 2);
        Checks.due("keep(-1)", x.keep(-1), BAD);
        Checks.due("keep(2)", x.keep(2), BAD);
        Checks.due("keeping is nothing to undo", x.now(5), 2);
        Checks.due("back(1)", x.back(1), 1);
        Checks.due("back(0)", x.back(0), 2);
    }

    // Promise 31
    private static void back() {
        RegaliaVotes x = Checks.told("o4;t2 2 1 0;t1 1 1 1;w5;");
        Checks.due("back(0) of none", x.back(0), STATE);
        x.washes(0);
        x.hangs(0);
        x.washes(0);
        x.hands(1, 3);
        x.warms(1);
        x.sickens(2, 1);
        x.puts(0);
        Checks.due("keep(1)", x.keep(1), 1);
        x.hangs(0);
        x.hands(1, 2);
        x.sickens(2, 0);
        x.sickens(0, 1);
        x.puts(3);
        x.puts(0);
        x.record(1, 0);
        Checks.type(x, "w1;");
        Checks.due("back(1)", x.back(1), 1);
        Checks.due("in the wash", x.thing(0, 4), 1);
        Checks.due("turned", x.thing(0, 5), 1);
        Checks.due("the holder", x.thing(1, 3), 3);
        Checks.due("warmth left", x.thing(1, 6), 4);
        Checks.due("the sick", x.now(3), 4);
        Checks.due("bills put", x.now(0), 1);
        Checks.due("bills passed", x.now(1), 1);
        Checks.due("nothing can be undone", x.now(5), 0);
        Checks.due("undo()", x.undo(), STATE);
        Checks.due("the record stays", x.count(3), 1);
        Checks.due("the text stays", x.count(4), 3);
        Checks.due("back(0) still of none", x.back(0), STATE);
        Checks.due("back(-1)", x.back(-1), BAD);
        Checks.due("back(2)", x.back(2), BAD);
    }

    // Promise 31: what comes behind back() changes neither the image nor what is refused
    private static void backAndUndo() {
        RegaliaVotes x = Checks.told("t0 2 1 0;");
        x.keep(0);
        x.puts(0);
        Checks.due("a refused back()", x.back(1), STATE);
        Checks.due("leaves what can be undone", x.now(5), 1);
        x.back(0);
        x.puts(0);
        x.hands(0, 2);
        Checks.due("undo() behind back()", x.undo(), 1);
        Checks.due("back(0) again", x.back(0), 0);
        Checks.due("the image is as it was", x.thing(0, 3), 0);
    }

    // Promise 32
    private static void count() {
        RegaliaVotes x = Checks.told("o4;t0 2 31 0;t0 2 31 0;w8;");
        x.record(0, 0);
        Checks.type(x, "abc");
        int[] counts = {2, 4, 8, 1, 3};
        for (int what = 0; what < 5; what++) {
            Checks.due("count(" + what + ")", x.count(what), counts[what]);
        }
        Checks.due("count(-1)", x.count(-1), BAD);
        Checks.due("count(5)", x.count(5), BAD);
    }
}
