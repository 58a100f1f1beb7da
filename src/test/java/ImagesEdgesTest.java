/** The bounds that the document names of kinds, THE TRACE and images (promises 29 to 33), from both sides. */
public final class ImagesEdgesTest {
    private static final int BAD = RegaliaVotes.BAD;
    private static final int STATE = RegaliaVotes.STATE;
    private static final int NO = RegaliaVotes.NO;

    public static void main(String[] args) {
        lowestRates();
        highestRates();
        ratesOfForAndTurned();
        noSuchKind();
        traceGoesOn();
        imagesOfNothing();
        eachImageForItself();
        imageStays();
        nothingUndoneBehindBack();
        onlyNowIsKept();
        imagesOfCrownsAndSwords();
        Checks.end("ImagesEdgesTest");
    }

    private static void rates(RegaliaVotes x, int t, int[] due) {
        for (int kind = 0; kind < 6; kind++) {
            Checks.due("rate(" + kind + ", " + t + ")", x.rate(kind, t), due[kind]);
        }
    }

    // "What none is, where a number may be below 0": a rate below 0, as BAD, STATE and NONE are
    private static void lowestRates() {
        RegaliaVotes x = Checks.told("t1 1 0 0;t1 8 0 0;t1 7 0 0;w9;");
        x.warms(0);
        x.warms(1);
        x.warms(2);
        rates(x, 0, new int[] {1, 1, -8, 2, -8, 1});
        Checks.due("as BAD is, but not refused", x.rate(2, 1), BAD);
        Checks.due("as STATE is, but not refused", x.rate(2, 2), STATE);
        Checks.due("its number is added", x.rate(4, 1), 0);
        Checks.due("its number is added", x.rate(4, 2), 0);
        x.puts(0);
        Checks.due("WARMTH left", x.rate(2, 0), -7);
        Checks.due("BILLS put", x.rate(5, 0), 2);
    }

    private static void highestRates() {
        RegaliaVotes x = Checks.told("t0 9 31 0;".repeat(7));
        rates(x, 0, new int[] {9, 14, 9, 28, 9, 9});
        rates(x, 6, new int[] {9, 14, 9, 28, 15, 9});
        for (int i = 1; i <= 40; i++) {
            x.puts(0);
        }
        rates(x, 6, new int[] {9, 14, 9, 28, 15, 49});
    }

    // FOR is what was told, of a TURNED one, too; a THING that does not SPEAK has its rate.
    private static void ratesOfForAndTurned() {
        RegaliaVotes x = Checks.told("t2 3 7 0;t3 4 0 0;");
        x.washes(0);
        x.hangs(0);
        Checks.due("TURNED", x.rate(1, 0), 6);
        x.washes(0);
        x.sickens(0, 1);
        Checks.due("in the WASH", x.rate(1, 0), 6);
        rates(x, 1, new int[] {4, 4, 4, 8, 5, 4});
    }

    // "NO: BAD."
    private static void noSuchKind() {
        RegaliaVotes x = Checks.told("t0 1 0 0;");
        int[][] wrong = {{-1, 0}, {6, 0}, {0, -1}, {0, 1}, {5, 1}, {6, 1}, {-1, -1}};
        for (int[] numbers : wrong) {
            Checks.due("rate(" + numbers[0] + ", " + numbers[1] + ")", x.rate(numbers[0], numbers[1]), NO);
            Checks.due("it is not traced", x.trace(), 0);
        }
        Checks.due("rate(5, 0)", x.rate(5, 0), 1);
        Checks.due("it is traced", x.trace(), 100001);
        Checks.due("no things", new RegaliaVotes().rate(0, 0), NO);
    }

    // "THE TRACE, 0 at first", "THE TRACE goes on, as behind undo(), back()"
    private static void traceGoesOn() {
        RegaliaVotes x = Checks.told("t0 1 0 0;");
        Checks.due("0 at first", x.trace(), 0);
        x.keep(0);
        x.puts(0);
        long trace = 0;
        long[] added = {1, 11, 101, 1011, 10101, 100001};
        for (int round = 0; round < 12; round++) {
            for (int kind = 0; kind < 6; kind++) {
                x.rate(kind, 0);
                trace += added[kind];
                Checks.due("trace()", x.trace(), trace);
            }
        }
        Checks.due("no digit carries wrongly", x.trace(), 12 * 111226L);
        x.undo();
        Checks.due("behind undo()", x.trace(), trace);
        x.back(0);
        Checks.due("behind back()", x.trace(), trace);
        x.forget();
        x.clear();
        x.council();
        Checks.due("read anew", x.trace(), trace);
    }

    // "IMAGES 0, 1"; "STATE: none was kept"
    private static void imagesOfNothing() {
        RegaliaVotes x = new RegaliaVotes();
        Checks.due("back(0)", x.back(0), STATE);
        Checks.due("back(1)", x.back(1), STATE);
        Checks.due("keep(-1)", x.keep(-1), BAD);
        Checks.due("keep(2)", x.keep(2), BAD);
        Checks.due("back(-1)", x.back(-1), BAD);
        Checks.due("back(2)", x.back(2), BAD);
        Checks.due("back(0) still", x.back(0), STATE);
        Checks.due("back(1) still", x.back(1), STATE);
        Checks.due("keep(1)", x.keep(1), 0);
        Checks.due("back(0) still", x.back(0), STATE);
        Checks.due("back(1)", x.back(1), 0);
        Checks.due("keep(0)", x.keep(0), 0);
        Checks.due("back(0)", x.back(0), 0);
        x.council();
        Checks.due("IMAGES are gone: back(0)", x.back(0), STATE);
        Checks.due("IMAGES are gone: back(1)", x.back(1), STATE);
    }

    private static void eachImageForItself() {
        RegaliaVotes x = Checks.told("t0 1 1 0;");
        x.puts(0);
        Checks.due("keep(0)", x.keep(0), 1);
        x.puts(0);
        Checks.due("keep(1)", x.keep(1), 2);
        x.puts(0);
        Checks.due("back(0)", x.back(0), 1);
        Checks.due("put", x.now(0), 1);
        Checks.due("back(1)", x.back(1), 2);
        Checks.due("put", x.now(0), 2);
        x.puts(1);
        Checks.due("kept anew: keep(0)", x.keep(0), 3);
        Checks.due("back(1)", x.back(1), 2);
        Checks.due("back(0)", x.back(0), 3);
        Checks.due("passed", x.now(1), 2);
    }

    // An image is there till it is kept anew or all is read anew: neither back(), deeds nor undo() change it.
    private static void imageStays() {
        RegaliaVotes x = Checks.told("o4;t2 3 5 0;t1 2 3 1;t0 1 9 3;w4;");
        x.washes(0);
        x.hangs(0);
        x.warms(1);
        x.sickens(3, 1);
        x.keep(1);
        x.undo();
        x.undo();
        x.undo();
        x.undo();
        String seen = null;
        for (int times = 0; times < 3; times++) {
            Checks.due("back(1)", x.back(1), 0);
            String now = "" + x.thing(0, 5) + x.thing(0, 4) + x.thing(1, 6) + x.thing(2, 3) + x.now(3) + x.now(5);
            Checks.holds("as it was kept", seen == null || now.equals(seen));
            seen = now;
            x.washes(0);
            x.puts(0);
            x.hands(2, 0);
            x.sickens(3, 0);
            x.sickens(0, 1);
            x.undo();
        }
        Checks.holds("TURNED, not in the WASH, 4 left, held by 3, 3 SICK, none known", seen.equals("104380"));
    }

    // "nothing can be UNDONE behind back()"
    private static void nothingUndoneBehindBack() {
        RegaliaVotes x = Checks.told("t0 1 1 0;");
        x.keep(0);
        for (int deeds = 0; deeds < 14; deeds++) {
            x.back(0);
            for (int i = 0; i < deeds; i++) {
                x.puts(0);
            }
            Checks.due("known behind " + deeds, x.now(5), Math.min(10, deeds));
            Checks.due("back(0)", x.back(0), 0);
            Checks.due("known", x.now(5), 0);
            Checks.due("undo()", x.undo(), STATE);
            Checks.due("put", x.now(0), 0);
        }
        x.puts(0);
        x.puts(0);
        Checks.due("deeds behind back(): undo()", x.undo(), 1);
        Checks.due("deeds behind back(): undo() again", x.undo(), 0);
        Checks.due("to the image, not beyond", x.undo(), STATE);
        x.puts(0);
        Checks.due("keep() leaves what can be UNDONE", x.keep(1), 1);
        Checks.due("known", x.now(5), 1);
        Checks.due("a refused back() leaves it, too", x.back(2), BAD);
        Checks.due("known", x.now(5), 1);
    }

    // "keep NOW (...); nothing else": neither THE TEXT nor the RECORD nor THE TRACE
    private static void onlyNowIsKept() {
        RegaliaVotes x = Checks.told("t0 1 1 0;");
        x.record(0, 1);
        x.type('w');
        x.rate(0, 0);
        x.keep(0);
        x.record(1, 0);
        x.type('7');
        x.rate(0, 0);
        x.back(0);
        Checks.due("the RECORD", x.count(3), 2);
        Checks.due("THE TEXT", x.count(4), 2);
        Checks.due("THE TRACE", x.trace(), 2);
        x.forget();
        x.clear();
        x.back(0);
        Checks.due("no RECORD", x.count(3), 0);
        Checks.due("no TEXT", x.count(4), 0);
    }

    // "(who HOLDS what, WASH, TURNED, WARMTH left, SICK, BILLS put, passed)": each of them alone
    private static void imagesOfCrownsAndSwords() {
        String text = "o5;t2 3 5 0;t1 2 3 1;t0 1 9 4;w9;";
        Twins.Story[] deeds = {x -> x.hands(2, 2), x -> x.washes(2), x -> x.hangs(0), x -> x.warms(1),
            x -> x.sickens(4, 1), x -> x.puts(0), x -> x.puts(4)};
        for (Twins.Story deed : deeds) {
            RegaliaVotes x = Checks.told(text);
            x.washes(0);
            x.keep(0);
            String before = Sight.of(backIn(x, 0));
            deed.tell(x);
            x.keep(1);
            Checks.holds("a deed that changes something", !Sight.of(backIn(x, 1)).equals(before));
            Checks.holds("it is not in the image", Sight.of(backIn(x, 0)).equals(before));
        }
    }

    private static RegaliaVotes backIn(RegaliaVotes x, int image) {
        x.back(image);
        return x;
    }
}
