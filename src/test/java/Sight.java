/**
 * All that can be asked of an object without changing it, as one text. Some 170 calls at most, so that a
 * story of up to 340 calls and a look at its end stay within the 512 that the document promises.
 */
final class Sight {
    private Sight() {
    }

    static String of(RegaliaVotes x) {
        return "trace " + x.trace() + withoutTrace(x);
    }

    static String withoutTrace(RegaliaVotes x) {
        StringBuilder seen = new StringBuilder();
        seen.append(" counts");
        for (int what = 0; what < 5; what++) {
            seen.append(' ').append(x.count(what));
        }
        seen.append(" now");
        for (int what = 0; what < 6; what++) {
            seen.append(' ').append(x.now(what));
        }
        int things = x.count(0);
        for (int t = 0; t < things; t++) {
            thing(seen, x, t);
        }
        int officers = x.count(1);
        for (int o = 0; o < officers; o++) {
            seen.append(" officer ").append(o).append(':');
            seen.append(' ').append(x.officer(o, 0));
            seen.append(' ').append(x.officer(o, 1));
            seen.append(' ').append(x.officer(o, 2));
        }
        for (int b = 0; b < 5; b++) {
            bill(seen, x, b);
        }
        seen.append(" least ").append(x.least(0)).append(' ').append(x.least(1));
        seen.append(" dummies ").append(x.dummies());
        seen.append(" free ").append(x.free());
        seen.append(" who ").append(x.who());
        return seen.toString();
    }

    private static void thing(StringBuilder seen, RegaliaVotes x, int t) {
        seen.append(" thing ").append(t).append(':');
        for (int what = 0; what < 8; what++) {
            seen.append(' ').append(x.thing(t, what));
        }
        seen.append(" power ").append(x.power(t, 0)).append(' ').append(x.power(t, 1));
        seen.append(" is for ").append(x.isFor(t, 0)).append(' ').append(x.isFor(t, 1));
    }

    private static void bill(StringBuilder seen, RegaliaVotes x, int b) {
        seen.append(" bill ").append(b).append(':');
        for (int what = 0; what < 4; what++) {
            seen.append(' ').append(x.bill(b, what));
        }
        seen.append(" sways ").append(x.sways(b));
        seen.append(" turn ").append(x.turn(b));
        seen.append(" hand ").append(x.hand(b));
        seen.append(" swaps ").append(x.swaps(b));
        seen.append(" odds ").append(x.odds(b, 3, 0)).append(' ').append(x.odds(b, 3, 1));
    }
}
