import java.util.ArrayDeque;
import java.util.ArrayList;
import java.util.Deque;
import java.util.List;
import java.util.regex.Matcher;
import java.util.regex.Pattern;

/**
 * The document once more, in the slowest and plainest way: whatever is asked "as if" is tried on a
 * copy of the whole world, and power goes through all orders one by one.
 */
final class World {
    static final int BAD = -1, STATE = -2, FULL = -3, NONE = -9, NO = -1000000;

    /** All that an image keeps, with what was told. */
    private static final class Hall {
        List<int[]> things = new ArrayList<>(); // sort, votes, for, holder, wash, turned, warmth left
        boolean[] sick = new boolean[3];
        int warmth = 2;
        int put = 0;
        int passed = 0;

        Hall copy() {
            Hall other = new Hall();
            for (int[] thing : things) {
                other.things.add(thing.clone());
            }
            other.sick = sick.clone();
            other.warmth = warmth;
            other.put = put;
            other.passed = passed;
            return other;
        }

        boolean speaks(int t) {
            int[] thing = things.get(t);
            if (thing[4] == 1) {
                return false;
            }
            if (sick[thing[3]]) {
                return false;
            }
            if (thing[0] == 3) {
                return false;
            }
            if (thing[0] == 1 && thing[6] == 0) {
                return false;
            }
            return true;
        }

        boolean saysYes(int t, int b) {
            int[] thing = things.get(t);
            boolean isFor = (thing[2] / (1 << b)) % 2 == 1;
            return thing[5] == 1 ? !isFor : isFor;
        }

        int votes(int b, boolean yes) {
            int sum = 0;
            for (int t = 0; t < things.size(); t++) {
                if (speaks(t) && saysYes(t, b) == yes) {
                    sum += things.get(t)[1];
                }
            }
            return sum;
        }

        boolean passes(int b) {
            return votes(b, true) > votes(b, false);
        }

        List<Integer> voices() {
            List<Integer> found = new ArrayList<>();
            for (int t = 0; t < things.size(); t++) {
                if (speaks(t)) {
                    found.add(t);
                }
            }
            return found;
        }

        int sum(List<Integer> set) {
            int sum = 0;
            for (int t : set) {
                sum += things.get(t)[1];
            }
            return sum;
        }

        boolean carries(List<Integer> set) {
            return sum(set) * 2 > sum(voices());
        }
    }

    private Hall hall = new Hall();
    private String text = "";
    private final Deque<Hall> past = new ArrayDeque<>();
    private final Hall[] images = new Hall[2];
    private final List<int[]> record = new ArrayList<>();
    private long trace = 0;

    // ---- the council

    int type(int letter) {
        if (letter < 0 || letter > 255) {
            return BAD;
        }
        if (text.length() == 200) {
            return FULL;
        }
        text += (char) letter;
        return text.length();
    }

    int clear() {
        int had = text.length();
        text = "";
        return had;
    }

    int council() {
        Hall draft = new Hall();
        List<String> open = new ArrayList<>();
        Matcher tokens = Pattern.compile("[0-9]+|[^ ]", Pattern.DOTALL).matcher(text);
        int items = 0;
        boolean warmthTold = false;
        while (tokens.find()) {
            String token = tokens.group();
            int fault = -10 - tokens.start();
            if (open.isEmpty()) {
                boolean fits = token.equals("o") && items == 0
                        || token.equals("t") && draft.things.size() < 7
                        || token.equals("w") && !warmthTold;
                if (!fits) {
                    return fault;
                }
                open.add(token);
                continue;
            }
            boolean isThing = open.get(0).equals("t");
            if (open.size() == (isThing ? 5 : 2)) {
                if (!token.equals(";")) {
                    return fault;
                }
                warmthTold |= take(open, draft);
                open.clear();
                items++;
                continue;
            }
            if (!token.matches("[0-9]|[12][0-9]|3[01]")) {
                return fault;
            }
            int number = Integer.parseInt(token);
            String bounds = open.get(0) + open.size();
            boolean fits = switch (bounds) {
                case "o1" -> number >= 1 && number <= 5;
                case "w1" -> number <= 9;
                case "t1" -> number <= 3;
                case "t2" -> number >= 1 && number <= 9;
                case "t3" -> number <= 31;
                default -> number < draft.sick.length;
            };
            if (!fits) {
                return fault;
            }
            open.add(token);
        }
        if (!open.isEmpty()) {
            return -10 - text.length();
        }
        hall = draft;
        text = "";
        past.clear();
        images[0] = null;
        images[1] = null;
        record.clear();
        return items;
    }

    private static boolean take(List<String> item, Hall draft) {
        int first = Integer.parseInt(item.get(1));
        if (item.get(0).equals("o")) {
            draft.sick = new boolean[first];
            return false;
        }
        if (item.get(0).equals("w")) {
            draft.warmth = first;
            return true;
        }
        int[] thing = new int[7];
        for (int i = 0; i < 4; i++) {
            thing[i] = Integer.parseInt(item.get(i + 1));
        }
        draft.things.add(thing);
        return false;
    }

    private boolean isThing(int t) {
        return t >= 0 && t < hall.things.size();
    }

    private boolean isOfficer(int o) {
        return o >= 0 && o < hall.sick.length;
    }

    private static boolean isIn(int number, int low, int high) {
        return low <= number && number <= high;
    }

    private static int bits(List<Integer> set) {
        int bits = 0;
        for (int t : set) {
            bits += 1 << t;
        }
        return bits;
    }

    int thing(int t, int what) {
        if (!isThing(t) || !isIn(what, 0, 7)) {
            return BAD;
        }
        return what == 7 ? (hall.speaks(t) ? 1 : 0) : hall.things.get(t)[what];
    }

    int officer(int o, int what) {
        if (!isOfficer(o) || !isIn(what, 0, 2)) {
            return BAD;
        }
        if (what == 0) {
            return hall.sick[o] ? 1 : 0;
        }
        int held = 0;
        int votes = 0;
        for (int t = 0; t < hall.things.size(); t++) {
            if (hall.things.get(t)[3] == o) {
                held += 1 << t;
                votes += hall.speaks(t) ? hall.things.get(t)[1] : 0;
            }
        }
        return what == 1 ? held : votes;
    }

    int bill(int b, int what) {
        if (!isIn(b, 0, 4) || !isIn(what, 0, 3)) {
            return BAD;
        }
        if (what == 3) {
            List<Integer> yes = hall.voices();
            yes.removeIf(t -> !hall.saysYes(t, b));
            return bits(yes);
        }
        return what == 2 ? (hall.passes(b) ? 1 : 0) : hall.votes(b, what == 0);
    }

    int now(int what) {
        switch (what) {
            case 0: return hall.put;
            case 1: return hall.passed;
            case 2: return bits(hall.voices());
            case 3:
                int sick = 0;
                for (int o = 0; o < hall.sick.length; o++) {
                    sick += hall.sick[o] ? 1 << o : 0;
                }
                return sick;
            case 4:
                int best = hall.sick.length - 1;
                for (int o = best; o >= 0; o--) {
                    best = officer(o, 2) >= officer(best, 2) ? o : best;
                }
                return best;
            case 5: return past.size();
            default: return BAD;
        }
    }

    // ---- what is done

    private void remember() {
        past.addLast(hall.copy());
        if (past.size() > 10) {
            past.removeFirst();
        }
    }

    int puts(int b) {
        if (!isIn(b, 0, 4)) {
            return BAD;
        }
        if (hall.put == 999) {
            return STATE;
        }
        remember();
        int passes = bill(b, 2);
        hall.put++;
        hall.passed += passes;
        for (int[] thing : hall.things) {
            thing[6] = Math.max(0, thing[6] - 1);
        }
        return passes;
    }

    int hands(int t, int o) {
        if (!isThing(t) || !isOfficer(o)) {
            return BAD;
        }
        remember();
        int had = hall.things.get(t)[3];
        hall.things.get(t)[3] = o;
        return had;
    }

    int washes(int t) {
        if (!isThing(t)) {
            return BAD;
        }
        if (hall.things.get(t)[4] == 1) {
            return STATE;
        }
        remember();
        hall.things.get(t)[4] = 1;
        int washed = 0;
        for (int[] thing : hall.things) {
            washed += thing[4];
        }
        return washed;
    }

    int hangs(int t) {
        if (!isThing(t)) {
            return BAD;
        }
        int[] old = hall.things.get(t);
        if (old[4] == 0) {
            return STATE;
        }
        remember();
        old[4] = 0;
        if (old[0] == 2) {
            old[5] = 1 - old[5];
        }
        return old[5];
    }

    int warms(int t) {
        if (!isThing(t)) {
            return BAD;
        }
        if (hall.things.get(t)[0] != 1) {
            return STATE;
        }
        remember();
        int left = hall.things.get(t)[6];
        hall.things.get(t)[6] = hall.warmth;
        return left;
    }

    int sickens(int o, int is) {
        if (!isOfficer(o) || !isIn(is, 0, 1)) {
            return BAD;
        }
        remember();
        int was = officer(o, 0);
        hall.sick[o] = is == 1;
        return was;
    }

    int undo() {
        if (past.isEmpty()) {
            return STATE;
        }
        hall = past.removeLast();
        return past.size();
    }

    // ---- power

    private int decided;
    private int orders;

    private void ask(List<Integer> asked, List<Integer> left, int t) {
        if (left.isEmpty()) {
            orders++;
            List<Integer> sofar = new ArrayList<>();
            for (int next : asked) {
                sofar.add(next);
                if (hall.carries(sofar)) {
                    decided += next == t ? 1 : 0;
                    return;
                }
            }
            return;
        }
        for (int i = 0; i < left.size(); i++) {
            List<Integer> others = new ArrayList<>(left);
            asked.add(others.remove(i));
            ask(asked, others, t);
            asked.remove(asked.size() - 1);
        }
    }

    private static int inLeastTerms(int upper, int lower, int what) {
        for (int d = lower; d > 1; d--) {
            if (upper % d == 0 && lower % d == 0) {
                return what == 0 ? upper / d : lower / d;
            }
        }
        return what == 0 ? upper : lower;
    }

    int power(int t, int what) {
        if (!isThing(t) || !isIn(what, 0, 1)) {
            return BAD;
        }
        decided = 0;
        orders = 0;
        ask(new ArrayList<>(), hall.voices(), t);
        return inLeastTerms(decided, orders, what);
    }

    private static List<Integer> listOf(int bits) {
        List<Integer> set = new ArrayList<>();
        for (int t = 0; t < 7; t++) {
            if ((bits >> t) % 2 == 1) {
                set.add(t);
            }
        }
        return set;
    }

    int least(int what) {
        if (!isIn(what, 0, 1)) {
            return BAD;
        }
        int howMany = 0;
        int first = NONE;
        for (int bits = 127; bits >= 0; bits--) {
            List<Integer> set = listOf(bits);
            boolean isLeast = hall.voices().containsAll(set) && hall.carries(set);
            for (Integer t : set) {
                List<Integer> without = new ArrayList<>(set);
                without.remove(t);
                isLeast = isLeast && !hall.carries(without);
            }
            howMany += isLeast ? 1 : 0;
            first = isLeast ? bits : first;
        }
        return what == 0 ? howMany : first;
    }

    int dummies() {
        List<Integer> found = hall.voices();
        found.removeIf(t -> power(t, 0) != 0);
        return bits(found);
    }

    // ---- bills

    int sways(int b) {
        if (!isIn(b, 0, 4)) {
            return BAD;
        }
        List<Integer> found = hall.voices();
        found.removeIf(t -> {
            Hall other = hall.copy();
            other.things.get(t)[4] = 1;
            return other.passes(b) == hall.passes(b);
        });
        return bits(found);
    }

    int free() {
        int free = 0;
        for (int t : hall.voices()) {
            boolean missed = true;
            for (int b = 0; b < 5; b++) {
                missed = missed && (sways(b) >> t) % 2 == 0;
            }
            free += missed ? 1 << t : 0;
        }
        return free;
    }

    int turn(int b) {
        if (!isIn(b, 0, 4)) {
            return BAD;
        }
        for (int size = 0; size <= 7; size++) {
            for (int bits = 0; bits < 128; bits++) {
                List<Integer> set = listOf(bits);
                if (set.size() != size || !hall.voices().containsAll(set)) {
                    continue;
                }
                Hall other = hall.copy();
                for (int t : set) {
                    other.things.get(t)[5] = 1 - other.things.get(t)[5];
                }
                if (other.passes(b)) {
                    return bits;
                }
            }
        }
        return NONE;
    }

    int hand(int b) {
        if (!isIn(b, 0, 4)) {
            return BAD;
        }
        if (hall.passes(b)) {
            return 0;
        }
        int well = -1;
        for (int o = 0; o < hall.sick.length; o++) {
            well = hall.sick[o] ? well : o;
        }
        if (well < 0) {
            return NONE;
        }
        for (int size = 1; size <= 7; size++) {
            for (int bits = 0; bits < 1 << hall.things.size(); bits++) {
                List<Integer> set = listOf(bits);
                boolean fits = set.size() == size;
                Hall other = hall.copy();
                for (int t : set) {
                    fits = fits && hall.sick[hall.things.get(t)[3]];
                    other.things.get(t)[3] = well;
                }
                if (fits && other.passes(b)) {
                    return bits;
                }
            }
        }
        return NONE;
    }

    int swaps(int b) {
        if (!isIn(b, 0, 4)) {
            return BAD;
        }
        int swaps = 0;
        for (int t = 0; t < hall.things.size(); t++) {
            for (int u = 0; u < t; u++) {
                int one = hall.things.get(t)[3];
                int two = hall.things.get(u)[3];
                Hall other = hall.copy();
                other.things.get(t)[3] = two;
                other.things.get(u)[3] = one;
                swaps += one != two && other.passes(b) != hall.passes(b) ? 1 : 0;
            }
        }
        return swaps;
    }

    // ---- the record

    int record(int b, int passed) {
        if (!isIn(b, 0, 4) || !isIn(passed, 0, 1)) {
            return BAD;
        }
        if (record.size() == 6) {
            return FULL;
        }
        record.add(new int[] {b, passed});
        return record.size();
    }

    int forget() {
        int had = record.size();
        record.clear();
        return had;
    }

    private boolean allIsSo(Hall other) {
        for (int[] line : record) {
            if (other.passes(line[0]) != (line[1] == 1)) {
                return false;
            }
        }
        return true;
    }

    int isFor(int t, int what) {
        if (!isThing(t) || !isIn(what, 0, 1)) {
            return BAD;
        }
        int howMany = 0;
        int least = NONE;
        for (int set = 31; set >= 0; set--) {
            Hall other = hall.copy();
            other.things.get(t)[2] = set;
            if (allIsSo(other)) {
                howMany++;
                least = set;
            }
        }
        return what == 0 ? howMany : least;
    }

    int who() {
        Hall other = hall.copy();
        other.sick = new boolean[hall.sick.length];
        int found = allIsSo(other) ? 32 : 0;
        for (int o = 0; o < hall.sick.length; o++) {
            other.sick = new boolean[hall.sick.length];
            other.sick[o] = true;
            found += allIsSo(other) ? 1 << o : 0;
        }
        return found;
    }

    private int chances(Hall other, int o, int b, int p) {
        if (o == other.sick.length) {
            return other.passes(b) ? 1 : 0;
        }
        other.sick[o] = true;
        int sick = p * chances(other, o + 1, b, p);
        other.sick[o] = false;
        return sick + (10 - p) * chances(other, o + 1, b, p);
    }

    int odds(int b, int p, int what) {
        if (!isIn(b, 0, 4) || !isIn(p, 0, 10) || !isIn(what, 0, 1)) {
            return BAD;
        }
        int all = (int) Math.round(Math.pow(10, hall.sick.length));
        return inLeastTerms(chances(hall.copy(), 0, b, p), all, what);
    }

    // ---- kinds, images

    int rate(int kind, int t) {
        if (!isThing(t) || !isIn(kind, 0, 5)) {
            return NO;
        }
        int[] thing = hall.things.get(t);
        int votes = thing[1];
        int bills = Integer.bitCount(thing[2]);
        trace += new long[] {1, 11, 101, 1011, 10101, 100001}[kind];
        return new int[] {votes, votes + bills, votes - thing[6], 2 * (votes + bills),
            votes - thing[6] + t, votes + hall.put}[kind];
    }

    int keep(int image) {
        if (!isIn(image, 0, 1)) {
            return BAD;
        }
        images[image] = hall.copy();
        return hall.put;
    }

    int back(int image) {
        if (!isIn(image, 0, 1)) {
            return BAD;
        }
        if (images[image] == null) {
            return STATE;
        }
        hall = images[image].copy();
        past.clear();
        return hall.put;
    }

    int count(int what) {
        switch (what) {
            case 0: return hall.things.size();
            case 1: return hall.sick.length;
            case 2: return hall.warmth;
            case 3: return record.size();
            case 4: return text.length();
            default: return BAD;
        }
    }

    long trace() {
        return trace;
    }
}
