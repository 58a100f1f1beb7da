import java.util.Arrays;

/** The regalia vote: things of state that vote, held by officers who may be sick. */
public final class RegaliaVotes {
    public static final int BAD = -1, STATE = -2, FULL = -3, NONE = -9;
    public static final int NO = -1000000;

    private static final int MOST_LETTERS = 200;
    private static final int MOST_THINGS = 7;
    private static final int SETS_OF_THINGS = 128;
    private static final int MOST_OFFICERS = 5;
    private static final int OFFICERS_AT_FIRST = 3;
    private static final int MOST_WARMTH = 9;
    private static final int WARMTH_AT_FIRST = 2;
    private static final int MOST_VOTES = 9;
    private static final int BILLS = 5;
    private static final int SETS_OF_BILLS = 32;
    private static final int MOST_PUT = 999;
    private static final int MOST_UNDONE = 10;
    private static final int MOST_RECORD = 6;
    private static final int IMAGES = 2;
    private static final int NOBODY = 32;

    private static final int CROWN = 1;
    private static final int SWORD = 2;
    private static final int CUSHION = 3;

    private final char[] text = new char[MOST_LETTERS];
    private int letters = 0;
    private final Council told = new Council();
    private final Council draft = new Council();
    private final Reader reader = new Reader(text, draft);
    private final Moment moment = new Moment();
    private final Vote vote = new Vote(told, moment);
    private final Power powers = new Power(vote);
    private final Minutes minutes = new Minutes(vote);
    private final Past past = new Past();
    private final Moment[] images = new Moment[IMAGES];
    private int kept = 0;
    private long traced = 0;

    public RegaliaVotes() {
        for (int i = 0; i < IMAGES; i++) {
            images[i] = new Moment();
        }
    }

    // ---- the council

    public int type(int letter) {
        if (letter < 0 || letter > 255) {
            return BAD;
        }
        if (letters >= MOST_LETTERS) {
            return FULL;
        }
        text[letters] = (char) letter;
        letters++;
        return letters;
    }

    public int clear() {
        int had = letters;
        letters = 0;
        return had;
    }

    public int council() {
        // A draft is read first, so that a fault leaves all as it was.
        int items = reader.readText(letters);
        if (items < 0) {
            return items;
        }
        told.copyFrom(draft);
        moment.beginWith(told);
        minutes.tearUp();
        past.lose();
        kept = 0;
        letters = 0;
        return items;
    }

    public int thing(int t, int what) {
        if (noThing(t)) {
            return BAD;
        }
        switch (what) {
            case 0: return told.sort[t];
            case 1: return told.votes[t];
            case 2: return told.forBills[t];
            case 3: return moment.holder[t];
            case 4: return bit(moment.wash, t);
            case 5: return bit(moment.turned, t);
            case 6: return moment.warmth[t];
            case 7: return bit(vote.voices(), t);
            default: return BAD;
        }
    }

    public int officer(int o, int what) {
        if (noOfficer(o)) {
            return BAD;
        }
        switch (what) {
            case 0: return bit(moment.sick, o);
            case 1: return vote.heldBy(1 << o);
            case 2: return vote.votesHeldBy(o);
            default: return BAD;
        }
    }

    public int bill(int b, int what) {
        if (noBill(b)) {
            return BAD;
        }
        int voices = vote.voices();
        int yes = vote.yesOf(b);
        switch (what) {
            case 0: return vote.votesOf(voices & yes);
            case 1: return vote.votesOf(voices & ~yes);
            case 2: return vote.passesBy(voices, yes) ? 1 : 0;
            case 3: return voices & yes;
            default: return BAD;
        }
    }

    public int now(int what) {
        switch (what) {
            case 0: return moment.put;
            case 1: return moment.passed;
            case 2: return vote.voices();
            case 3: return moment.sick;
            case 4: return vote.mostHolder();
            case 5: return past.known;
            default: return BAD;
        }
    }

    // ---- what is done

    public int puts(int b) {
        if (noBill(b)) {
            return BAD;
        }
        if (moment.put >= MOST_PUT) {
            return STATE;
        }
        past.remember(moment);
        int passes = vote.passes(b) ? 1 : 0;
        moment.put++;
        moment.passed += passes;
        moment.cool();
        return passes;
    }

    public int hands(int t, int o) {
        if (noThing(t) || noOfficer(o)) {
            return BAD;
        }
        past.remember(moment);
        int had = moment.holder[t];
        moment.holder[t] = o;
        return had;
    }

    public int washes(int t) {
        if (noThing(t)) {
            return BAD;
        }
        if (bit(moment.wash, t) == 1) {
            return STATE;
        }
        past.remember(moment);
        moment.wash |= 1 << t;
        return Integer.bitCount(moment.wash);
    }

    public int hangs(int t) {
        if (noThing(t)) {
            return BAD;
        }
        if (bit(moment.wash, t) == 0) {
            return STATE;
        }
        past.remember(moment);
        moment.wash &= ~(1 << t);
        if (told.sort[t] == SWORD) {
            moment.turned ^= 1 << t;
        }
        return bit(moment.turned, t);
    }

    public int warms(int t) {
        if (noThing(t)) {
            return BAD;
        }
        if (told.sort[t] != CROWN) {
            return STATE;
        }
        past.remember(moment);
        int left = moment.warmth[t];
        moment.warmth[t] = told.warmth;
        return left;
    }

    public int sickens(int o, int is) {
        if (noOfficer(o) || is < 0 || is > 1) {
            return BAD;
        }
        past.remember(moment);
        int was = bit(moment.sick, o);
        moment.sick = (moment.sick & ~(1 << o)) | (is << o);
        return was;
    }

    public int undo() {
        if (past.known == 0) {
            return STATE;
        }
        past.recall(moment);
        return past.known;
    }

    // ---- power

    public int power(int t, int what) {
        if (noThing(t) || noTerm(what)) {
            return BAD;
        }
        return term(powers.ordersDecided(t, vote.voices()), powers.orders(), what);
    }

    public int least(int what) {
        if (noTerm(what)) {
            return BAD;
        }
        return what == 0 ? powers.leastSets() : powers.firstLeastSet();
    }

    public int dummies() {
        return powers.powerless();
    }

    // ---- bills

    public int sways(int b) {
        if (noBill(b)) {
            return BAD;
        }
        return vote.swayers(b);
    }

    public int free() {
        int missed = vote.voices();
        for (int b = 0; b < BILLS; b++) {
            missed &= ~vote.swayers(b);
        }
        return missed;
    }

    public int turn(int b) {
        if (noBill(b)) {
            return BAD;
        }
        return vote.fewestTurned(b);
    }

    public int hand(int b) {
        if (noBill(b)) {
            return BAD;
        }
        return vote.fewestHanded(b);
    }

    public int swaps(int b) {
        if (noBill(b)) {
            return BAD;
        }
        return vote.changingSwaps(b);
    }

    // ---- the record

    public int record(int b, int passed) {
        if (noBill(b) || passed < 0 || passed > 1) {
            return BAD;
        }
        if (minutes.lines >= MOST_RECORD) {
            return FULL;
        }
        minutes.write(b, passed == 1);
        return minutes.lines;
    }

    public int forget() {
        int had = minutes.lines;
        minutes.tearUp();
        return had;
    }

    public int isFor(int t, int what) {
        if (noThing(t) || noTerm(what)) {
            return BAD;
        }
        return what == 0 ? minutes.possibleSets(t) : minutes.leastPossibleSet(t);
    }

    public int who() {
        return minutes.possiblySick();
    }

    public int odds(int b, int p, int what) {
        if (noBill(b) || p < 0 || p > 10 || noTerm(what)) {
            return BAD;
        }
        return term(vote.chancesToPass(b, p), vote.chances(), what);
    }

    // ---- kinds, images

    public int rate(int kind, int t) {
        if (noThing(t)) {
            return NO;
        }
        switch (kind) {
            case 0: return asThing(t);
            case 1: return asSceptre(t);
            case 2: return asOrb(t);
            case 3: return asRing(t);
            case 4: return asSeal(t);
            case 5: return asSpoon(t);
            default: return NO;
        }
    }

    public int keep(int image) {
        if (noImage(image)) {
            return BAD;
        }
        images[image].copyFrom(moment);
        kept |= 1 << image;
        return moment.put;
    }

    public int back(int image) {
        if (noImage(image)) {
            return BAD;
        }
        if (bit(kept, image) == 0) {
            return STATE;
        }
        moment.copyFrom(images[image]);
        past.lose();
        return moment.put;
    }

    public int count(int what) {
        switch (what) {
            case 0: return told.things;
            case 1: return told.officers;
            case 2: return told.warmth;
            case 3: return minutes.lines;
            case 4: return letters;
            default: return BAD;
        }
    }

    public long trace() {
        return traced;
    }

    // ---- the bodies of the kinds; each asks the one above it once

    private int asThing(int t) {
        traced += 1;
        return told.votes[t];
    }

    private int asSceptre(int t) {
        traced += 10;
        return asThing(t) + Integer.bitCount(told.forBills[t]);
    }

    private int asOrb(int t) {
        traced += 100;
        return asThing(t) - moment.warmth[t];
    }

    private int asRing(int t) {
        traced += 1000;
        return 2 * asSceptre(t);
    }

    private int asSeal(int t) {
        traced += 10000;
        return asOrb(t) + t;
    }

    private int asSpoon(int t) {
        traced += 100000;
        return asThing(t) + moment.put;
    }

    // ---- what is not as told

    private boolean noThing(int t) {
        return t < 0 || t >= told.things;
    }

    private boolean noOfficer(int o) {
        return o < 0 || o >= told.officers;
    }

    private static boolean noBill(int b) {
        return b < 0 || b >= BILLS;
    }

    private static boolean noTerm(int what) {
        return what < 0 || what > 1;
    }

    private static boolean noImage(int image) {
        return image < 0 || image >= IMAGES;
    }

    // ---- numbers and sets

    private static int bit(int set, int place) {
        return (set >> place) & 1;
    }

    private static boolean isWithin(int set, int all) {
        return (set & ~all) == 0;
    }

    /** The upper (0) or lower (1) number of a fraction in least terms. */
    private static int term(int upper, int lower, int what) {
        int common = commonDivisor(upper, lower);
        if (common == 0) {
            return what;
        }
        return what == 0 ? upper / common : lower / common;
    }

    private static int commonDivisor(int one, int other) {
        int greater = one;
        int smaller = other;
        // Each step at least halves the two within two rounds; 64 rounds are enough for any int.
        for (int round = 0; round < 64 && smaller != 0; round++) {
            int rest = greater % smaller;
            greater = smaller;
            smaller = rest;
        }
        return greater;
    }

    /** What the text tells. */
    private static final class Council {
        int things = 0;
        int officers = OFFICERS_AT_FIRST;
        int warmth = WARMTH_AT_FIRST;
        final int[] sort = new int[MOST_THINGS];
        final int[] votes = new int[MOST_THINGS];
        final int[] forBills = new int[MOST_THINGS];
        final int[] firstHolder = new int[MOST_THINGS];

        void beginAnew() {
            things = 0;
            officers = OFFICERS_AT_FIRST;
            warmth = WARMTH_AT_FIRST;
        }

        void addThing(int itsSort, int itsVotes, int itsBills, int itsHolder) {
            if (things >= MOST_THINGS) {
                return;
            }
            sort[things] = itsSort;
            votes[things] = itsVotes;
            forBills[things] = itsBills;
            firstHolder[things] = itsHolder;
            things++;
        }

        void copyFrom(Council other) {
            things = other.things;
            officers = other.officers;
            warmth = other.warmth;
            System.arraycopy(other.sort, 0, sort, 0, MOST_THINGS);
            System.arraycopy(other.votes, 0, votes, 0, MOST_THINGS);
            System.arraycopy(other.forBills, 0, forBills, 0, MOST_THINGS);
            System.arraycopy(other.firstHolder, 0, firstHolder, 0, MOST_THINGS);
        }
    }

    /** How things are at one time: all that can be undone and that an image keeps. */
    private static final class Moment {
        final int[] holder = new int[MOST_THINGS];
        final int[] warmth = new int[MOST_THINGS];
        int wash = 0;
        int turned = 0;
        int sick = 0;
        int put = 0;
        int passed = 0;

        void beginWith(Council told) {
            System.arraycopy(told.firstHolder, 0, holder, 0, MOST_THINGS);
            Arrays.fill(warmth, 0);
            wash = 0;
            turned = 0;
            sick = 0;
            put = 0;
            passed = 0;
        }

        void cool() {
            // Only crowns are ever warmed, so only they have warmth to lose.
            for (int t = 0; t < MOST_THINGS; t++) {
                if (warmth[t] > 0) {
                    warmth[t]--;
                }
            }
        }

        void copyFrom(Moment other) {
            System.arraycopy(other.holder, 0, holder, 0, MOST_THINGS);
            System.arraycopy(other.warmth, 0, warmth, 0, MOST_THINGS);
            wash = other.wash;
            turned = other.turned;
            sick = other.sick;
            put = other.put;
            passed = other.passed;
        }
    }

    /** The moments ahead of the latest deeds, in a ring: the eleventh takes the place of the oldest. */
    private static final class Past {
        private final Moment[] ring = new Moment[MOST_UNDONE];
        private int next = 0;
        int known = 0;

        Past() {
            for (int i = 0; i < MOST_UNDONE; i++) {
                ring[i] = new Moment();
            }
        }

        void remember(Moment moment) {
            ring[next].copyFrom(moment);
            next = next == MOST_UNDONE - 1 ? 0 : next + 1;
            known = Math.min(known + 1, MOST_UNDONE);
        }

        void recall(Moment moment) {
            if (known == 0) {
                return;
            }
            next = next == 0 ? MOST_UNDONE - 1 : next - 1;
            known--;
            moment.copyFrom(ring[next]);
        }

        void lose() {
            known = 0;
        }
    }

    /** Reads the text, token by token, up to its first fault. */
    private static final class Reader {
        private static final int NO_FAULT = -1;
        private static final int MOST_NUMBER = 31;
        // Tokens: a letter stands for itself; these three are no letters.
        private static final int END = -1;
        private static final int NUMBER = -2;
        private static final int WRONG = -3;

        private final char[] text;
        private final Council draft;
        private int length = 0;
        private int place = 0;
        private int token = END;
        private int tokenPlace = 0;
        private int number = 0;
        private int fault = NO_FAULT;
        private boolean warmthTold = false;

        Reader(char[] text, Council draft) {
            this.text = text;
            this.draft = draft;
        }

        /** Fills the draft: how many items there are, or -10 less the fault. */
        int readText(int letters) {
            begin(letters);
            int items = 0;
            // An item has two letters at the least, so the text's length bounds how many there are.
            while (token != END && fault == NO_FAULT && items <= MOST_LETTERS) {
                switch (token) {
                    case 'o': readOfficers(items); break;
                    case 't': readThing(); break;
                    case 'w': readWarmth(); break;
                    default: markFault(); break;
                }
                readItemEnd();
                items++;
                nextToken();
            }
            return fault == NO_FAULT ? items : -10 - fault;
        }

        private void begin(int letters) {
            length = Math.min(letters, text.length);
            place = 0;
            fault = NO_FAULT;
            warmthTold = false;
            draft.beginAnew();
            nextToken();
        }

        private void readItemEnd() {
            nextToken();
            if (token != ';') {
                markFault();
            }
        }

        private void readOfficers(int itemsAhead) {
            if (itemsAhead > 0) {
                markFault();
            }
            draft.officers = readNumber(1, MOST_OFFICERS);
        }

        private void readThing() {
            if (draft.things >= MOST_THINGS) {
                markFault();
            }
            int sort = readNumber(0, CUSHION);
            int votes = readNumber(1, MOST_VOTES);
            int bills = readNumber(0, SETS_OF_BILLS - 1);
            int holder = readNumber(0, draft.officers - 1);
            draft.addThing(sort, votes, bills, holder);
        }

        private void readWarmth() {
            if (warmthTold) {
                markFault();
            }
            warmthTold = true;
            draft.warmth = readNumber(0, MOST_WARMTH);
        }

        private int readNumber(int lowest, int highest) {
            nextToken();
            if (token != NUMBER || number < lowest || number > highest) {
                markFault();
                return lowest;
            }
            return number;
        }

        /** Only the first fault counts; what is read behind it is never used. */
        private void markFault() {
            if (fault == NO_FAULT) {
                fault = tokenPlace;
            }
        }

        private void nextToken() {
            while (place < length && text[place] == ' ') {
                place++;
            }
            tokenPlace = place;
            if (place >= length) {
                token = END;
            } else if (isDigit(text[place])) {
                takeDigits();
            } else {
                token = text[place];
                place++;
            }
        }

        private void takeDigits() {
            boolean zeroAhead = text[place] == '0';
            number = 0;
            while (place < length && isDigit(text[place])) {
                // Held just above the bound, as 200 digits would not go into an int.
                number = Math.min(number * 10 + (text[place] - '0'), MOST_NUMBER + 1);
                place++;
            }
            boolean isOverlong = zeroAhead && place - tokenPlace > 1;
            token = isOverlong || number > MOST_NUMBER ? WRONG : NUMBER;
        }

        private static boolean isDigit(char letter) {
            return letter >= '0' && letter <= '9';
        }
    }

    /** What the things say of a bill, as they are and as they might be. Sets of things are bits. */
    private static final class Vote {
        final Council told;
        private final Moment moment;

        Vote(Council told, Moment moment) {
            this.told = told;
            this.moment = moment;
        }

        /** Things that speak if they are held by somebody well. */
        private int able() {
            int set = 0;
            for (int t = 0; t < told.things; t++) {
                boolean isCold = told.sort[t] == CROWN && moment.warmth[t] == 0;
                if (told.sort[t] != CUSHION && !isCold) {
                    set |= 1 << t;
                }
            }
            return set & ~moment.wash;
        }

        int heldBy(int officers) {
            int set = 0;
            for (int t = 0; t < told.things; t++) {
                if (bit(officers, moment.holder[t]) == 1) {
                    set |= 1 << t;
                }
            }
            return set;
        }

        int voices() {
            return voicesIfSick(moment.sick);
        }

        int voicesIfSick(int sick) {
            return able() & ~heldBy(sick);
        }

        int votesOf(int set) {
            int sum = 0;
            for (int t = 0; t < told.things; t++) {
                if (bit(set, t) == 1) {
                    sum += told.votes[t];
                }
            }
            return sum;
        }

        /** All things that say yes of a bill whenever they speak. */
        int yesOf(int b) {
            int set = 0;
            for (int t = 0; t < told.things; t++) {
                set |= bit(told.forBills[t], b) << t;
            }
            return set ^ moment.turned;
        }

        /** The same, if a thing were for other bills than it is. */
        int yesIfFor(int b, int t, int bills) {
            int said = bit(bills, b) ^ bit(moment.turned, t);
            return (yesOf(b) & ~(1 << t)) | (said << t);
        }

        boolean passesBy(int voices, int yes) {
            return votesOf(voices & yes) > votesOf(voices & ~yes);
        }

        boolean passes(int b) {
            return passesBy(voices(), yesOf(b));
        }

        int votesHeldBy(int o) {
            return votesOf(voices() & heldBy(1 << o));
        }

        int mostHolder() {
            int best = 0;
            int bestVotes = votesHeldBy(0);
            for (int o = 1; o < told.officers; o++) {
                int votes = votesHeldBy(o);
                if (votes > bestVotes) {
                    best = o;
                    bestVotes = votes;
                }
            }
            return best;
        }

        int swayers(int b) {
            int voices = voices();
            int yes = yesOf(b);
            boolean passes = passesBy(voices, yes);
            int set = 0;
            for (int t = 0; t < told.things; t++) {
                int self = 1 << t;
                if ((voices & self) != 0 && passesBy(voices & ~self, yes) != passes) {
                    set |= self;
                }
            }
            return set;
        }

        int fewestTurned(int b) {
            int voices = voices();
            int yes = yesOf(b);
            int best = NONE;
            for (int set = 0; set < SETS_OF_THINGS; set++) {
                if (isWithin(set, voices) && isFewer(set, best) && passesBy(voices, yes ^ set)) {
                    best = set;
                }
            }
            return best;
        }

        int fewestHanded(int b) {
            int able = able();
            int voices = voices();
            int yes = yesOf(b);
            int movable = isAnyoneWell() ? heldBy(moment.sick) : 0;
            int best = NONE;
            for (int set = 0; set < SETS_OF_THINGS; set++) {
                if (isWithin(set, movable) && isFewer(set, best)
                        && passesBy(voices | (set & able), yes)) {
                    best = set;
                }
            }
            return best;
        }

        private boolean isAnyoneWell() {
            return Integer.bitCount(moment.sick) < told.officers;
        }

        /** Sets are tried from the least bits on, so an equal one never takes the place of the best. */
        private static boolean isFewer(int set, int best) {
            return best == NONE || Integer.bitCount(set) < Integer.bitCount(best);
        }

        int changingSwaps(int b) {
            int able = able();
            int well = ~heldBy(moment.sick);
            int yes = yesOf(b);
            boolean passes = passesBy(able & well, yes);
            int changes = 0;
            for (int t = 0; t < told.things; t++) {
                for (int u = t + 1; u < told.things; u++) {
                    int swapped = exchanged(well, t, u);
                    if (moment.holder[t] != moment.holder[u]
                            && passesBy(able & swapped, yes) != passes) {
                        changes++;
                    }
                }
            }
            return changes;
        }

        private static int exchanged(int set, int one, int other) {
            int unlike = bit(set, one) ^ bit(set, other);
            return set ^ (unlike << one) ^ (unlike << other);
        }

        /** Of so many equal chances (ten for each officer, for himself) ... */
        int chances() {
            int all = 1;
            for (int o = 0; o < told.officers; o++) {
                all *= 10;
            }
            return all;
        }

        /** ... in how many a bill passes, each officer being sick in p of his ten. */
        int chancesToPass(int b, int p) {
            int yes = yesOf(b);
            int sum = 0;
            for (int sick = 0; sick < (1 << told.officers); sick++) {
                if (passesBy(voicesIfSick(sick), yes)) {
                    sum += chancesOfSick(sick, p);
                }
            }
            return sum;
        }

        private int chancesOfSick(int sick, int p) {
            int product = 1;
            for (int o = 0; o < told.officers; o++) {
                product *= bit(sick, o) == 1 ? p : 10 - p;
            }
            return product;
        }
    }

    /** How much each voice decides, over all orders in which the voices can be asked. */
    private static final class Power {
        private static final int[] FACTORIAL = {1, 1, 2, 6, 24, 120, 720, 5040};

        private final Vote vote;

        Power(Vote vote) {
            this.vote = vote;
        }

        private static int ordersOf(int howMany) {
            return howMany < 0 || howMany >= FACTORIAL.length ? 0 : FACTORIAL[howMany];
        }

        private boolean carries(int set, int voices) {
            return 2 * vote.votesOf(set) > vote.votesOf(voices);
        }

        int orders() {
            return ordersOf(Integer.bitCount(vote.voices()));
        }

        /** A thing decides behind a set, if that does not carry without it and does with it. */
        int ordersDecided(int t, int voices) {
            int self = 1 << t;
            int others = voices & ~self;
            if (others == voices) {
                return 0;
            }
            int sum = 0;
            for (int set = 0; set < SETS_OF_THINGS; set++) {
                if (isWithin(set, others) && !carries(set, voices) && carries(set | self, voices)) {
                    sum += ordersOf(Integer.bitCount(set)) * ordersOf(Integer.bitCount(others & ~set));
                }
            }
            return sum;
        }

        int powerless() {
            int voices = vote.voices();
            int set = 0;
            for (int t = 0; t < MOST_THINGS; t++) {
                if (bit(voices, t) == 1 && ordersDecided(t, voices) == 0) {
                    set |= 1 << t;
                }
            }
            return set;
        }

        private boolean isLeast(int set, int voices) {
            if (!isWithin(set, voices) || !carries(set, voices)) {
                return false;
            }
            for (int t = 0; t < MOST_THINGS; t++) {
                if (bit(set, t) == 1 && carries(set & ~(1 << t), voices)) {
                    return false;
                }
            }
            return true;
        }

        int leastSets() {
            int voices = vote.voices();
            int sets = 0;
            for (int set = 0; set < SETS_OF_THINGS; set++) {
                if (isLeast(set, voices)) {
                    sets++;
                }
            }
            return sets;
        }

        int firstLeastSet() {
            int voices = vote.voices();
            for (int set = 0; set < SETS_OF_THINGS; set++) {
                if (isLeast(set, voices)) {
                    return set;
                }
            }
            return NONE;
        }
    }

    /** The record of bills that passed or did not, and what could have made it so. */
    private static final class Minutes {
        private final Vote vote;
        private final int[] bills = new int[MOST_RECORD];
        private final boolean[] outcomes = new boolean[MOST_RECORD];
        int lines = 0;

        Minutes(Vote vote) {
            this.vote = vote;
        }

        void write(int b, boolean passed) {
            if (lines >= MOST_RECORD) {
                return;
            }
            bills[lines] = b;
            outcomes[lines] = passed;
            lines++;
        }

        void tearUp() {
            lines = 0;
        }

        private boolean isSoIfFor(int t, int set, int voices) {
            for (int i = 0; i < lines; i++) {
                if (vote.passesBy(voices, vote.yesIfFor(bills[i], t, set)) != outcomes[i]) {
                    return false;
                }
            }
            return true;
        }

        private boolean isSoIfSick(int sick) {
            int voices = vote.voicesIfSick(sick);
            for (int i = 0; i < lines; i++) {
                if (vote.passesBy(voices, vote.yesOf(bills[i])) != outcomes[i]) {
                    return false;
                }
            }
            return true;
        }

        int possibleSets(int t) {
            int voices = vote.voices();
            int sets = 0;
            for (int set = 0; set < SETS_OF_BILLS; set++) {
                if (isSoIfFor(t, set, voices)) {
                    sets++;
                }
            }
            return sets;
        }

        int leastPossibleSet(int t) {
            int voices = vote.voices();
            for (int set = 0; set < SETS_OF_BILLS; set++) {
                if (isSoIfFor(t, set, voices)) {
                    return set;
                }
            }
            return NONE;
        }

        int possiblySick() {
            int officers = isSoIfSick(0) ? NOBODY : 0;
            for (int o = 0; o < vote.told.officers; o++) {
                if (isSoIfSick(1 << o)) {
                    officers |= 1 << o;
                }
            }
            return officers;
        }
    }
}
