/** The bounds that the document names of power, bills and the record (promises 16 to 28), from both sides. */
public final class ReckoningEdgesTest {
    private static final int NONE = RegaliaVotes.NONE;
    private static final int FULL = RegaliaVotes.FULL;

    public static void main(String[] args) {
        moreThanHalf();
        powerOfWhoDoesNotSpeak();
        powerOfOneAndOfSeven();
        powersAreOneTogether();
        leastSets();
        dummiesByOneVote();
        swaysByOneVote();
        missedOfEveryBill();
        turnedByOneVote();
        turnNone();
        handedByOneVote();
        handNone();
        swapsOfUnlikeHolders();
        sixOfTheRecord();
        isForFromAllToNone();
        isForOfTurned();
        isForOfWhoDoesNotSpeak();
        whoFromAllToNone();
        recordOfNow();
        oddsByP();
        oddsInLeastTerms();
        Checks.end("ReckoningEdgesTest");
    }

    private static void power(RegaliaVotes x, int t, int upper, int lower) {
        Checks.due("power(" + t + ", 0)", x.power(t, 0), upper);
        Checks.due("power(" + t + ", 1)", x.power(t, 1), lower);
    }

    // "a set of them CARRIES, if its VOTES are more than half of the VOTES of all VOICES"
    private static void moreThanHalf() {
        RegaliaVotes half = Checks.told("t0 4 0 0;t0 4 0 0;");
        power(half, 0, 1, 2);
        power(half, 1, 1, 2);
        Checks.due("half is not enough: least(0)", half.least(0), 1);
        Checks.due("half is not enough: least(1)", half.least(1), 3);
        Checks.due("half is not enough: dummies()", half.dummies(), 0);
        RegaliaVotes more = Checks.told("t0 5 0 0;t0 4 0 0;");
        power(more, 0, 1, 1);
        power(more, 1, 0, 1);
        Checks.due("one more is: least(0)", more.least(0), 1);
        Checks.due("one more is: least(1)", more.least(1), 1);
        Checks.due("one more is: dummies()", more.dummies(), 2);
        RegaliaVotes less = Checks.told("t0 4 0 0;t0 5 0 0;");
        power(less, 0, 0, 1);
        Checks.due("one less is not: least(1)", less.least(1), 2);
        Checks.due("one less is not: dummies()", less.dummies(), 1);
    }

    // "a fraction (0 by 1, if it does not SPEAK)": for each of the reasons; its VOTES do not count, either
    private static void powerOfWhoDoesNotSpeak() {
        RegaliaVotes x = Checks.told("t0 9 0 0;t0 9 0 1;t1 9 0 0;t3 9 0 0;t0 1 0 2;");
        x.washes(0);
        x.sickens(1, 1);
        for (int t = 0; t < 4; t++) {
            power(x, t, 0, 1);
        }
        power(x, 4, 1, 1);
        Checks.due("the only voice carries", x.least(1), 16);
        Checks.due("who does not speak is no dummy", x.dummies(), 0);
        x.sickens(2, 1);
        power(x, 4, 0, 1);
        Checks.due("no voices", x.now(2), 0);
        Checks.due("no voices: least(0)", x.least(0), 0);
        Checks.due("no voices: least(1)", x.least(1), NONE);
        Checks.due("no voices: dummies()", x.dummies(), 0);
    }

    private static void powerOfOneAndOfSeven() {
        for (int things = 1; things <= 7; things++) {
            RegaliaVotes x = Checks.told("t0 9 0 0;".repeat(things));
            for (int t = 0; t < things; t++) {
                power(x, t, 1, things);
            }
            Checks.due("one more", x.power(things, 0), RegaliaVotes.BAD);
        }
        RegaliaVotes last = Checks.told("t0 1 0 0;".repeat(6) + "t0 7 0 0;");
        power(last, 6, 1, 1);
        power(last, 0, 0, 1);
        RegaliaVotes nearly = Checks.told("t0 1 0 0;".repeat(6) + "t0 6 0 0;");
        // 6 of 12 do not carry alone: it decides at every place but the first, 6 of 7.
        power(nearly, 6, 6, 7);
        power(nearly, 0, 1, 42);
    }

    private static void powersAreOneTogether() {
        String[] texts = {"t0 1 0 0;t0 2 0 0;t0 3 0 0;t0 4 0 0;t0 5 0 0;t0 6 0 0;t0 7 0 0;",
            "t0 9 0 0;t0 8 0 0;t0 1 0 0;t0 1 0 0;t0 5 0 0;", "t0 3 0 0;t0 3 0 0;t0 2 0 0;t3 2 0 0;"};
        for (String text : texts) {
            RegaliaVotes x = Checks.told(text);
            int sum = 0;
            for (int t = 0; t < x.count(0); t++) {
                Checks.due("5040 by a lower number", 5040 % x.power(t, 1), 0);
                sum += x.power(t, 0) * (5040 / x.power(t, 1));
            }
            Checks.due("all powers of " + text, sum, 5040);
        }
    }

    // "LEAST: ... how many; the least bits; NONE"
    private static void leastSets() {
        int[] howMany = {0, 1, 1, 3, 4, 10, 15, 35};
        int[] first = {NONE, 1, 3, 3, 7, 7, 15, 15};
        for (int things = 0; things <= 7; things++) {
            RegaliaVotes x = Checks.told("t0 1 0 0;".repeat(things));
            Checks.due(things + " alike: least(0)", x.least(0), howMany[things]);
            Checks.due(things + " alike: least(1)", x.least(1), first[things]);
        }
        RegaliaVotes last = Checks.told("t3 1 0 0;".repeat(6) + "t0 1 0 0;");
        Checks.due("the last thing alone: least(0)", last.least(0), 1);
        Checks.due("the last thing alone: least(1)", last.least(1), 64);
        RegaliaVotes all = Checks.told("t0 9 0 0;t0 9 0 0;");
        Checks.due("all are needed", all.least(1), 3);
        // 5, 5 and 5 carry by twos; with the first thing, of 1, too, but that is not needed.
        RegaliaVotes needless = Checks.told("t0 1 0 0;t0 5 0 0;t0 5 0 0;t0 5 0 0;");
        Checks.due("without any needless one: least(0)", needless.least(0), 3);
        Checks.due("without any needless one: least(1)", needless.least(1), 6);
        // The least bits, not the fewest: 0 with 1 and 2 (3 of 5) comes ahead of 3 with any (3 of 5).
        RegaliaVotes bits = Checks.told("t0 1 0 0;t0 1 0 0;t0 1 0 0;t0 2 0 0;");
        Checks.due("the least bits: least(0)", bits.least(0), 4);
        Checks.due("the least bits: least(1)", bits.least(1), 7);
    }

    // "DUMMIES: VOICES (bits) of no POWER"
    private static void dummiesByOneVote() {
        Checks.due("3 beside 1, 1, 1", Checks.told("t0 3 0 0;t0 1 0 0;t0 1 0 0;t0 1 0 0;").dummies(), 0);
        Checks.due("4 beside 1, 1, 1", Checks.told("t0 4 0 0;t0 1 0 0;t0 1 0 0;t0 1 0 0;").dummies(), 14);
        Checks.due("6 beside six", Checks.told("t0 6 0 0;" + "t0 1 0 0;".repeat(6)).dummies(), 0);
        Checks.due("7 beside six", Checks.told("t0 7 0 0;" + "t0 1 0 0;".repeat(6)).dummies(), 126);
        Checks.due("one alone", Checks.told("t0 1 0 0;").dummies(), 0);
    }

    // "SWAYS of a BILL: VOICES (bits) without each of which, alone, it would not stand as it does"
    private static void swaysByOneVote() {
        RegaliaVotes passes = Checks.told("t0 3 1 0;t0 2 1 0;t0 2 0 0;t3 9 0 0;");
        Checks.due("5 to 2: without 3 a tie, without 2 by one", passes.sways(0), 1);
        RegaliaVotes fails = Checks.told("t0 2 1 0;t0 2 0 0;t0 1 0 0;");
        Checks.due("2 to 3: without 2 by one, without 1 a tie", fails.sways(0), 2);
        RegaliaVotes tie = Checks.told("t0 2 1 0;t0 1 0 0;t0 1 0 0;");
        Checks.due("2 to 2: without either no", tie.sways(0), 6);
        RegaliaVotes byOne = Checks.told("t0 1 1 0;t0 1 1 0;t0 1 0 0;");
        Checks.due("2 to 1: without either yes", byOne.sways(0), 3);
        RegaliaVotes alone = Checks.told("t0 1 1 0;");
        Checks.due("1 to 0", alone.sways(0), 1);
        Checks.due("0 to 1", alone.sways(1), 0);
        Checks.due("no voices", new RegaliaVotes().sways(0), 0);
        RegaliaVotes last = Checks.told("t0 1 0 0;".repeat(6) + "t0 7 16 0;");
        Checks.due("the last thing of the last bill", last.sways(4), 64);
        last.washes(6);
        Checks.due("not if it does not speak", last.sways(4), 0);
    }

    // "FREE: VOICES (bits) each of which can be missed, alone, of every BILL 0 .. 4"
    private static void missedOfEveryBill() {
        for (int bills = 0; bills < 32; bills++) {
            RegaliaVotes x = Checks.told("t0 1 " + bills + " 0;");
            Checks.due("alone and FOR " + bills, x.free(), bills == 0 ? 1 : 0);
        }
        for (int b = 0; b < 5; b++) {
            RegaliaVotes x = Checks.told("t0 1 " + (1 << b) + " 0;t0 2 0 0;t0 2 0 0;");
            Checks.due("1 to 4 of bill " + b + ": all", x.free(), 7);
            x.washes(1);
            Checks.due("1 to 2 of bill " + b + ": not the no", x.free(), 1);
            x.washes(2);
            Checks.due("1 to 0 of bill " + b + ": none", x.free(), 0);
            x.washes(0);
            Checks.due("no voices", x.free(), 0);
        }
        Checks.due("seven", Checks.told("t0 9 0 0;".repeat(7)).free(), 127);
        // Of a BILL below 0 or above 4 a TURNED one, FOR all five, would say yes; there is none.
        RegaliaVotes sword = Checks.told("t2 1 31 0;");
        Checks.due("FOR all", sword.free(), 0);
        sword.washes(0);
        sword.hangs(0);
        Checks.due("TURNED, and so for none of the five", sword.free(), 1);
    }

    // "TURN for a BILL: the fewest VOICES (bits; of as few the least) that must say the other thing"
    private static void turnedByOneVote() {
        int[] turned = {NONE, 1, 3, 3, 7, 7, 15, 15};
        for (int things = 0; things <= 7; things++) {
            RegaliaVotes x = Checks.told("t0 1 0 0;".repeat(things));
            Checks.due(things + " say no", x.turn(0), turned[things]);
        }
        Checks.due("2 to 1", Checks.told("t0 2 1 0;t0 1 0 0;").turn(0), 0);
        Checks.due("2 to 2", Checks.told("t0 2 1 0;t0 2 0 0;").turn(0), 2);
        Checks.due("1 to 2", Checks.told("t0 1 1 0;t0 2 0 0;").turn(0), 2);
        Checks.due("fewest, not least: 8 rather than 7", Checks.told("t0 1 0 0;t0 1 0 0;t0 1 0 0;t0 4 0 0;").turn(0), 8);
        Checks.due("a tie is not enough", Checks.told("t0 1 0 0;t0 1 0 0;t0 1 0 0;t0 3 0 0;").turn(0), 9);
        Checks.due("of as few the least", Checks.told("t0 1 1 0;t0 2 0 0;t0 2 0 0;t0 2 0 0;").turn(0), 6);
        Checks.due("seven of nine", Checks.told("t0 9 0 0;".repeat(7)).turn(4), 15);
        RegaliaVotes sword = Checks.told("t2 1 1 0;");
        sword.washes(0);
        sword.hangs(0);
        Checks.due("a TURNED one the other way", sword.turn(0), 1);
        Checks.due("a TURNED one that says yes", sword.turn(1), 0);
    }

    // "NONE": no VOICES; any VOICE is enough
    private static void turnNone() {
        Checks.due("no things", new RegaliaVotes().turn(0), NONE);
        RegaliaVotes x = Checks.told("o1;t3 9 31 0;t1 9 31 0;t0 1 0 0;");
        Checks.due("one voice", x.turn(0), 4);
        x.washes(2);
        Checks.due("no voice", x.turn(0), NONE);
        x.warms(1);
        Checks.due("a warm crown", x.turn(0), 0);
        x.sickens(0, 1);
        Checks.due("all are SICK", x.turn(0), NONE);
    }

    // "HAND for a BILL: the fewest THINGS (bits; of as few the least) that are HELD by who is SICK to be
    // HANDED to one who is well, so that it PASSES"
    private static void handedByOneVote() {
        RegaliaVotes tie = Checks.told("o2;t0 2 0 0;t0 2 1 1;");
        tie.sickens(1, 1);
        Checks.due("2 to 2 is not enough", tie.hand(0), NONE);
        RegaliaVotes more = Checks.told("o2;t0 2 0 0;t0 3 1 1;");
        Checks.due("it PASSES as it is", more.hand(0), 0);
        more.sickens(1, 1);
        Checks.due("3 to 2 is", more.hand(0), 2);
        Checks.due("but not for bill 1", more.hand(1), NONE);
        RegaliaVotes fewest = Checks.told("o5;t0 3 0 0;t0 2 1 1;t0 2 1 2;t0 1 1 3;t0 4 1 4;");
        for (int o = 1; o < 5; o++) {
            fewest.sickens(o, 1);
        }
        Checks.due("fewest, not least: 16 rather than 6", fewest.hand(0), 16);
        fewest.washes(4);
        Checks.due("not from the WASH", fewest.hand(0), 6);
        fewest.washes(1);
        Checks.due("2 and 1 to 3 is not enough", fewest.hand(0), NONE);
        fewest.washes(0);
        Checks.due("of as few the least", fewest.hand(0), 4);
        RegaliaVotes last = Checks.told("o5;" + "t0 1 0 0;".repeat(6) + "t0 7 1 4;");
        last.sickens(4, 1);
        Checks.due("the last thing", last.hand(0), 64);
    }

    // "NONE (all are SICK, too, if it does not PASS as it is)"
    private static void handNone() {
        Checks.due("no things", new RegaliaVotes().hand(0), NONE);
        RegaliaVotes nobody = Checks.told("t0 1 0 0;");
        Checks.due("nobody is SICK, it does not PASS", nobody.hand(0), NONE);
        for (int officers = 1; officers <= 5; officers++) {
            RegaliaVotes x = Checks.told("o" + officers + ";t0 1 1 0;");
            Checks.due("it PASSES", x.hand(0), 0);
            for (int o = 0; o < officers - 1; o++) {
                x.sickens(o, 1);
            }
            Checks.due("one is well", x.hand(0), officers == 1 ? 0 : 1);
            x.sickens(officers - 1, 1);
            Checks.due("all are SICK", x.hand(0), NONE);
        }
        RegaliaVotes dumb = Checks.told("o2;t3 9 1 1;t1 9 1 1;t0 9 1 1;");
        dumb.sickens(1, 1);
        dumb.washes(2);
        Checks.due("handed, they would not speak", dumb.hand(0), NONE);
        dumb.warms(1);
        Checks.due("a warm CROWN would", dumb.hand(0), 2);
    }

    // "SWAPS of a BILL: how many of the twos of THINGS, of unlike holders, that, their holders exchanged, change
    // whether it PASSES"
    private static void swapsOfUnlikeHolders() {
        Checks.due("no things", new RegaliaVotes().swaps(0), 0);
        Checks.due("one thing", Checks.told("t0 1 1 0;").swaps(0), 0);
        RegaliaVotes two = Checks.told("t0 2 1 0;t0 1 0 1;");
        Checks.due("both well", two.swaps(0), 0);
        two.sickens(0, 1);
        Checks.due("no alone, yes alone", two.swaps(0), 1);
        two.hands(0, 1);
        Checks.due("of like holders", two.swaps(0), 0);
        two.hands(0, 0);
        two.hands(1, 0);
        Checks.due("of like holders who are SICK", two.swaps(0), 0);
        // Things 0 to 3 with who is SICK, for bill 0; 4 to 6 with the well, against it.
        RegaliaVotes many = Checks.told("o2;" + "t0 9 1 0;".repeat(4) + "t0 1 0 1;".repeat(3));
        many.sickens(0, 1);
        Checks.due("four by three", many.swaps(0), 12);
        Checks.due("of bill 1 none", many.swaps(1), 0);
        many.hands(6, 0);
        Checks.due("five by two, but one is against it, too", many.swaps(0), 8);
        RegaliaVotes both = Checks.told("t0 1 1 0;t0 1 1 1;t0 1 0 2;");
        both.sickens(0, 1);
        both.sickens(1, 1);
        Checks.due("of two who are both SICK no change", both.swaps(0), 2);
    }

    // "RECORD (6 at most): a BILL PASSED (1), or did not (0)"
    private static void sixOfTheRecord() {
        RegaliaVotes x = Checks.told("t0 1 31 0;");
        for (int i = 1; i <= 6; i++) {
            Checks.due("record " + i, x.record(4, 1), i);
            Checks.due("count(3)", x.count(3), i);
        }
        Checks.due("the seventh", x.record(4, 0), FULL);
        Checks.due("BAD is ahead of FULL", x.record(4, 2), RegaliaVotes.BAD);
        Checks.due("BAD is ahead of FULL", x.record(5, 1), RegaliaVotes.BAD);
        Checks.due("count(3)", x.count(3), 6);
        Checks.due("the seventh does not count", x.isFor(0, 0), 16);
        Checks.due("forget()", x.forget(), 6);
        Checks.due("forget() of none", x.forget(), 0);
        Checks.due("record 1", x.record(4, 0), 1);
        Checks.due("older ones do not count", x.isFor(0, 0), 16);
        Checks.due("older ones do not count", x.isFor(0, 1), 0);
        // The sixth counts as the first does.
        for (int i = 0; i < 4; i++) {
            x.record(4, 0);
        }
        Checks.due("five of one kind", x.isFor(0, 0), 16);
        x.record(4, 1);
        Checks.due("the sixth against them", x.isFor(0, 0), 0);
    }

    // "IS FOR of a THING: sets of BILLS (0 .. 31) ...: how many; the least; NONE"
    private static void isForFromAllToNone() {
        RegaliaVotes x = Checks.told("t0 1 9 0;");
        int[] sets = {32, 16, 8, 4, 2, 1};
        int[] least = {0, 1, 3, 7, 15, 31};
        for (int b = 0; b <= 5; b++) {
            Checks.due(b + " passed: isFor(0, 0)", x.isFor(0, 0), sets[b]);
            Checks.due(b + " passed: isFor(0, 1)", x.isFor(0, 1), least[b]);
            if (b < 5) {
                x.record(b, 1);
            }
        }
        x.record(0, 0);
        Checks.due("against itself: isFor(0, 0)", x.isFor(0, 0), 0);
        Checks.due("against itself: isFor(0, 1)", x.isFor(0, 1), NONE);
        x.forget();
        for (int b = 0; b < 5; b++) {
            x.record(b, 0);
        }
        Checks.due("none passed: isFor(0, 0)", x.isFor(0, 0), 1);
        Checks.due("none passed: isFor(0, 1)", x.isFor(0, 1), 0);
        Checks.due("what it is FOR stays", x.thing(0, 2), 9);
        // By one vote: 2 with 1 to 3 is a tie.
        RegaliaVotes tie = Checks.told("t0 2 0 0;t0 1 1 0;t0 3 0 0;");
        tie.record(0, 1);
        Checks.due("a tie: isFor(0, 0)", tie.isFor(0, 0), 0);
        Checks.due("3 of 6 are not enough: isFor(1, 0)", tie.isFor(1, 0), 0);
        Checks.due("4 to 2: isFor(2, 0)", tie.isFor(2, 0), 16);
    }

    // "a TURNED one (not at first) the other way about": what it could be FOR, too
    private static void isForOfTurned() {
        RegaliaVotes x = Checks.told("t2 1 0 0;");
        x.washes(0);
        x.hangs(0);
        for (int b = 0; b <= 5; b++) {
            Checks.due(b + " passed by a TURNED one: isFor(0, 0)", x.isFor(0, 0), 32 >> b);
            Checks.due(b + " passed by a TURNED one: isFor(0, 1)", x.isFor(0, 1), 0);
            if (b < 5) {
                x.record(b, 1);
            }
        }
        x.forget();
        for (int b = 0; b < 5; b++) {
            x.record(b, 0);
        }
        Checks.due("none passed by a TURNED one: isFor(0, 0)", x.isFor(0, 0), 1);
        Checks.due("none passed by a TURNED one: isFor(0, 1)", x.isFor(0, 1), 31);
    }

    private static void isForOfWhoDoesNotSpeak() {
        RegaliaVotes x = Checks.told("t3 1 0 0;t0 1 1 1;");
        x.record(0, 1);
        x.record(1, 0);
        Checks.due("all is so by the other: isFor(0, 0)", x.isFor(0, 0), 32);
        Checks.due("all is so by the other: isFor(0, 1)", x.isFor(0, 1), 0);
        x.record(2, 1);
        Checks.due("it is not so by the other: isFor(0, 0)", x.isFor(0, 0), 0);
        Checks.due("it is not so by the other: isFor(0, 1)", x.isFor(0, 1), NONE);
    }

    // "WHO was SICK: OFFICERS (bits) of whom, if just he had been SICK, all of the RECORD is so (32: if nobody
    // had been)"
    private static void whoFromAllToNone() {
        for (int officers = 1; officers <= 5; officers++) {
            RegaliaVotes x = Checks.told("o" + officers + ";t0 1 1 " + (officers - 1) + ";");
            Checks.due("no RECORD: all", x.who(), 32 + (1 << officers) - 1);
            x.record(0, 1);
            Checks.due("all but the holder", x.who(), 32 + (1 << (officers - 1)) - 1);
            x.forget();
            x.record(0, 0);
            Checks.due("just the holder", x.who(), 1 << (officers - 1));
            for (int o = 0; o < officers; o++) {
                x.sickens(o, 1);
            }
            Checks.due("whoever is SICK NOW", x.who(), 1 << (officers - 1));
            x.record(0, 1);
            Checks.due("against itself", x.who(), 0);
        }
    }

    // "all else as it is NOW": when it is asked, not when it was recorded
    private static void recordOfNow() {
        RegaliaVotes x = Checks.told("t0 2 0 0;t2 3 0 1;");
        x.record(0, 1);
        Checks.due("3 say no: isFor(0, 0)", x.isFor(0, 0), 0);
        x.washes(1);
        Checks.due("in the WASH: isFor(0, 0)", x.isFor(0, 0), 16);
        x.hangs(1);
        Checks.due("TURNED: isFor(0, 0)", x.isFor(0, 0), 32);
        Checks.due("TURNED: who()", x.who(), 32 + 4 + 1);
        x.undo();
        Checks.due("undone: isFor(0, 0)", x.isFor(0, 0), 16);
        Checks.due("undone: the RECORD stays", x.count(3), 1);
    }

    // "ODDS of a BILL by p (0 .. 10): each OFFICER is SICK by p of 10"
    private static void oddsByP() {
        int[] upper = {1, 9, 4, 7, 3, 1, 2, 3, 1, 1, 0};
        int[] lower = {1, 10, 5, 10, 5, 2, 5, 10, 5, 10, 1};
        for (int officers = 1; officers <= 5; officers++) {
            RegaliaVotes x = Checks.told("o" + officers + ";t0 1 16 " + (officers - 1) + ";");
            for (int p = 0; p <= 10; p++) {
                Checks.due("odds(4, " + p + ", 0)", x.odds(4, p, 0), upper[p]);
                Checks.due("odds(4, " + p + ", 1)", x.odds(4, p, 1), lower[p]);
                Checks.due("odds(3, " + p + ", 0)", x.odds(3, p, 0), 0);
                Checks.due("odds(3, " + p + ", 1)", x.odds(3, p, 1), 1);
            }
            Checks.due("p = -1", x.odds(4, -1, 0), RegaliaVotes.BAD);
            Checks.due("p = 11", x.odds(4, 11, 0), RegaliaVotes.BAD);
            for (int o = 0; o < officers; o++) {
                x.sickens(o, 1);
            }
            Checks.due("whatever he is NOW", x.odds(4, 1, 0), 9);
            Checks.due("it does not pass NOW", x.bill(4, 2), 0);
        }
    }

    private static void oddsInLeastTerms() {
        // It passes if somebody is well: 1 less p of 10 five times.
        RegaliaVotes some = Checks.told("o5;t0 1 1 0;t0 1 1 1;t0 1 1 2;t0 1 1 3;t0 1 1 4;");
        int[] upper = {1, 99999, 3124, 99757, 3093, 31, 2882, 83193, 2101, 40951, 0};
        int[] lower = {1, 100000, 3125, 100000, 3125, 32, 3125, 100000, 3125, 100000, 1};
        for (int p = 0; p <= 10; p++) {
            Checks.due("odds(0, " + p + ", 0)", some.odds(0, p, 0), upper[p]);
            Checks.due("odds(0, " + p + ", 1)", some.odds(0, p, 1), lower[p]);
        }
        // It passes if 0 is well and 1 is SICK, as 1 to 1 is a tie.
        RegaliaVotes tie = Checks.told("o2;t0 1 1 0;t0 1 0 1;");
        Checks.due("a tie: odds(0, 2, 0)", tie.odds(0, 2, 0), 4);
        Checks.due("a tie: odds(0, 2, 1)", tie.odds(0, 2, 1), 25);
        Checks.due("no things: odds(0, 5, 0)", new RegaliaVotes().odds(0, 5, 0), 0);
        Checks.due("no things: odds(0, 5, 1)", new RegaliaVotes().odds(0, 5, 1), 1);
    }
}
