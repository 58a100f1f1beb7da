/** The bounds that the document names of speaking, voting, deeds and undoing (promises 5 to 15), from both sides. */
public final class DeedsEdgesTest {
    private static final int STATE = RegaliaVotes.STATE;
    private static final int MOST_UNDONE = 10;

    public static void main(String[] args) {
        speaking();
        cushionNeverSpeaks();
        warmForSoManyBills();
        warmthAnewIsNotAdded();
        eachCrownCools();
        passingByOne();
        mostVotes();
        turnedAndNotAnyMore();
        putAndPassedAtFirst();
        washHoldsAll();
        sickAndWell();
        handedAround();
        mostOfSeveral();
        tenAreKnown();
        undoneAndDoneAgain();
        refusedIsNotKnown();
        nothingDoneIsUndone();
        Checks.end("DeedsEdgesTest");
    }

    // "A THING SPEAKS, if it is not in the WASH, who HOLDS it is not SICK, it is no CUSHION, and, if it is a
    // CROWN, it is WARM (not at first)": each of them alone
    private static void speaking() {
        for (int sort = 0; sort < 3; sort++) {
            RegaliaVotes x = Checks.told("o2;t" + sort + " 1 1 0;");
            if (sort == 1) {
                Checks.due("a CROWN is not WARM at first", x.thing(0, 7), 0);
                x.warms(0);
            }
            Checks.due("sort " + sort + " speaks", x.thing(0, 7), 1);
            x.washes(0);
            Checks.due("sort " + sort + " not from the WASH", x.thing(0, 7), 0);
            Checks.due("nor has it votes", x.bill(0, 0) + x.bill(0, 1), 0);
            x.hangs(0);
            Checks.due("sort " + sort + " again", x.thing(0, 7), 1);
            x.sickens(0, 1);
            Checks.due("sort " + sort + " not by the SICK", x.thing(0, 7), 0);
            x.hands(0, 1);
            Checks.due("sort " + sort + " by the well", x.thing(0, 7), 1);
            x.hands(0, 0);
            x.sickens(0, 0);
            Checks.due("sort " + sort + " by who is well again", x.thing(0, 7), 1);
            x.sickens(1, 1);
            Checks.due("sort " + sort + " if another is SICK", x.thing(0, 7), 1);
            Checks.due("a voice", x.now(2), 1);
        }
    }

    private static void cushionNeverSpeaks() {
        RegaliaVotes x = Checks.told("t3 9 31 0;");
        Checks.due("a CUSHION", x.thing(0, 7), 0);
        x.washes(0);
        Checks.due("hung: not TURNED", x.hangs(0), 0);
        Checks.due("a clean CUSHION", x.thing(0, 7), 0);
        Checks.due("it abstains from YES", x.bill(0, 0), 0);
        Checks.due("and from NO", x.bill(0, 1), 0);
        Checks.due("voices", x.now(2), 0);
    }

    // "WARMTH (0 .. 9; 2 at first): for so many BILLS a CROWN is warm, once it is warmed"
    private static void warmForSoManyBills() {
        for (int warmth = 0; warmth <= 9; warmth++) {
            warmFor(Checks.told("t1 1 1 0;w" + warmth + ";"), warmth);
        }
        warmFor(Checks.told("t1 1 1 0;"), 2);
    }

    private static void warmFor(RegaliaVotes x, int bills) {
        Checks.due("cold at first", x.puts(0), 0);
        Checks.due("warms(0)", x.warms(0), 0);
        for (int left = bills; left > 0; left--) {
            Checks.due("WARMTH left", x.thing(0, 6), left);
            Checks.due("it speaks", x.thing(0, 7), 1);
            Checks.due("puts(0)", x.puts(0), 1);
        }
        for (int more = 0; more < 3; more++) {
            Checks.due("no WARMTH left", x.thing(0, 6), 0);
            Checks.due("it does not speak", x.thing(0, 7), 0);
            Checks.due("puts(0)", x.puts(0), 0);
        }
        Checks.due("put", x.now(0), 4 + bills);
        Checks.due("passed", x.now(1), bills);
    }

    // "WARMED: a CROWN has WARMTH anew."
    private static void warmthAnewIsNotAdded() {
        RegaliaVotes x = Checks.told("t1 1 1 0;w9;");
        Checks.due("warms(0)", x.warms(0), 0);
        Checks.due("warms(0) again", x.warms(0), 9);
        Checks.due("not more than 9", x.thing(0, 6), 9);
        x.puts(0);
        Checks.due("warms(0) at 8", x.warms(0), 8);
        Checks.due("9 anew", x.thing(0, 6), 9);
        RegaliaVotes cold = Checks.told("t1 1 1 0;w0;");
        Checks.due("warms(0) by 0", cold.warms(0), 0);
        Checks.due("warms(0) by 0 again", cold.warms(0), 0);
        Checks.due("cold", cold.thing(0, 7), 0);
    }

    // "it PASSES or not ...; then each WARM CROWN has one BILL of WARMTH less."
    private static void eachCrownCools() {
        RegaliaVotes x = Checks.told("t1 1 1 0;t1 1 1 1;t1 1 1 2;t1 1 1 0;w2;");
        x.warms(0);
        x.puts(0);
        x.warms(1);
        x.warms(2);
        x.washes(2);
        Checks.due("0 and 1 speak still, then they cool", x.puts(0), 1);
        int[] left = {0, 1, 1, 0};
        for (int t = 0; t < 4; t++) {
            Checks.due("WARMTH left of " + t, x.thing(t, 6), left[t]);
        }
        Checks.due("voices", x.now(2), 2);
        Checks.due("a bill that does not pass cools, too", x.puts(1), 0);
        Checks.due("WARMTH left of 1", x.thing(1, 6), 0);
        Checks.due("a cold one stays at 0", x.thing(0, 6), 0);
        Checks.due("voices", x.now(2), 0);
    }

    // "A BILL PASSES, if YES is more than NO."
    private static void passingByOne() {
        for (int yes = 0; yes <= 9; yes++) {
            for (int no = 0; no <= 9; no++) {
                String text = (yes == 0 ? "" : "t0 " + yes + " 4 0;") + (no == 0 ? "" : "t0 " + no + " 0 1;");
                RegaliaVotes x = Checks.told(text);
                int passes = yes > no ? 1 : 0;
                Checks.due(yes + " to " + no + ": YES", x.bill(2, 0), yes);
                Checks.due(yes + " to " + no + ": NO", x.bill(2, 1), no);
                Checks.due(yes + " to " + no + " passes", x.bill(2, 2), passes);
                Checks.due(yes + " to " + no + " put", x.puts(2), passes);
                Checks.due(yes + " to " + no + " counted", x.now(1), passes);
            }
        }
    }

    private static void mostVotes() {
        RegaliaVotes x = Checks.told("t0 9 16 0;".repeat(7));
        Checks.due("YES", x.bill(4, 0), 63);
        Checks.due("NO", x.bill(4, 1), 0);
        Checks.due("NO of bill 3", x.bill(3, 1), 63);
        Checks.due("who say yes", x.bill(4, 3), 127);
        Checks.due("who say yes to bill 3", x.bill(3, 3), 0);
        Checks.due("all he holds", x.officer(0, 1), 127);
        Checks.due("votes of his", x.officer(0, 2), 63);
    }

    // "a SWORD is TURNED then, or not any more, if it was", "a TURNED one (not at first) the other way about"
    private static void turnedAndNotAnyMore() {
        RegaliaVotes x = Checks.told("t2 3 1 0;t0 1 1 0;t1 1 1 0;t3 1 1 0;");
        Checks.due("not at first", x.thing(0, 5), 0);
        for (int times = 1; times <= 5; times++) {
            Checks.due("washes(0)", x.washes(0), 1);
            Checks.due("only when it is HUNG", x.thing(0, 5), (times - 1) % 2);
            Checks.due("hangs(0)", x.hangs(0), times % 2);
            Checks.due("TURNED", x.thing(0, 5), times % 2);
            Checks.due("yes of bill 0", x.bill(0, 3), times % 2 == 0 ? 3 : 2);
            Checks.due("yes of bill 1", x.bill(1, 3), times % 2 == 0 ? 0 : 1);
            Checks.due("FOR stays", x.thing(0, 2), 1);
        }
        for (int t = 1; t < 4; t++) {
            x.washes(t);
            Checks.due("no SWORD: hangs(" + t + ")", x.hangs(t), 0);
            Checks.due("no SWORD: thing(" + t + ", 5)", x.thing(t, 5), 0);
        }
    }

    // "(counted: BILLS put, passed, 0 at first ...)"
    private static void putAndPassedAtFirst() {
        RegaliaVotes x = Checks.told("t0 1 17 0;");
        Checks.due("put at first", x.now(0), 0);
        Checks.due("passed at first", x.now(1), 0);
        int[] passed = {1, 1, 1, 1, 2};
        for (int b = 0; b < 5; b++) {
            Checks.due("puts(" + b + ")", x.puts(b), b == 0 || b == 4 ? 1 : 0);
            Checks.due("put", x.now(0), b + 1);
            Checks.due("passed", x.now(1), passed[b]);
        }
        Checks.due("puts(5)", x.puts(5), RegaliaVotes.BAD);
        Checks.due("puts(-1)", x.puts(-1), RegaliaVotes.BAD);
        Checks.due("put", x.now(0), 5);
    }

    // "how many are in the WASH"
    private static void washHoldsAll() {
        RegaliaVotes x = Checks.told("t0 1 1 0;".repeat(7));
        for (int t = 6; t >= 0; t--) {
            Checks.due("washes(" + t + ")", x.washes(t), 7 - t);
            Checks.due("voices", x.now(2), (1 << t) - 1);
        }
        Checks.due("washes(6) again", x.washes(6), STATE);
        Checks.due("hangs(6)", x.hangs(6), 0);
        Checks.due("voices", x.now(2), 64);
        Checks.due("washes(6)", x.washes(6), 7);
    }

    // "SICK (1), well (0): what he was."
    private static void sickAndWell() {
        RegaliaVotes x = Checks.told("o5;t0 1 1 4;");
        for (int o = 0; o < 5; o++) {
            Checks.due("well at first", x.officer(o, 0), 0);
            Checks.due("sickens(" + o + ", 1)", x.sickens(o, 1), 0);
            Checks.due("who is SICK", x.now(3), (2 << o) - 1);
        }
        for (int o = 4; o >= 0; o--) {
            Checks.due("sickens(" + o + ", 0)", x.sickens(o, 0), 1);
            Checks.due("who is SICK", x.now(3), (1 << o) - 1);
        }
        Checks.due("sickens(0, 2)", x.sickens(0, 2), RegaliaVotes.BAD);
        Checks.due("sickens(0, -1)", x.sickens(0, -1), RegaliaVotes.BAD);
        Checks.due("who is SICK", x.now(3), 0);
    }

    // "HANDED: who HELD it."
    private static void handedAround() {
        RegaliaVotes x = Checks.told("o5;" + "t0 1 1 0;".repeat(7));
        int had = 0;
        for (int o : new int[] {4, 0, 3, 3, 1, 2}) {
            Checks.due("hands(6, " + o + ")", x.hands(6, o), had);
            Checks.due("who HOLDS it", x.thing(6, 3), o);
            Checks.due("what he HOLDS", x.officer(o, 1), o == 0 ? 127 : 64);
            had = o;
        }
        Checks.due("hands(6, 5)", x.hands(6, 5), RegaliaVotes.BAD);
        Checks.due("hands(7, 0)", x.hands(7, 0), RegaliaVotes.BAD);
        Checks.due("who HOLDS it", x.thing(6, 3), 2);
        x.washes(0);
        Checks.due("out of the WASH's hands, too", x.hands(0, 4), 0);
        Checks.due("what he HOLDS", x.officer(4, 1), 1);
    }

    // "MOST: the OFFICER whose VOICES have most VOTES, of several the lowest."
    private static void mostOfSeveral() {
        Checks.due("no things", new RegaliaVotes().now(4), 0);
        RegaliaVotes x = Checks.told("o5;t0 2 1 4;t0 3 1 3;t0 3 1 2;t3 9 1 1;t1 9 1 0;");
        Checks.due("of 0, 0, 3, 3, 2", x.now(4), 2);
        x.sickens(2, 1);
        Checks.due("of 0, 0, -, 3, 2", x.now(4), 3);
        x.sickens(3, 1);
        Checks.due("of 0, 0, -, -, 2", x.now(4), 4);
        x.sickens(4, 1);
        Checks.due("of none", x.now(4), 0);
        x.sickens(0, 1);
        Checks.due("of none, 0 being SICK", x.now(4), 0);
        x.sickens(0, 0);
        x.warms(4);
        Checks.due("of 9", x.now(4), 0);
        for (int o = 0; o < 5; o++) {
            RegaliaVotes one = Checks.told("o5;t0 1 1 0;t0 1 1 1;t0 1 1 2;t0 1 1 3;t0 1 1 4;t0 1 0 " + o + ";");
            Checks.due("2 of " + o + ", 1 of the others", one.now(4), o);
            Checks.due("alone", Checks.told("o5;t0 1 1 " + o + ";").now(4), o);
        }
        RegaliaVotes last = Checks.told("o5;t0 1 1 4;t0 1 1 3;");
        Checks.due("of 1 and 1", last.now(4), 3);
        last.hands(1, 4);
        Checks.due("of 2", last.now(4), 4);
    }

    /** Deeds of all six kinds in turn, none of which is refused; each changes something. */
    private static void deed(RegaliaVotes x, int i) {
        int answer;
        switch (i % 7) {
            case 0: answer = x.warms(1); break;
            case 1: answer = x.puts(i % 5); break;
            case 2: answer = x.sickens(i % 3, (i / 7) % 2 == 0 ? 1 : 0); break;
            case 3: answer = x.washes(0); break;
            case 4: answer = x.hands(2, (i / 7 + 1) % 3); break;
            case 5: answer = x.hangs(0); break;
            default: answer = x.puts(0); break;
        }
        Checks.holds("deed " + i + " is not refused", answer >= 0);
    }

    private static RegaliaVotes behindDeeds(int howMany) {
        RegaliaVotes x = Checks.told("t2 3 1 0;t1 4 3 1;t0 2 5 2;w3;");
        for (int i = 0; i < howMany; i++) {
            deed(x, i);
        }
        return x;
    }

    /** All that is NOW, but not how much can be undone. */
    private static String state(RegaliaVotes x) {
        StringBuilder seen = new StringBuilder();
        for (int what = 0; what < 5; what++) {
            seen.append(x.now(what)).append(' ');
        }
        for (int t = 0; t < 3; t++) {
            for (int what = 3; what < 8; what++) {
                seen.append(x.thing(t, what)).append(' ');
            }
        }
        return seen.toString();
    }

    // "UNDONE: the latest ... (10 are known, older ones are lost)": from none to thirty deeds, so that the
    // places of the ten are used again
    private static void tenAreKnown() {
        for (int deeds = 0; deeds <= 30; deeds++) {
            RegaliaVotes x = behindDeeds(deeds);
            int known = Math.min(deeds, MOST_UNDONE);
            Checks.due(deeds + " deeds: known", x.now(5), known);
            for (int undone = 1; undone <= known; undone++) {
                Checks.due(deeds + " deeds: undo()", x.undo(), known - undone);
                Checks.due(deeds + " deeds: known then", x.now(5), known - undone);
                String want = state(behindDeeds(deeds - undone));
                Checks.holds(deeds + " deeds, " + undone + " undone", state(x).equals(want));
            }
            Checks.due(deeds + " deeds: none", x.undo(), STATE);
            Checks.holds(deeds + " deeds: older ones are lost", state(x).equals(state(behindDeeds(deeds - known))));
        }
    }

    private static void undoneAndDoneAgain() {
        for (int undone = 0; undone <= MOST_UNDONE; undone++) {
            RegaliaVotes x = behindDeeds(17);
            for (int i = 0; i < undone; i++) {
                x.undo();
            }
            for (int i = 17 - undone; i < 24; i++) {
                deed(x, i);
            }
            Checks.holds("as if done once", Sight.of(x).equals(Sight.of(behindDeeds(24))));
            for (int left = 9; left >= 0; left--) {
                Checks.due("undo()", x.undo(), left);
            }
            Checks.due("undo() of none", x.undo(), STATE);
            Checks.holds("ten back", state(x).equals(state(behindDeeds(14))));
        }
        RegaliaVotes x = behindDeeds(12);
        x.undo();
        x.undo();
        deed(x, 10);
        Checks.due("eight and one are known", x.now(5), 9);
    }

    // "that was not refused"
    private static void refusedIsNotKnown() {
        RegaliaVotes x = behindDeeds(2);
        x.puts(5);
        x.hands(3, 0);
        x.washes(3);
        x.hangs(0);
        x.warms(0);
        x.sickens(0, 2);
        Checks.due("known", x.now(5), 2);
        Checks.due("undo() of the last that was not refused", x.undo(), 1);
        Checks.holds("one back", Sight.of(x).equals(Sight.of(behindDeeds(1))));
    }

    // What changes nothing, but is not refused, is UNDONE, too. What is no deed is not.
    private static void nothingDoneIsUndone() {
        RegaliaVotes x = behindDeeds(1);
        x.hands(0, 0);
        x.sickens(0, 0);
        x.warms(1);
        Checks.due("three more are known", x.now(5), 4);
        x.record(0, 1);
        x.keep(0);
        x.rate(0, 0);
        x.type('w');
        x.council();
        x.clear();
        x.forget();
        Checks.due("no more", x.now(5), 4);
        for (int left = 3; left >= 0; left--) {
            Checks.due("undo()", x.undo(), left);
        }
        Checks.due("none", x.undo(), STATE);
    }
}
