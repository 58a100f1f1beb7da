/** The bounds that the document names of the text and of what it tells (promises 1 to 4), each from both sides. */
public final class TextEdgesTest {
    private static final int BAD = RegaliaVotes.BAD;
    private static final int FULL = RegaliaVotes.FULL;
    private static final String THING = "t0 1 0 0;";

    public static void main(String[] args) {
        newObject();
        letters();
        twoHundredLetters();
        fullTexts();
        textGoesOn();
        textIsEmptyThen();
        sevenThings();
        sorts();
        votes();
        bills();
        officers();
        holders();
        warmths();
        numbersThatWrapAround();
        zerosAhead();
        blanks();
        everyLetter();
        noItems();
        officersFirstOfAll();
        warmthOnce();
        firstFaultCounts();
        endsTooEarly();
        asAtFirst();
        Checks.end("TextEdgesTest");
    }

    // "As told; no THINGS, 3 OFFICERS."
    private static void newObject() {
        RegaliaVotes x = new RegaliaVotes();
        Checks.due("no THINGS", x.count(0), 0);
        Checks.due("3 OFFICERS", x.count(1), 3);
        Checks.due("WARMTH 2", x.count(2), 2);
        Checks.due("thing 0", x.thing(0, 0), BAD);
        Checks.due("officer 2", x.officer(2, 1), 0);
        Checks.due("officer 3", x.officer(3, 1), BAD);
        RegaliaVotes told = Checks.told("");
        Checks.holds("as behind an empty text", Sight.of(new RegaliaVotes()).equals(Sight.of(told)));
        RegaliaVotes same = Checks.told("o3;w2;");
        Checks.holds("as if told so", Sight.of(new RegaliaVotes()).equals(Sight.of(same)));
    }

    // "A letter (0 .. 255) comes to THE TEXT"
    private static void letters() {
        RegaliaVotes x = new RegaliaVotes();
        for (int letter : new int[] {-1, 256, 'o' - 256, 'o' + 256, 'o' + 65536, Integer.MIN_VALUE, Integer.MAX_VALUE}) {
            Checks.due("type(" + letter + ")", x.type(letter), BAD);
            Checks.due("letters", x.count(4), 0);
        }
        Checks.due("type(0)", x.type(0), 1);
        Checks.due("type(255)", x.type(255), 2);
        Checks.due("letters", x.count(4), 2);
    }

    // "200 letters at most"
    private static void twoHundredLetters() {
        RegaliaVotes x = new RegaliaVotes();
        for (int i = 1; i <= 200; i++) {
            Checks.due("letter " + i, x.type(i % 256), i);
        }
        Checks.due("letter 201", x.type('o'), FULL);
        Checks.due("letter 201 again", x.type('o'), FULL);
        Checks.due("BAD is ahead of FULL", x.type(256), BAD);
        Checks.due("BAD is ahead of FULL", x.type(-1), BAD);
        Checks.due("letters", x.count(4), 200);
        Checks.due("clear()", x.clear(), 200);
        Checks.due("clear() again", x.clear(), 0);
        Checks.due("letter 1", x.type('o'), 1);
    }

    private static String blanks(int howMany) {
        return " ".repeat(howMany);
    }

    private static void fullTexts() {
        Checks.items(blanks(200), 0);
        Checks.items("o3;" + blanks(194) + "w1;", 2);
        Checks.items(blanks(197) + "o3;", 1);
        Checks.items("o3;" + blanks(197), 1);
        Checks.fault(blanks(199) + "o", 200);
        Checks.fault(blanks(198) + "o3", 200);
        Checks.fault(blanks(199) + "x", 199);
        Checks.fault(blanks(199) + ";", 199);
        Checks.fault("o" + blanks(199), 200);
        Checks.fault("w" + "9".repeat(199), 1);
        Checks.fault("w" + "0".repeat(199), 1);
        Checks.fault(";".repeat(200), 0);
        Checks.fault("1".repeat(200), 0);
        Checks.fault("w" + blanks(190) + "123456789", 191);
        // A text that would go on beyond 200 letters ends there.
        RegaliaVotes x = new RegaliaVotes();
        Checks.type(x, blanks(198) + "o3");
        Checks.due("no room for its ;", x.type(';'), FULL);
        Checks.due("it ends too early", x.council(), -210);
    }

    // "nothing changes (THE TEXT stays, too)": it can be told to its end
    private static void textGoesOn() {
        RegaliaVotes x = new RegaliaVotes();
        Checks.type(x, "o4");
        Checks.due("it ends too early", x.council(), -12);
        Checks.due("the next letter", x.type(';'), 3);
        Checks.due("council()", x.council(), 1);
        Checks.due("officers", x.count(1), 4);
    }

    // "and is empty then"
    private static void textIsEmptyThen() {
        RegaliaVotes x = new RegaliaVotes();
        Checks.type(x, "o4;t0 1 0 3;");
        Checks.due("council()", x.council(), 2);
        Checks.due("letters", x.count(4), 0);
        Checks.due("clear()", x.clear(), 0);
        Checks.type(x, "w1;");
        Checks.due("letters", x.count(4), 3);
        Checks.due("older letters are gone", x.council(), 1);
        Checks.due("things", x.count(0), 0);
        Checks.type(x, "o4;t0 1 0 3;");
        x.clear();
        Checks.type(x, "w");
        Checks.due("cleared letters are gone, too", x.council(), -11);
    }

    // "THINGS 0 .. (7 at most)", "an eighth t"
    private static void sevenThings() {
        for (int things = 0; things <= 7; things++) {
            RegaliaVotes x = Checks.told(THING.repeat(things));
            Checks.due("things", x.count(0), things);
            Checks.due("voices", x.now(2), (1 << things) - 1);
            Checks.due("the last one's votes", x.thing(things - 1, 1), things == 0 ? BAD : 1);
            Checks.due("one more", x.thing(things, 1), BAD);
        }
        String seven = THING.repeat(7);
        Checks.items(seven, 7);
        Checks.items("o1;" + seven + "w1;", 9);
        for (String eighth : new String[] {"t", THING, "t;", "tx", "t0 1 0 9;", " t0 1 0 0;"}) {
            Checks.fault(seven + eighth, 63 + eighth.indexOf('t'));
        }
        RegaliaVotes x = Checks.told(seven);
        Checks.type(x, seven);
        Checks.due("seven anew are not the eighth on", x.council(), 7);
        Checks.due("things", x.count(0), 7);
    }

    /** Numbers from 0 to 40 at one place of a text: those from the lowest to the highest alone can stand. */
    private static void numbers(String ahead, String behind, int lowest, int highest, int items) {
        for (int number = 0; number <= 40; number++) {
            String text = ahead + number + behind;
            if (number >= lowest && number <= highest) {
                Checks.items(text, items);
            } else {
                Checks.fault(text, ahead.length());
                // Whatever comes behind it, and if nothing does.
                Checks.fault(ahead + number, ahead.length());
                Checks.fault(ahead + number + " x", ahead.length());
            }
        }
    }

    // "a SORT (0 PLAIN, 1 CROWN, 2 SWORD, 3 CUSHION)"
    private static void sorts() {
        numbers("t", " 1 0 0;", 0, 3, 1);
        for (int sort = 0; sort <= 3; sort++) {
            Checks.due("SORT", Checks.told("t" + sort + " 1 0 0;").thing(0, 0), sort);
        }
    }

    // "VOTES (1 .. 9)"
    private static void votes() {
        numbers("t0 ", " 0 0;", 1, 9, 1);
        for (int votes = 1; votes <= 9; votes++) {
            Checks.due("VOTES", Checks.told("t0 " + votes + " 0 0;").thing(0, 1), votes);
        }
    }

    // "FOR (BILLS 0 .. 4 as bits)", "a NUMBER above 31"
    private static void bills() {
        numbers("t0 1 ", " 0;", 0, 31, 1);
        for (int bills = 0; bills <= 31; bills++) {
            RegaliaVotes x = Checks.told("t0 1 " + bills + " 0;");
            Checks.due("FOR", x.thing(0, 2), bills);
            for (int b = 0; b < 5; b++) {
                Checks.due("bill " + b + " by FOR " + bills, x.bill(b, 2), (bills >> b) & 1);
            }
        }
    }

    // "OFFICERS 0 .. as many as are told less 1 (1 .. 5; 3 at first)"
    private static void officers() {
        numbers("o", ";", 1, 5, 1);
        for (int officers = 1; officers <= 5; officers++) {
            RegaliaVotes x = Checks.told("o" + officers + ";");
            Checks.due("officers", x.count(1), officers);
            Checks.due("the last one", x.officer(officers - 1, 0), 0);
            Checks.due("one more", x.officer(officers, 0), BAD);
            Checks.due("the last one sickens", x.sickens(officers - 1, 1), 0);
            Checks.due("one more sickens", x.sickens(officers, 1), BAD);
            Checks.due("who is sick", x.now(3), 1 << (officers - 1));
        }
        Checks.due("3 at first", Checks.told("w1;").count(1), 3);
    }

    // "Each THING is HELD by an OFFICER, as told", "an OFFICER that there is not"
    private static void holders() {
        numbers("t0 1 0 ", ";", 0, 2, 1);
        for (int officers = 1; officers <= 5; officers++) {
            numbers("o" + officers + ";t0 1 0 ", ";", 0, officers - 1, 2);
            RegaliaVotes x = Checks.told("o" + officers + ";t0 1 0 " + (officers - 1) + ";");
            Checks.due("who HOLDS it", x.thing(0, 3), officers - 1);
        }
        // Of the officers of this text, not of those of the text ahead of it.
        RegaliaVotes five = Checks.told("o5;");
        Checks.type(five, "t0 1 0 3;");
        Checks.due("there are three anew", five.council(), -17);
        RegaliaVotes one = Checks.told("o1;");
        Checks.type(one, "t0 1 0 2;");
        Checks.due("there are three anew", one.council(), 1);
    }

    // "WARMTH (0 .. 9; 2 at first)"
    private static void warmths() {
        numbers("w", ";", 0, 9, 1);
        for (int warmth = 0; warmth <= 9; warmth++) {
            Checks.due("WARMTH", Checks.told("w" + warmth + ";").count(2), warmth);
        }
        Checks.due("2 at first", Checks.told("o3;").count(2), 2);
    }

    // "a NUMBER above 31": also one that would be a good number if it wrapped around
    private static void numbersThatWrapAround() {
        // 2 to the 8th, 16th, 32nd, 64th and 128th, and 1 more; 2 to the 31st and 63rd; others too long for a long
        String[] numbers = {"256", "257", "65536", "65537", "2147483648", "2147483649", "4294967296", "4294967297",
            "9223372036854775808", "18446744073709551616", "18446744073709551617",
            "340282366920938463463374607431768211456", "340282366920938463463374607431768211457",
            "100000000000000000000000000000000000", "99999999999999999999", "42949672960", "310", "301", "100"};
        for (String number : numbers) {
            Checks.fault("o" + number + ";", 1);
            Checks.fault("w" + number + ";", 1);
            Checks.fault("t" + number + " 1 0 0;", 1);
            Checks.fault("t0 " + number + " 0 0;", 3);
            Checks.fault("t0 1 " + number + " 0;", 5);
            Checks.fault("t0 1 0 " + number + ";", 7);
        }
    }

    // "a NUMBER ... with a 0 ahead of others"
    private static void zerosAhead() {
        for (int number = 0; number <= 31; number++) {
            Checks.fault("o0" + number + ";", 1);
            Checks.fault("w0" + number + ";", 1);
            Checks.fault("t0" + number + " 1 0 0;", 1);
            Checks.fault("t0 0" + number + " 0 0;", 3);
            Checks.fault("t0 1 0" + number + " 0;", 5);
            Checks.fault("t0 1 0 0" + number + ";", 7);
            Checks.fault("t0 1 00" + number + " 0;", 5);
        }
        Checks.items("w0;", 1);
        Checks.items("t0 1 0 0;", 1);
        Checks.items("t0 1 10 0;", 1);
        Checks.items("t0 1 20 0;", 1);
        Checks.items("t0 1 30 0;", 1);
    }

    // "blanks (32), any number, ahead of, between, behind TOKENS (needed only between two NUMBERS)"
    private static void blanks() {
        String[] tokens = {"o", "4", ";", "t", "0", "9", "31", "3", ";", "w", "9", ";"};
        for (int howMany = 0; howMany <= 14; howMany++) {
            StringBuilder text = new StringBuilder(blanks(howMany));
            for (int i = 0; i < tokens.length; i++) {
                boolean isBetweenNumbers = i >= 4 && i <= 6;
                text.append(tokens[i]).append(blanks(isBetweenNumbers ? Math.max(1, howMany) : howMany));
            }
            RegaliaVotes x = Checks.told(text.toString());
            Checks.due("votes", x.thing(0, 1), 9);
            Checks.due("FOR", x.thing(0, 2), 31);
            Checks.due("holder", x.thing(0, 3), 3);
            Checks.due("WARMTH", x.count(2), 9);
        }
        // Without the blank two NUMBERS are one.
        Checks.fault("t01 0 0;", 1);
        Checks.fault("t0 10 0;", 3);
        Checks.fault("t0 1 00;", 5);
        Checks.fault("t0 1 12;", 7);
        Checks.fault("t1 1 1 1 1;", 9);
        // A blank inside a NUMBER makes two of it.
        Checks.fault("t0 1 3 1 0;", 9);
        Checks.fault("w 1 0;", 4);
        for (char other : new char[] {0, 9, 10, 11, 12, 13, 31, 33, 95, 127, 133, 160, 255}) {
            Checks.fault("o" + other + "3;", 1);
            Checks.fault("o3;" + other, 3);
            Checks.fault(other + "o3;", 0);
            Checks.fault(" " + other, 1);
        }
    }

    // "TOKENS are the letters o, t, w, NUMBERS and ;", "of any other letter"
    private static void everyLetter() {
        for (char letter = 0; letter <= 255; letter++) {
            boolean isDigit = letter >= '0' && letter <= '9';
            if (letter == ' ') {
                Checks.items(" ", 0);
                Checks.fault("o ", 2);
                Checks.fault("o3 ", 3);
                Checks.items("o3; ", 1);
                continue;
            }
            boolean begins = letter == 'o' || letter == 't' || letter == 'w';
            Checks.fault("" + letter, begins ? 1 : 0);
            Checks.fault("o" + letter, letter >= '1' && letter <= '5' ? 2 : 1);
            if (letter == ';') {
                Checks.items("o3;", 1);
            } else {
                Checks.fault("o3" + letter, isDigit ? 1 : 2);
            }
            Checks.fault("o3;" + letter, letter == 't' || letter == 'w' ? 4 : 3);
            Checks.fault("o3; t 0 1 " + letter, isDigit ? 11 : 10);
        }
    }

    // "ITEMS (none, too), each ended by ;"
    private static void noItems() {
        Checks.items("", 0);
        Checks.items(" ", 0);
        Checks.fault(";", 0);
        Checks.fault(" ;", 1);
        Checks.fault("o3;;", 3);
        Checks.fault("o3 w1;", 3);
        Checks.fault("w1 t0 1 0 0;", 3);
        Checks.fault("t0 1 0 0 w1;", 9);
        Checks.fault("o3", 2);
        Checks.items("o3;", 1);
    }

    // "o N (OFFICERS; the first of all, if it is told)", "o behind another ITEM"
    private static void officersFirstOfAll() {
        Checks.items("o3;" + THING, 2);
        Checks.items("   o3;w1;", 2);
        Checks.items("w1;" + THING, 2);
        Checks.fault("o3;o3;", 3);
        Checks.fault("o3; o", 4);
        Checks.fault("w1;o3;", 3);
        Checks.fault("w1;o", 3);
        Checks.fault(THING + "o3;", 9);
        Checks.fault(THING + "  o9;", 11);
        Checks.fault("o3;w1;" + THING + "o3;", 15);
    }

    // "w N (WARMTH; once at most)", "w again"
    private static void warmthOnce() {
        Checks.items("w1;", 1);
        Checks.items("o3;w1;" + THING, 3);
        Checks.items("o3;" + THING + "w1;", 3);
        Checks.items(THING + "w1;" + THING, 3);
        Checks.fault("w1;w1;", 3);
        Checks.fault("w1;w", 3);
        Checks.fault("w1; w2;", 4);
        Checks.fault("w0;w0;", 3);
        Checks.fault("w1;" + THING + "w1;", 12);
        RegaliaVotes x = Checks.told("w1;");
        Checks.type(x, "w5;");
        Checks.due("once in each text", x.council(), 1);
        Checks.due("WARMTH", x.count(2), 5);
        Checks.type(x, "w1;w2;");
        Checks.due("not twice in one", x.council(), -13);
        x.clear();
        Checks.type(x, "w7;");
        Checks.due("once behind a fault", x.council(), 1);
        Checks.due("WARMTH", x.count(2), 7);
    }

    // "the first TOKEN that can't stand there"
    private static void firstFaultCounts() {
        Checks.fault("o6;x", 1);
        Checks.fault("o x 6", 2);
        Checks.fault("t4 0 32 9", 1);
        Checks.fault("t3 0 32 9", 3);
        Checks.fault("t3 1 32 9", 5);
        Checks.fault("t3 1 31 9", 8);
        Checks.fault("t3 1 31 2", 9);
        Checks.fault("w1;w1;o3;x", 3);
        Checks.fault("t t", 2);
        Checks.fault("t0 t", 3);
        Checks.fault("t0 1 t", 5);
        Checks.fault("t0 1 0 t", 7);
        Checks.fault("t;", 1);
        Checks.fault("w;", 1);
        Checks.fault("o w", 2);
    }

    // "the text's length, if it ends too early": each beginning of a good text
    private static void endsTooEarly() {
        String text = "  o 4 ; t 0 1 12 3;w 5;t1 9 31 0 ;  t 2 2 2 2  ;   ";
        for (int length = 0; length <= text.length(); length++) {
            String beginning = text.substring(0, length);
            if (beginning.trim().isEmpty() || beginning.trim().endsWith(";")) {
                Checks.items(beginning, beginning.length() - beginning.replace(";", "").length());
            } else {
                Checks.fault(beginning, length);
            }
        }
    }

    // "(Read anew: as told (what is not told as at first), nobody SICK, no RECORD, IMAGES are gone,
    // nothing can be UNDONE; THE TRACE goes on ...)"
    private static void asAtFirst() {
        for (String text : new String[] {"", "w9;", "o1;", "t2 3 1 2;t1 1 1 1;", "o5;t1 4 7 4;w0;"}) {
            RegaliaVotes x = Checks.told("o5;t2 5 3 4;t1 2 1 0;t0 9 31 3;w7;");
            x.warms(1);
            x.washes(0);
            x.hangs(0);
            x.washes(0);
            x.washes(2);
            x.sickens(0, 1);
            x.hands(1, 4);
            x.puts(0);
            x.record(1, 1);
            x.keep(0);
            x.keep(1);
            Checks.type(x, text);
            x.council();
            Checks.holds("as if nothing had been ahead of \"" + text + "\"", Sight.of(x).equals(Sight.of(Checks.told(text))));
            Checks.due("image 0 is gone", x.back(0), RegaliaVotes.STATE);
            Checks.due("image 1 is gone", x.back(1), RegaliaVotes.STATE);
            Checks.due("nothing can be UNDONE", x.undo(), RegaliaVotes.STATE);
        }
        RegaliaVotes x = Checks.told("t0 1 0 0;");
        x.rate(5, 0);
        x.council();
        Checks.due("THE TRACE goes on", x.trace(), 100001);
    }
}
