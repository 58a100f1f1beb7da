/** What the tests share: answers compared with those that are due, and texts told to an object. */
final class Checks {
    private static int asked = 0;
    private static int wrong = 0;

    private Checks() {
    }

    static void due(String call, long got, long want) {
        asked++;
        if (got != want) {
            wrong++;
            System.out.println(call + " answered " + got + ", due is " + want);
        }
    }

    static void holds(String what, boolean isSo) {
        due(what, isSo ? 1 : 0, 1);
    }

    static void type(RegaliaVotes x, String text) {
        for (int i = 0; i < text.length(); i++) {
            x.type(text.charAt(i));
        }
    }

    /** A new object that has been told a text, which must be without a fault. */
    static RegaliaVotes told(String text) {
        RegaliaVotes x = new RegaliaVotes();
        type(x, text);
        holds("council() of \"" + text + "\" has no fault", x.council() >= 0);
        return x;
    }

    /** A text without a fault: how many items it has. */
    static void items(String text, int items) {
        RegaliaVotes x = new RegaliaVotes();
        type(x, text);
        due("council() of \"" + text + "\"", x.council(), items);
    }

    /** A text with a fault: its place. */
    static void fault(String text, int place) {
        items(text, -10 - place);
    }

    static void end(String name) {
        System.out.println(name + ": " + asked + " answers, " + wrong + " not as due");
        if (wrong != 0 || asked == 0) {
            System.exit(1);
        }
    }
}
