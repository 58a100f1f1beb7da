/**
 * Two objects with one story: what a call changes in one of them shows beside the other. What can't be asked
 * (the text's letters, images, what is undone next) is looked at by the calls that bring it to light, each
 * time on twins of their own.
 */
final class Twins {
    interface Story {
        void tell(RegaliaVotes x);
    }

    interface Call {
        long on(RegaliaVotes x);
    }

    private static final int MOST_UNDONE = 10;
    private static final int LOOKS = MOST_UNDONE + 6;

    private final String name;
    private final Story story;
    private final String[] untouched = new String[LOOKS];

    Twins(String name, Story story) {
        this.name = name;
        this.story = story;
        for (int look = 0; look < LOOKS; look++) {
            untouched[look] = look(toldObject(), look);
        }
    }

    RegaliaVotes toldObject() {
        RegaliaVotes x = new RegaliaVotes();
        story.tell(x);
        return x;
    }

    /** The call answers as due and changes nothing. */
    void unchanged(String call, long answer, Call asked) {
        Checks.due(name + ": " + call, asked.on(toldObject()), answer);
        unchanged(call, asked);
    }

    /** The call changes nothing, whatever it answers. */
    void unchanged(String call, Call asked) {
        for (int look = 0; look < LOOKS; look++) {
            RegaliaVotes x = toldObject();
            asked.on(x);
            String seen = look(x, look);
            boolean isSame = seen.equals(untouched[look]);
            Checks.holds(name + ": " + call + " changes nothing, look " + look, isSame);
            if (!isSame) {
                System.out.println("  seen    " + seen + "\n  instead " + untouched[look]);
            }
        }
    }

    private static String look(RegaliaVotes x, int look) {
        if (look <= MOST_UNDONE) {
            StringBuilder answers = new StringBuilder();
            for (int i = 0; i < look; i++) {
                answers.append(x.undo()).append(' ');
            }
            return answers + Sight.of(x);
        }
        switch (look - MOST_UNDONE) {
            case 1: return x.back(0) + " " + Sight.of(x);
            case 2: return x.back(1) + " " + Sight.of(x);
            case 3: return x.council() + " " + Sight.of(x);
            case 4: return x.sickens(0, 1) + " " + x.puts(0) + " " + x.undo() + " " + Sight.of(x);
            default: return x.record(0, 1) + " " + x.type(';') + " " + x.keep(1) + " " + x.forget() + " " + Sight.of(x);
        }
    }
}
