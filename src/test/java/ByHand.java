/** What tests by hand share: how they tell a PARISH, and by which promise an answer is due. */
class ByHand {
    /** The promise, or the sentence of it, that is looked at. */
    static String promise = "";

    static void due(long got, long want) {
        StackTraceElement at = new Throwable().getStackTrace()[1];
        Check.due(promise + " (line " + at.getLineNumber() + ")", got, want);
    }

    static void say(ToWhoNeeds x, String text) {
        for (char c : text.toCharArray()) {
            x.letter(c);
        }
    }

    static int tell(ToWhoNeeds x, String text) {
        say(x, text);
        return x.parish();
    }

    /** An object with what these texts tell, each a PARISH or, beyond 64 letters, several. */
    static ToWhoNeeds with(String... texts) {
        ToWhoNeeds x = new ToWhoNeeds();
        for (String text : texts) {
            String rest = text;
            while (!rest.isEmpty()) {
                int end = rest.length() <= 64 ? rest.length() : rest.lastIndexOf(';', 63) + 1;
                int told = tell(x, rest.substring(0, end));
                Check.due(promise + ": " + rest + " is told", told > 0 ? 1 : told, 1);
                rest = rest.substring(end);
            }
        }
        return x;
    }

    /** What a new object answers to a text. */
    static int told(String text) {
        return tell(new ToWhoNeeds(), text);
    }

    static void rows(ToWhoNeeds x, int... persons) {
        for (int i = 0; i < persons.length; i++) {
            Check.due(promise + ": row", x.row(persons[i]), i + 1);
        }
    }

    static int refusals(ToWhoNeeds x) {
        int all = 0;
        for (int what = 11; what <= 16; what++) {
            all += x.count(what);
        }
        return all;
    }
}
