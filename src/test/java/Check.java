/** Counts the answers that are not the ones that are due, and tells texts to an object. */
final class Check {
    private int wrong;
    private int checked;

    void due(String what, long got, long want) {
        checked++;
        if (got != want) {
            wrong++;
            System.out.println(what + " answered " + got + ", due is " + want);
        }
    }

    void due(String what, boolean got, boolean want) {
        due(what, got ? 1 : 0, want ? 1 : 0);
    }

    /** What a row of answers has, up to the first one that is NONE. */
    interface Answers {
        int at(int i);
    }

    void dueRow(String what, Answers answers, int... want) {
        for (int i = 0; i < want.length; i++) {
            due(what + " [" + i + "]", answers.at(i), want[i]);
        }
        due(what + " behind its end", answers.at(want.length), SourceRoutes.NONE);
        due(what + " ahead of its beginning", answers.at(-1), SourceRoutes.NONE);
    }

    boolean hasFailed() {
        return wrong > 0;
    }

    void end(String name) {
        System.out.println(name + ": " + checked + " answers, " + wrong + " of them not as due");
        if (wrong > 0) {
            System.exit(1);
        }
    }

    /** The bytes of a text, eight by eight, as say() takes them. */
    static long[] eights(String text) {
        long[] all = new long[(text.length() + 7) / 8];
        for (int i = 0; i < text.length(); i++) {
            all[i / 8] |= (long) (text.charAt(i) & 255) << 56 - 8 * (i % 8);
        }
        return all;
    }

    static void tell(SourceRoutes x, String text) {
        for (long eight : eights(text)) {
            x.say(eight);
        }
    }

    /** A new object with a NET that is read. */
    static SourceRoutes net(String text) {
        SourceRoutes x = new SourceRoutes();
        tell(x, text);
        if (x.net() == SourceRoutes.NONE) {
            throw new IllegalStateException("a NET with a FAULT: " + text);
        }
        return x;
    }
}
