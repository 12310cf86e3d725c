/** Counts the answers that are not the ones that are due, and tells texts to an object. */
final class Check {
    private int wrong;
    private int checked;
    private int sentences;
    private String sentence = "";

    /** Says by which promise or term, and by which of its words, the answers that come now are due. */
    void of(String words) {
        sentence = words + ": ";
        sentences++;
    }

    void due(String what, long got, long want) {
        checked++;
        if (got != want) {
            wrong++;
            System.out.println(sentence + what + " answered " + got + ", due is " + want);
        }
    }

    void due(String what, boolean got, boolean want) {
        due(what, got ? 1 : 0, want ? 1 : 0);
    }

    /** What a row of answers has, up to the first one that is NONE. */
    interface Answers {
        int at(int i);
    }

    void dueRow(String what, Answers answers, int... want) {
        for (int i = 0; i < want.length; i++) {
            due(what + " [" + i + "]", answers.at(i), want[i]);
        }
        due(what + " behind its end", answers.at(want.length), SourceRoutes.NONE);
        due(what + " ahead of its beginning", answers.at(-1), SourceRoutes.NONE);
    }

    /** All PATHS, or LINKS, that a CACHE has, the newest first. */
    void dueCache(SourceRoutes x, int node, int[]... want) {
        due("entries of the CACHE of " + node, x.node(node, 2), want.length);
        for (int k = 0; k < want.length; k++) {
            int entry = k;
            dueRow("kept " + node + " " + k, i -> x.kept(node, entry, i), want[k]);
        }
        due("no entry more of the CACHE of " + node, x.kept(node, want.length, 0), SourceRoutes.NONE);
        due("no entry less of the CACHE of " + node, x.kept(node, -1, 0), SourceRoutes.NONE);
    }

    /** What net() answers for a text, with its FAULT and the place of it; THE TEXT is empty then. */
    void dueNet(String text, int nodes, int fault, int place) {
        SourceRoutes x = new SourceRoutes();
        tell(x, text);
        due("net of '" + text + "'", x.net(), nodes);
        due("fault of '" + text + "'", x.fault(false), fault);
        due("place in '" + text + "'", x.fault(true), place);
        due("THE TEXT behind net of '" + text + "'", x.has(11), 0);
    }

    void dueGood(String text, int nodes) {
        dueNet(text, nodes, 0, SourceRoutes.NONE);
    }

    void dueFault(String text, int fault, int place) {
        dueNet(text, SourceRoutes.NONE, fault, place);
    }

    boolean hasFailed() {
        return wrong > 0;
    }

    void end(String name) {
        String by = sentences > 0 ? " by " + sentences + " sentences" : "";
        System.out.println(name + ": " + checked + " answers" + by + ", " + wrong + " of them not as due");
        if (wrong > 0) {
            System.exit(1);
        }
    }

    /** The bytes of a text, eight by eight, as say() takes them. */
    static long[] eights(String text) {
        long[] all = new long[(text.length() + 7) / 8];
        for (int i = 0; i < text.length(); i++) {
            all[i / 8] |= (long) (text.charAt(i) & 255) << 56 - 8 * (i % 8);
        }
        return all;
    }

    static void tell(SourceRoutes x, String text) {
        for (long eight : eights(text)) {
            x.say(eight);
        }
    }

    /** A new object with a NET that is read. */
    static SourceRoutes net(String text) {
        SourceRoutes x = new SourceRoutes();
        tell(x, text);
        if (x.net() == SourceRoutes.NONE) {
            throw new IllegalStateException("a NET with a FAULT: " + text);
        }
        return x;
    }

    /**
     * The LINKS along a row are UP alone for as long as a REQUEST of its last NODE, for one without LINKS,
     * goes by: the first NODE LEARNS the row then. WAIT is to be 6 at most, so that it is not ASKED for anew.
     */
    static void bring(SourceRoutes x, int unreached, int... row) {
        turnAll(x, false, row);
        x.send(row[row.length - 1], unreached);
        x.ticks(6);
        turnAll(x, true, row);
    }

    private static void turnAll(SourceRoutes x, boolean down, int... row) {
        for (int i = 1; i < row.length; i++) {
            x.turn(row[i - 1], row[i], down);
        }
    }

    /** So many TICKS, also more than one call takes. */
    static void go(SourceRoutes x, int ticks) {
        for (int left = ticks; left > 0; left -= 6) {
            x.ticks(Math.min(left, 6));
        }
    }
}
