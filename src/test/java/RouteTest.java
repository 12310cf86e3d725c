/** Promises 5 to 19 on nets whose course was worked out by hand from the document. */
public final class RouteTest {
    private static final int NONE = SourceRoutes.NONE;
    private static final Check CHECK = new Check();
    private static final String FORK = "nodes 5;link 0 1;link 1 2;link 2 4;link 1 3;link 3 4;map 1;";

    private static void dueAir(SourceRoutes x, int k, int... want) {
        for (int what = 0; what < want.length; what++) {
            CHECK.due("at " + x.has(8) + " air(" + k + ", " + what + ")", x.air(k, what), want[what]);
        }
    }

    private static void dueAirRow(SourceRoutes x, int k, int... want) {
        CHECK.dueRow("at " + x.has(8) + " row " + k, i -> x.row(k, i), want);
    }

    private static void dueKept(SourceRoutes x, int node, int k, int... want) {
        CHECK.dueRow("at " + x.has(8) + " kept " + node + " " + k, i -> x.kept(node, k, i), want);
    }

    private static void dueData(SourceRoutes x, int data, int... want) {
        for (int what = 0; what < want.length; what++) {
            CHECK.due("at " + x.has(8) + " data(" + data + ", " + what + ")", x.data(data, what), want[what]);
        }
    }

    private static void dueTallies(SourceRoutes x, int... want) {
        for (int what = 0; what < want.length; what++) {
            CHECK.due("at " + x.has(8) + " tally(" + what + ")", x.tally(what), want[what]);
        }
    }

    /** A row of three: a REQUEST there, a REPLY back, DATA along it; it is asked twice, as AGAIN is short. */
    private static void line() {
        SourceRoutes x = Check.net("nodes 3;link 0 1;link 1 2;");
        CHECK.due("send", x.send(0, 2), 0);
        dueData(x, 0, 0, 2, 0, 0, 1, 0, 0, NONE, 0, -2);
        CHECK.due("waits", x.waits(0, 0), 0);
        CHECK.due("asks", x.node(0, 7), 4);
        dueAir(x, 0, 1, 0, NONE, 2, 1, NONE, -2);
        dueAirRow(x, 0, 0);
        CHECK.due("NOW", x.ticks(1), 1);
        dueKept(x, 1, 0, 1, 0);
        CHECK.due("seen", x.seen(1, 0), 1);
        dueAir(x, 0, 1, 1, NONE, 2, 1, NONE);
        dueAirRow(x, 0, 0, 1);
        x.ticks(1);
        CHECK.due("a DUPLICATE at 0", x.tally(7), 1);
        CHECK.due("none in the TABLE of 0", x.seen(0, 0), NONE);
        dueKept(x, 2, 0, 2, 1, 0);
        dueAir(x, 0, 2, 2, 1, 2, NONE, NONE);
        dueAirRow(x, 0, 0, 1, 2);
        x.ticks(1);
        dueKept(x, 1, 0, 1, 2);
        dueKept(x, 1, 1, 1, 0);
        dueAir(x, 0, 2, 1, 0, 2);
        dueAirRow(x, 0, 0, 1, 2);
        dueAir(x, 1, 1, 0, NONE, 2, 2);
        CHECK.due("it ASKED again", x.node(0, 4), 2);
        x.ticks(1);
        dueKept(x, 0, 0, 0, 1, 2);
        dueKept(x, 1, 0, 1, 0);
        CHECK.due("newest in the TABLE", x.seen(1, 0), 2);
        CHECK.due("older in the TABLE", x.seen(1, 1), 1);
        dueAir(x, 0, 2, 1, 0, 2);
        dueAir(x, 1, 0, 0, 1, 0, NONE, NONE);
        dueAirRow(x, 1, 0, 1, 2);
        dueData(x, 0, 0, 2, 1, 0, 1, 3, 0, NONE, 0);
        CHECK.dueRow("REST", i -> x.trail(0, i, true), 0, 1, 2);
        CHECK.due("no more ASKS", x.node(0, 7), 0);
        CHECK.due("BUFFER is empty", x.waits(0, 0), NONE);
        x.ticks(1);
        dueKept(x, 1, 0, 1, 0);
        dueKept(x, 1, 1, 1, 2);
        CHECK.dueRow("TRAIL", i -> x.trail(0, i, false), 0, 1);
        x.ticks(1);
        dueData(x, 0, 0, 2, 2, 0, 3, 0, 0, 6, 0);
        CHECK.dueRow("no REST", i -> x.trail(0, i, true));
        dueTallies(x, 2, 3, 3, 0, 0, 0, 0, 1, 0, 1, 0, NONE);
        CHECK.due("has WAYS", x.node(0, 8), 6);
        CHECK.due("hops", x.hops(0, 2), 2);
        CHECK.dueRow("way", i -> x.way(0, 2, i), 0, 1, 2);
        CHECK.dueRow("way to 1", i -> x.way(0, 1, i), 0, 1);
    }

    /** Up to the DATA that is on its way from 1 to 2. */
    private static SourceRoutes fork(String more) {
        SourceRoutes x = Check.net(FORK + more);
        x.send(0, 4);
        x.ticks(6);
        x.ticks(1);
        return x;
    }

    private static void learnedAtFork() {
        SourceRoutes x = Check.net(FORK);
        x.send(0, 4);
        x.ticks(6);
        int[][] map = {{3, 4}, {1, 3}, {2, 4}, {1, 2}, {0, 1}};
        for (int k = 0; k < map.length; k++) {
            dueKept(x, 1, k, map[k]);
        }
        CHECK.due("LINKS in the MAP", x.node(1, 2), 5);
        CHECK.due("FRAMES", x.has(10), 3);
        x.ticks(1);
        dueKept(x, 0, 0, 0, 1, 3, 4);
        dueKept(x, 0, 1, 0, 1, 2, 4);
        dueKept(x, 2, 0, 2, 1, 3, 4);
        int[][] later = {{0, 1}, {2, 4}, {1, 2}, {3, 4}, {1, 3}};
        for (int k = 0; k < later.length; k++) {
            dueKept(x, 1, k, later[k]);
        }
        CHECK.dueRow("least WAY", i -> x.way(1, 4, i), 1, 2, 4);
    }

    private static void salvaged() {
        SourceRoutes x = fork("");
        CHECK.due("turn", x.turn(2, 1, true), true);
        x.ticks(1);
        dueTallies(x, 3, 6, 7, 1, 1, 0, 1);
        dueAir(x, 0, 3, 1, 0, 12, NONE, NONE);
        dueAirRow(x, 0, 1, 0);
        dueAir(x, 1, 0, 1, 3, 0);
        dueAirRow(x, 1, 1, 3, 4);
        dueData(x, 0, 0, 4, 1, 1, 2, 3, 0, NONE, 0);
        CHECK.due("1 forgot", x.holders(1, 2) & 2, 0);
        x.ticks(1);
        CHECK.due("NEWS of ORIGIN", x.node(0, 5), 12);
        dueKept(x, 0, 0, 0, 1, 3, 4);
        dueKept(x, 0, 1, 0, 1);
        CHECK.due("PATHS of 0", x.node(0, 2), 2);
        CHECK.due("3 heard of it", x.holders(1, 2) & 8, 0);
        x.ticks(1);
        CHECK.dueRow("TRAIL", i -> x.trail(0, i, false), 0, 1, 3, 4);
        dueData(x, 0, 0, 4, 2, 1, 4, 0, 0, 10, 0);
    }

    private static void notSalvaged() {
        SourceRoutes x = fork("salvage 0;");
        x.turn(1, 2, true);
        x.ticks(1);
        dueData(x, 0, 0, 4, 3, 0, 2, 0, 0, 8, 0);
        CHECK.due("LOST", x.tally(10), 1);
        CHECK.due("an ERROR all the same", x.tally(3), 1);
        SourceRoutes y = fork("");
        y.turn(1, 2, true);
        y.turn(3, 4, true);
        y.ticks(2);
        // 3 heard the ERROR of 1 and forgot 1 2: it has no WAY any more.
        dueData(y, 0, 0, 4, 1, 1, 3);
        y.ticks(1);
        dueData(y, 0, 0, 4, 3, 1, 3, 0, 0, 10);
    }

    /** A BREAK at ORIGIN: its NEWS, and it serves the DATA anew. */
    private static void breakAtOrigin() {
        SourceRoutes x = Check.net("nodes 3;link 0 1;again 9;");
        x.send(0, 1);
        x.ticks(3);
        CHECK.due("DELIVERED", x.data(0, 2), 2);
        x.turn(0, 1, true);
        CHECK.due("send", x.send(0, 1), 1);
        dueData(x, 1, 0, 1, 1, 0, 1, 2, 3);
        x.turn(0, 2, false);
        x.ticks(1);
        CHECK.due("BREAKS", x.tally(6), 1);
        dueData(x, 1, 0, 1, 0, 0, 1, 0, 3, NONE);
        CHECK.due("NEWS", x.node(0, 5), 1);
        dueAir(x, 0, 1, 0, NONE, 1, 2, 1);
        CHECK.due("it waits", x.waits(0, 0), 1);
        CHECK.due("0 forgot", x.node(0, 2), 0);
        CHECK.due("no ERROR", x.tally(3), 0);
    }

    /** A NODE that hears DATA early, and is to have it later, tells ORIGIN's side so, once. */
    private static void shortened() {
        for (int deaf = 0; deaf <= 1; deaf++) {
            SourceRoutes x = Check.net("nodes 4;link 0 1;link 1 2;link 2 3;again 9;" + (deaf == 1 ? "deaf 2;" : ""));
            x.send(0, 3);
            x.ticks(6);
            x.ticks(3);
            CHECK.due("DELIVERED", x.data(0, 7), 9);
            x.turn(0, 2, false);
            x.send(0, 3);
            x.ticks(1);
            CHECK.due("shortened, deaf " + deaf, x.tally(5), 1 - deaf);
            CHECK.due("who did, deaf " + deaf, x.data(1, 8), deaf == 1 ? 0 : 4);
            CHECK.due("FRAMES, deaf " + deaf, x.has(10), 2 - deaf);
            if (deaf == 0) {
                dueAir(x, 0, 2, 2, 0, 3, NONE, NONE);
                dueAirRow(x, 0, 0, 2, 3);
                dueKept(x, 2, 0, 2, 0);
            }
            x.ticks(1);
            CHECK.due("hops then, deaf " + deaf, x.hops(0, 3), deaf == 1 ? 3 : 2);
            x.ticks(1);
            dueData(x, 1, 0, 3, 2, 0, 4, 0, 9, 12);
        }
    }

    private static void buffersRunOut() {
        SourceRoutes x = Check.net("nodes 3;wait 2;again 1;buffer 1;");
        CHECK.due("first", x.send(0, 1), 0);
        CHECK.due("second", x.send(0, 2), 1);
        dueData(x, 1, 0, 2, 3, 0, 1, 0, 0, 0);
        CHECK.due("nobody ASKS for 2", x.node(0, 7), 2);
        CHECK.due("REQUESTS", x.node(0, 4), 1);
        x.ticks(1);
        CHECK.due("it ASKED again", x.node(0, 4), 2);
        CHECK.due("still BUFFERED", x.node(0, 3), 1);
        x.ticks(1);
        dueData(x, 0, 0, 1, 3, 0, 1, 0, 0, 2);
        CHECK.due("no more ASKS", x.node(0, 7), 0);
        CHECK.due("REQUESTS at the end", x.node(0, 4), 2);
        CHECK.due("LOST", x.tally(10), 2);
        CHECK.due("silence", x.has(10), 0);
    }

    /** All are NEAR to all: six REQUESTS become 42 FRAMES, 40 of which find room. */
    private static void jammed() {
        StringBuilder all = new StringBuilder("nodes 8;");
        for (int a = 0; a < 8; a++) {
            for (int b = a + 1; b < 8; b++) {
                all.append("link ").append(a).append(" ").append(b).append(";");
            }
        }
        SourceRoutes x = Check.net(all.toString());
        for (int n = 0; n < 6; n++) {
            x.send(n, 7);
        }
        x.ticks(1);
        CHECK.due("FRAMES", x.has(10), 40);
        dueTallies(x, 0, 41, 5, 0, 0, 0, 0, 0, 2);
        CHECK.due("send into it", x.send(6, 5), 6);
        dueData(x, 6, 6, 5, 3, 0, 1, 0, 1, 1, 0);
        CHECK.due("JAMMED", x.tally(8), 3);
        // ROOM is 4: 6 learned of 0 first and has no WAY to it any more. Its REQUEST is JAMMED, but it ASKS.
        CHECK.due("ask into it", x.send(6, 0), 7);
        dueData(x, 7, 6, 0, 0, 0, 1, 0, 1, NONE, 0);
        CHECK.due("JAMMED too", x.tally(8), 4);
        CHECK.due("6 ASKS", x.node(6, 7), 1);
        CHECK.due("REQUESTS of 6", x.node(6, 4), 1);
        CHECK.due("REQUESTS in THE AIR", x.tally(1), 41);
        CHECK.due("LOST", x.tally(10), 1);
        CHECK.due("none more", x.has(10), 40);
        CHECK.due("the 41st", x.air(40, 0), -2);
        CHECK.due("the 40th", x.air(39, 0), 1);
    }

    private static void hopsBound() {
        SourceRoutes x = Check.net("nodes 4;link 0 1;link 1 2;link 2 3;hops 2;wait 20;");
        x.send(0, 3);
        x.ticks(2);
        dueKept(x, 2, 0, 2, 1, 0);
        CHECK.due("it goes no further", x.has(10), 0);
        SourceRoutes y = Check.net("nodes 4;link 0 1;link 1 2;link 2 3;hops 2;wait 20;");
        y.send(1, 3);
        y.ticks(6);
        CHECK.due("two LINKS are not too many", y.data(0, 2), 2);
        // 2 has a WAY to 3, but the row from 0 to there has three LINKS.
        y.send(0, 3);
        y.ticks(2);
        CHECK.due("no REPLY comes of it", y.air(0, 0), -2);
    }

    /** Salvage makes a TRAIL of more than HOPS LINKS: what is learned of it is cut. */
    private static void learnedRowIsCut() {
        SourceRoutes x = Check.net("nodes 6;hops 3;link 0 1;link 1 2;link 2 4;link 4 5;link 5 3;map 2;again 9;");
        x.send(2, 3);
        x.ticks(6);
        x.ticks(3);
        CHECK.due("the long way is known", x.hops(2, 3), 3);
        x.turn(2, 3, false);
        x.send(0, 3);
        x.ticks(6);
        x.ticks(2);
        CHECK.dueRow("the way of 0", i -> x.way(0, 3, i), 0, 1, 2, 3);
        CHECK.dueRow("TRAIL so far", i -> x.trail(1, i, false), 0, 1, 2);
        x.turn(2, 3, true);
        x.ticks(1);
        CHECK.due("salvaged", x.data(1, 3), 1);
        x.ticks(1);
        dueKept(x, 4, 0, 4, 2, 1, 0);
        x.ticks(1);
        dueKept(x, 5, 0, 5, 4, 2, 1);
        x.ticks(1);
        dueKept(x, 3, 0, 3, 5, 4, 2);
        CHECK.dueRow("TRAIL", i -> x.trail(1, i, false), 0, 1, 2, 4, 5, 3);
    }

    private static void tableAndRoom() {
        SourceRoutes x = Check.net("nodes 4;link 0 1;table 2;room 1;again 9;");
        x.send(0, 2);
        x.send(0, 3);
        x.send(2, 0);
        CHECK.due("send to the same one", x.send(0, 2), 3);
        CHECK.due("it ASKS once", x.node(0, 4), 2);
        CHECK.due("asks for two", x.node(0, 7), 12);
        CHECK.dueRow("BUFFER", k -> x.waits(0, k), 0, 1, 3);
        x.ticks(1);
        CHECK.dueRow("TABLE", k -> x.seen(1, k), 2, 1);
        x.turn(1, 2, false);
        x.send(2, 3);
        x.ticks(1);
        CHECK.dueRow("the oldest goes", k -> x.seen(1, k), 200002, 2);
        CHECK.due("one PATH", x.node(1, 2), 1);
        dueKept(x, 1, 0, 1, 2);
        CHECK.due("TABLE has", x.node(1, 6), 2);
    }

    /** Listening to a REPLY: those NEAR its sender learn the row from it on. */
    private static void overheardReply() {
        SourceRoutes x = Check.net("nodes 5;link 0 1;link 1 2;link 2 3;link 2 4;deaf 3;again 9;");
        x.send(0, 2);
        x.ticks(3);
        dueKept(x, 1, 0, 1, 2);
        dueKept(x, 4, 0, 4, 2);
        CHECK.due("3 is DEAF", x.node(3, 2), 0);
        x.ticks(1);
        dueKept(x, 0, 0, 0, 1, 2);
        dueKept(x, 2, 0, 2, 1, 0);
    }

    /** A REPLY and an ERROR that meet a LINK that is DOWN end there, and it is no BREAK. */
    private static void lostOnTheWayBack() {
        SourceRoutes x = Check.net("nodes 3;link 0 1;link 1 2;again 9;");
        x.send(0, 2);
        x.ticks(2);
        x.turn(1, 2, true);
        x.ticks(1);
        CHECK.due("the REPLY is gone", x.has(10), 0);
        CHECK.due("2 forgot", x.node(2, 2), 0);
        CHECK.due("no BREAK", x.tally(6), 0);
        SourceRoutes y = fork("");
        y.turn(1, 2, true);
        y.ticks(1);
        y.turn(0, 1, true);
        y.ticks(1);
        CHECK.due("0 knows nothing of it", y.holders(1, 2) & 1, 1);
        CHECK.due("no NEWS", y.node(0, 5), NONE);
        CHECK.due("1 forgot the LINK to 0", y.holders(0, 1) & 2, 0);
        CHECK.due("one BREAK", y.tally(6), 1);
    }

    private static void wrongInputs() {
        SourceRoutes x = Check.net("nodes 3;link 0 1;");
        int[][] pairs = {{0, 0}, {-1, 0}, {0, -1}, {3, 0}, {0, 3}, {Integer.MAX_VALUE, 0}, {0, Integer.MIN_VALUE}};
        for (int[] p : pairs) {
            CHECK.due("send " + p[0] + " " + p[1], x.send(p[0], p[1]), NONE);
            CHECK.due("turn " + p[0] + " " + p[1], x.turn(p[0], p[1], false), false);
            CHECK.due("turn down " + p[0] + " " + p[1], x.turn(p[0], p[1], true), false);
            CHECK.due("hops " + p[0] + " " + p[1], x.hops(p[0], p[1]), NONE);
            CHECK.due("way " + p[0] + " " + p[1], x.way(p[0], p[1], 0), NONE);
        }
        CHECK.due("UP already", x.turn(1, 0, false), false);
        CHECK.due("DOWN", x.turn(1, 0, true), true);
        CHECK.due("DOWN already", x.turn(0, 1, true), false);
        CHECK.due("UP again", x.turn(0, 1, false), true);
        CHECK.due("UP of 1", x.node(1, 9), 1);
        int[] odd = {-1, 0, 7, Integer.MAX_VALUE, Integer.MIN_VALUE};
        for (int n : odd) {
            CHECK.due("ticks " + n, x.ticks(n), NONE);
        }
        CHECK.due("nothing came of all that", x.has(8) + x.has(9) + x.has(10), 0);
        int[] none = {-1, 40, Integer.MAX_VALUE, Integer.MIN_VALUE};
        for (int n : none) {
            CHECK.due("has " + n, x.has(n), NONE);
            CHECK.due("tally " + n, x.tally(n), NONE);
            CHECK.due("node " + n, x.node(n, 0), -2);
            CHECK.due("node 0 " + n, x.node(0, n), -2);
            CHECK.due("kept " + n, x.kept(n, 0, 0), NONE);
            CHECK.due("kept 0 " + n, x.kept(0, n, 0), NONE);
            CHECK.due("kept 0 0 " + n, x.kept(0, 0, n), NONE);
            CHECK.due("seen " + n, x.seen(n, 0), NONE);
            CHECK.due("seen 0 " + n, x.seen(0, n), NONE);
            CHECK.due("waits " + n, x.waits(n, 0), NONE);
            CHECK.due("waits 0 " + n, x.waits(0, n), NONE);
            CHECK.due("way 0 1 " + n, x.way(0, 1, n), NONE);
            CHECK.due("data " + n, x.data(n, 0), -2);
            CHECK.due("data 0 " + n, x.data(0, n), -2);
            CHECK.due("trail " + n, x.trail(n, 0, false), NONE);
            CHECK.due("trail 0 " + n, x.trail(0, n, true), NONE);
            CHECK.due("air " + n, x.air(n, 0), -2);
            CHECK.due("air 0 " + n, x.air(0, n), -2);
            CHECK.due("row " + n, x.row(n, 0), NONE);
            CHECK.due("row 0 " + n, x.row(0, n), NONE);
        }
        CHECK.due("has 12", x.has(12), NONE);
        CHECK.due("node 0 10", x.node(0, 10), -2);
    }

    private static void bounds() {
        SourceRoutes x = Check.net("nodes 8;");
        for (int k = 0; k < 40; k++) {
            CHECK.due("send " + k, x.send(k % 8, (k + 1) % 8), k);
        }
        CHECK.due("the 41st", x.send(0, 1), NONE);
        CHECK.due("DATA", x.has(9), 40);
        SourceRoutes y = new SourceRoutes();
        for (int k = 1; k <= 150; k++) {
            CHECK.due("NOW", y.ticks(6), 6 * k);
        }
        CHECK.due("above 900", y.ticks(1), NONE);
        CHECK.due("NOW stays", y.has(8), 900);
        Check.tell(y, "nodes 3;");
        y.net();
        y.ticks(6);
        CHECK.due("NOW anew", y.has(8), 6);
        SourceRoutes z = new SourceRoutes();
        for (int k = 0; k < 149; k++) {
            z.ticks(6);
        }
        z.ticks(2);
        CHECK.due("beyond 900 by one", z.ticks(5), NONE);
        CHECK.due("up to 900", z.ticks(4), 900);
    }

    public static void main(String[] args) {
        line();
        learnedAtFork();
        salvaged();
        notSalvaged();
        breakAtOrigin();
        shortened();
        buffersRunOut();
        jammed();
        hopsBound();
        learnedRowIsCut();
        tableAndRoom();
        overheardReply();
        lostOnTheWayBack();
        wrongInputs();
        bounds();
        CHECK.end("RouteTest");
    }
}
