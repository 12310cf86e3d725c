/** Promises 20 to 32: what is known and what is so, what would come, what is kept. */
public final class QuestionTest {
    private static final int NONE = SourceRoutes.NONE;
    private static final Check CHECK = new Check();
    private static final String LINE = "nodes 4;link 0 1;link 1 2;again 9;";

    /** A row of three NODES, with one that has no LINK, after a DATA from 0 came to 2. */
    private static SourceRoutes line() {
        SourceRoutes x = Check.net(LINE);
        x.send(0, 2);
        x.ticks(6);
        return x;
    }

    private static void ways() {
        SourceRoutes x = Check.net("nodes 6;link 0 1;link 1 2;link 2 3;link 0 4;link 4 3;");
        CHECK.due("far to itself", x.far(2, 2), 0);
        CHECK.due("far next", x.far(0, 1), 1);
        CHECK.due("far round the ring", x.far(1, 3), 2);
        CHECK.due("far by the shorter side", x.far(0, 3), 2);
        CHECK.due("far to one alone", x.far(0, 5), NONE);
        CHECK.due("one alone to itself", x.far(5, 5), 0);
        CHECK.due("bridges of a ring", x.bridges(0, 3), 0);
        CHECK.due("bridges to one alone", x.bridges(0, 5), 0);
        x.turn(3, 5, false);
        CHECK.due("one bridge", x.bridges(0, 5), 1);
        x.turn(1, 2, true);
        CHECK.due("all are bridges", x.bridges(1, 5), 4);
        CHECK.due("bridges that matter", x.bridges(0, 4), 1);
        CHECK.due("far over all", x.far(1, 5), 4);
    }

    private static void known() {
        SourceRoutes x = line();
        CHECK.due("holders of 0 1", x.holders(0, 1), 7);
        CHECK.due("holders of 2 1", x.holders(2, 1), 7);
        CHECK.due("holders of 0 2", x.holders(0, 2), 0);
        CHECK.due("sound", x.sound(0, 2), true);
        CHECK.due("no WAY is not sound", x.sound(0, 3), false);
        CHECK.due("stale", x.stale(0), 0);
        CHECK.due("mapped", x.mapped(0, 2), 2);
        CHECK.due("mapped to none", x.mapped(0, 3), NONE);
        x.turn(1, 2, true);
        CHECK.due("not sound any more", x.sound(0, 2), false);
        CHECK.due("still sound", x.sound(0, 1), true);
        CHECK.due("stale then", x.stale(0), 1);
        CHECK.due("stale of 1: each LINK once", x.stale(1), 1);
        CHECK.due("known all the same", x.mapped(0, 2), 2);
        CHECK.due("stale of 3", x.stale(3), 0);
    }

    /** PATHS that together hold a shorter way than each alone. */
    private static void mappedIsShorter() {
        SourceRoutes x = Check.net("nodes 5;link 0 1;link 1 2;link 2 3;link 3 4;again 9;wait 20;");
        x.send(0, 4);
        x.ticks(6);
        x.ticks(6);
        CHECK.due("DELIVERED", x.data(0, 2), 2);
        CHECK.due("WAY", x.hops(0, 4), 4);
        x.turn(0, 3, false);
        x.send(3, 0);
        x.ticks(1);
        CHECK.due("0 hears 3", x.hops(0, 3), 1);
        CHECK.due("the WAY is as it was", x.hops(0, 4), 4);
        CHECK.due("the MAP would have it", x.mapped(0, 4), 2);
        SourceRoutes y = Check.net("nodes 4;link 0 1;link 1 2;link 2 3;hops 2;again 9;");
        y.send(2, 0);
        y.ticks(5);
        y.send(1, 3);
        y.ticks(5);
        CHECK.due("1 knows both sides", y.mapped(1, 3), 2);
        CHECK.due("2 by one LINK", y.mapped(2, 3), 1);
    }

    private static void wouldCome() {
        SourceRoutes x = Check.net(LINE);
        x.send(0, 2);
        // REQUEST at 1 (1), at 2 (2), REPLY at 1 (3), at 0 (4), DATA at 1 (5), at 2 (6).
        CHECK.due("now", x.ahead(0, 1), 1);
        CHECK.due("FRAMES now", x.ahead(0, 11), 1);
        CHECK.due("BUFFERED now", x.ahead(0, 12), 1);
        CHECK.due("REQUESTS", x.ahead(2, 1), 2);
        CHECK.due("BUFFERED still", x.ahead(3, 12), 1);
        CHECK.due("BUFFERED no more", x.ahead(4, 12), 0);
        CHECK.due("not yet DELIVERED", x.ahead(5, 9), 0);
        CHECK.due("DELIVERED", x.ahead(6, 9), 1);
        CHECK.due("FRAMES then", x.ahead(6, 11), 0);
        CHECK.due("nothing changed", x.has(8), 0);
        CHECK.due("quiet", x.quiet(), 6);
        CHECK.due("turned", x.turned(1, 2, 6, 9), 0);
        CHECK.due("turned, BUFFERED", x.turned(2, 1, 6, 12), 1);
        CHECK.due("turned UP", x.turned(0, 2, 3, 9), 1);
        CHECK.due("no LINK was turned", x.node(2, 9), 2);
        CHECK.due("sent, its ORIGIN", x.sent(1, 0, 0, 0), 1);
        CHECK.due("sent, its END", x.sent(1, 0, 0, 1), 0);
        CHECK.due("sent, BUFFERED", x.sent(1, 0, 0, 2), 0);
        CHECK.due("sent, a WAY by then", x.sent(1, 0, 1, 2), 1);
        CHECK.due("sent, DELIVERED", x.sent(1, 0, 2, 2), 2);
        CHECK.due("sent, when", x.sent(1, 0, 6, 7), 2);
        CHECK.due("none was sent", x.has(9), 1);
        SourceRoutes y = Check.net("nodes 2;wait 12;");
        CHECK.due("quiet at once", y.quiet(), 0);
        y.send(0, 1);
        CHECK.due("quiet at last", y.quiet(), 12);
        SourceRoutes z = Check.net("nodes 2;wait 13;");
        z.send(0, 1);
        CHECK.due("not quiet by then", z.quiet(), NONE);
        for (int k = 0; k < 149; k++) {
            y.ticks(6);
        }
        y.ticks(6);
        CHECK.due("IF goes beyond 900", y.sent(0, 1, 6, 2), 0);
        CHECK.due("ahead goes beyond 900", y.ahead(6, 10), 1);
    }

    private static void floods() {
        SourceRoutes x = Check.net("nodes 5;link 0 1;link 1 2;link 2 3;");
        CHECK.due("REQUESTS to the end", x.flood(0, 3, false), 3);
        CHECK.due("REPLIES to the end", x.flood(0, 3, true), 1);
        CHECK.due("REQUESTS for none", x.flood(0, 4, false), 4);
        CHECK.due("REPLIES of none", x.flood(0, 4, true), 0);
        CHECK.due("by one that has no LINK", x.flood(4, 0, false), 1);
        CHECK.due("nothing was asked", x.node(0, 4), 0);
        // 1 is asked ahead of 0 being known to it: it answers from its CACHE, and 0 hears it.
        x.send(1, 3);
        x.ticks(6);
        CHECK.due("a NODE with a WAY answers", x.flood(0, 3, false), 1);
        CHECK.due("its REPLY", x.flood(0, 3, true), 1);
        x.send(3, 4);
        CHECK.due("THE AIR is empty for it", x.flood(0, 3, false), 1);
        CHECK.due("THE AIR is as it was", x.has(10), 1);
        SourceRoutes y = Check.net("nodes 4;link 0 1;link 1 2;link 2 3;hops 2;");
        CHECK.due("HOPS end it", y.flood(0, 3, false), 2);
        SourceRoutes z = Check.net("nodes 6;link 0 1;link 0 2;link 2 3;link 3 4;link 4 5;");
        // The REPLY of 1 comes at the first TICK, goes on no further; the REQUEST has three more.
        CHECK.due("REQUESTS of the other arm", z.flood(0, 1, false), 5);
        CHECK.due("one REPLY", z.flood(0, 1, true), 1);
        SourceRoutes w = Check.net("nodes 7;link 0 1;link 1 2;link 0 3;link 3 4;link 4 5;link 5 6;");
        CHECK.due("REPLIES each time", w.flood(0, 2, true), 2);
    }

    private static void images() {
        SourceRoutes x = Check.net(LINE);
        CHECK.due("image of none", x.image(-1), false);
        CHECK.due("image of a fourth", x.image(3), false);
        CHECK.due("again of none", x.again(1), false);
        CHECK.due("again of a fourth", x.again(3), false);
        CHECK.due("again below", x.again(-1), false);
        x.send(0, 2);
        Check.tell(x, "nodes 9;");
        x.net();
        Check.tell(x, "abc");
        CHECK.due("image", x.image(1), true);
        x.ticks(6);
        x.turn(0, 3, false);
        Check.tell(x, "nodes 2;");
        x.net();
        x.net();
        CHECK.due("other by now", x.has(0), 2);
        CHECK.due("again", x.again(1), true);
        int[] want = {4, 7, 4, 4, 3, 9, 9, 1, 0, 1, 1, 3};
        for (int what = 0; what < want.length; what++) {
            CHECK.due("has(" + what + ") again", x.has(what), want[what]);
        }
        CHECK.due("the FAULT", x.fault(false), 2);
        CHECK.due("its place", x.fault(true), 6);
        CHECK.due("the LINK", x.node(0, 9), 2);
        x.ticks(6);
        CHECK.due("it goes on as before", x.data(0, 7), 6);
        CHECK.due("image of that", x.image(0), true);
        CHECK.due("again, a second time", x.again(1), true);
        CHECK.due("NOW again", x.has(8), 0);
        CHECK.due("CACHE again", x.node(0, 2), 0);
        CHECK.due("the other image", x.again(0), true);
        CHECK.due("its NOW", x.has(8), 6);
        CHECK.due("its CACHE", x.kept(0, 0, 2), 2);
        CHECK.due("its tally", x.tally(9), 1);
        CHECK.due("an image twice", x.image(1), true);
        x.net();
        x.again(1);
        CHECK.due("the later one holds", x.has(8), 6);
    }

    /** The bytes of THE TEXT are kept, not their number alone. */
    private static void imageOfText() {
        SourceRoutes x = new SourceRoutes();
        Check.tell(x, "nodes 5");
        x.image(2);
        x.net();
        Check.tell(x, "deaf 0;");
        x.again(2);
        Check.tell(x, ";");
        CHECK.due("net of the kept text", x.net(), 5);
    }

    private static void wrongInputs() {
        SourceRoutes x = line();
        int[][] pairs = {{-1, 0}, {0, -1}, {4, 0}, {0, 4}, {Integer.MAX_VALUE, 1}, {1, Integer.MIN_VALUE}, {1, 1}};
        for (int[] p : pairs) {
            int a = p[0], b = p[1];
            String of = " of " + a + " " + b;
            CHECK.due("far" + of, x.far(a, b), a == b ? 0 : NONE);
            CHECK.due("holders" + of, x.holders(a, b), NONE);
            CHECK.due("sound" + of, x.sound(a, b), false);
            CHECK.due("mapped" + of, x.mapped(a, b), NONE);
            CHECK.due("bridges" + of, x.bridges(a, b), NONE);
            CHECK.due("turned" + of, x.turned(a, b, 0, 0), NONE);
            CHECK.due("sent" + of, x.sent(a, b, 0, 0), -2);
            CHECK.due("flood" + of, x.flood(a, b, false), NONE);
            CHECK.due("flood, replies" + of, x.flood(a, b, true), NONE);
        }
        int[] odd = {-1, 7, Integer.MAX_VALUE, Integer.MIN_VALUE};
        for (int n : odd) {
            CHECK.due("stale of " + n, x.stale(n), NONE);
            CHECK.due("ahead of " + n, x.ahead(n, 0), NONE);
            CHECK.due("turned of " + n, x.turned(0, 1, n, 0), NONE);
            CHECK.due("sent of " + n, x.sent(0, 1, n, 0), -2);
        }
        int[] whats = {-1, 13, Integer.MAX_VALUE, Integer.MIN_VALUE};
        for (int what : whats) {
            CHECK.due("ahead, what " + what, x.ahead(0, what), NONE);
            CHECK.due("turned, what " + what, x.turned(0, 1, 0, what), NONE);
            CHECK.due("sent, what " + what, x.sent(0, 1, 0, what), -2);
        }
        CHECK.due("sent, what 9", x.sent(0, 1, 0, 9), -2);
        CHECK.due("stale of 4", x.stale(4), NONE);
        for (int k = 1; k < 40; k++) {
            x.send(3, 0);
        }
        CHECK.due("sent beyond 40", x.sent(0, 1, 0, 0), -2);
    }

    public static void main(String[] args) {
        ways();
        known();
        mappedIsShorter();
        wouldCome();
        floods();
        images();
        imageOfText();
        wrongInputs();
        CHECK.end("QuestionTest");
    }
}
