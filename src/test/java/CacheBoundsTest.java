/** Terms 2: the bounds of ROUTES and CACHES, on courses worked out by hand from the document. */
public final class CacheBoundsTest {
    private static final int NONE = SourceRoutes.NONE;
    private static final Check CHECK = new Check();

    /** All have a LINK with 0; HOPS is 1, so that a REQUEST comes to those that are NEAR and no further. */
    private static final String STAR = "nodes 8;hops 1;wait 1;again 9;"
        + "link 0 1;link 0 2;link 0 3;link 0 4;link 0 5;link 0 6;link 0 7;";

    /** Of the cycles over seven NODES that share no LINK: from 0 on, without the LINK back to 0. */
    private static final int[][] CYCLES = {{0, 1, 2, 6, 3, 5, 4}, {0, 2, 3, 1, 4, 6, 5}, {0, 3, 4, 2, 5, 1, 6}};

    /** 0 hears a REQUEST of another NODE, so that it LEARNS itself and that one. */
    private static void hear(SourceRoutes x, int from) {
        x.send(from, from == 1 ? 2 : 1);
        x.ticks(1);
    }

    private static SourceRoutes star(String more, int upTo) {
        SourceRoutes x = Check.net(STAR + more);
        for (int n = 1; n <= upTo; n++) {
            hear(x, n);
        }
        return x;
    }

    /** What 0 knows of its own LINKS alone: the other ends of them, the newest first. */
    private static void dueEnds(SourceRoutes x, int... ends) {
        int[][] rows = new int[ends.length][];
        for (int k = 0; k < ends.length; k++) {
            rows[k] = new int[] {0, ends[k]};
        }
        CHECK.dueCache(x, 0, rows);
    }

    private static int[] downFrom(int most, int least) {
        int[] all = new int[most - least + 1];
        for (int k = 0; k < all.length; k++) {
            all[k] = most - k;
        }
        return all;
    }

    private static void pathsAreRoom() {
        CHECK.of("Terms 2, PATHS, 'the oldest goes, if there are more than ROOM'");
        for (int room = 1; room <= 6; room++) {
            String told = "room " + room + ";";
            dueEnds(star(told, room), downFrom(room, 1));
            dueEnds(star(told, room + 1), downFrom(room + 1, 2));
        }
        dueEnds(star("", 4), 4, 3, 2, 1);
        dueEnds(star("", 5), 5, 4, 3, 2);
    }

    private static void theSamePathIsTheNewest() {
        CHECK.of("Terms 2, PATHS, 'if there is the same one already, it is the newest then'");
        SourceRoutes x = star("room 6;", 6);
        hear(x, 1);
        dueEnds(x, 1, 6, 5, 4, 3, 2);
        hear(x, 4);
        dueEnds(x, 4, 1, 6, 5, 3, 2);
        hear(x, 4);
        dueEnds(x, 4, 1, 6, 5, 3, 2);
        SourceRoutes y = star("room 1;", 1);
        hear(y, 1);
        dueEnds(y, 1);
    }

    private static void mapHasThreeTimesRoom() {
        CHECK.of("Terms 2, MAP, 'the oldest goes, if there are more than 3 times ROOM'");
        dueEnds(star("map 0;room 1;", 3), 3, 2, 1);
        dueEnds(star("map 0;room 1;", 4), 4, 3, 2);
        dueEnds(star("map 0;room 2;", 6), 6, 5, 4, 3, 2, 1);
        dueEnds(star("map 0;room 2;", 7), 7, 6, 5, 4, 3, 2);
        for (int room = 1; room <= 6; room++) {
            manyLinks(room);
        }
    }

    /** Three rows of six LINKS each and then three LINKS, 21 unlike ones in all: what is left at each step. */
    private static void manyLinks(int room) {
        SourceRoutes x = Check.net("nodes 8;map 0;wait 6;again 9;room " + room + ";");
        int[][] order = new int[21][];
        int learned = 0;
        for (int[] row : CYCLES) {
            Check.bring(x, 7, row);
            for (int i = 1; i < row.length; i++) {
                order[learned++] = new int[] {Math.min(row[i - 1], row[i]), Math.max(row[i - 1], row[i])};
            }
            dueLast(x, order, learned, 3 * room);
        }
        for (int n = 4; n <= 6; n++) {
            Check.bring(x, 7, 0, n);
            order[learned++] = new int[] {0, n};
            dueLast(x, order, learned, 3 * room);
        }
    }

    private static void dueLast(SourceRoutes x, int[][] order, int learned, int most) {
        int[][] left = new int[Math.min(learned, most)][];
        for (int k = 0; k < left.length; k++) {
            left[k] = order[learned - 1 - k];
        }
        CHECK.dueCache(x, 0, left);
    }

    private static void aKnownLinkIsTheNewest() {
        CHECK.of("Terms 2, MAP, 'one that is known is the newest then'");
        SourceRoutes x = star("map 0;room 2;", 6);
        hear(x, 1);
        dueEnds(x, 1, 6, 5, 4, 3, 2);
        hear(x, 5);
        dueEnds(x, 5, 1, 6, 4, 3, 2);
        SourceRoutes y = Check.net("nodes 5;map 0;room 1;wait 6;again 9;");
        Check.bring(y, 4, 0, 1, 2, 3);
        CHECK.dueCache(y, 0, new int[] {2, 3}, new int[] {1, 2}, new int[] {0, 1});
        // 0 1 and 1 2 are the newest, one by one, and none goes.
        Check.bring(y, 4, 0, 1, 2);
        CHECK.dueCache(y, 0, new int[] {1, 2}, new int[] {0, 1}, new int[] {2, 3});
        // 0 1 is the newest, then 1 3 comes, and 2 3 goes.
        Check.bring(y, 4, 0, 1, 3);
        CHECK.dueCache(y, 0, new int[] {1, 3}, new int[] {0, 1}, new int[] {1, 2});
    }

    private static void oneNodeAlone() {
        CHECK.of("Terms 2, 'A CACHE LEARNS a row ... of one NODE alone: nothing'");
        for (int map = 0; map <= 1; map++) {
            SourceRoutes x = Check.net("nodes 3;link 0 1;again 9;" + (map == 1 ? "map 1;" : ""));
            x.send(0, 1);
            x.ticks(3);
            // END has a REST of itself alone; then it LEARNS the TRAIL backwards, a row of two.
            CHECK.due("DELIVERED", x.data(0, 2), 2);
            CHECK.dueCache(x, 1, map == 1 ? new int[] {0, 1} : new int[] {1, 0});
        }
    }

    /** DATA of 0 is salvaged at 2 and goes over 4 and 5 to 3: its TRAIL gets more than HOPS LINKS. */
    private static SourceRoutes longTrail(String more) {
        SourceRoutes x = Check.net("nodes 6;hops 3;link 0 1;link 1 2;link 2 4;link 4 5;link 5 3;map 2;again 9;" + more);
        x.send(2, 3);
        Check.go(x, 9);
        x.turn(2, 3, false);
        x.send(0, 3);
        Check.go(x, 8);
        x.turn(2, 3, true);
        x.ticks(4);
        CHECK.due("salvaged and DELIVERED", x.data(1, 2) + 10 * x.data(1, 3), 12);
        return x;
    }

    private static void theFirstHops() {
        CHECK.of("Terms 2, 'A CACHE LEARNS a row ... of more than HOPS LINKS: its first HOPS'");
        SourceRoutes x = longTrail("");
        CHECK.dueRow("TRAIL", i -> x.trail(1, i, false), 0, 1, 2, 4, 5, 3);
        CHECK.dueRow("HOPS LINKS, all of them", i -> x.kept(4, 0, i), 4, 2, 1, 0);
        CHECK.dueRow("one LINK more, the first ones", i -> x.kept(5, 0, i), 5, 4, 2, 1);
        CHECK.dueRow("two more, the first ones", i -> x.kept(3, 0, i), 3, 5, 4, 2);
        SourceRoutes y = longTrail("map 4;map 5;");
        CHECK.dueRow("MAP, the last of all", i -> y.kept(4, 0, i), 0, 1);
        CHECK.due("MAP of 4 has it", y.holders(0, 1) & 16, 16);
        CHECK.dueRow("MAP, the last of the first ones", i -> y.kept(5, 0, i), 1, 2);
        CHECK.due("MAP of 5 has not what is beyond", y.holders(0, 1) & 32, 0);
    }

    /** 0 has the PATHS 0 1 2, 0 4 and 0 1 2 3, the newest first; or a MAP of them. */
    private static SourceRoutes threePaths(String more) {
        SourceRoutes x = Check.net("nodes 6;wait 3;again 9;link 0 1;link 1 2;link 2 3;link 0 4;" + more);
        for (int from : new int[] {3, 4, 2}) {
            x.send(from, 5);
            x.ticks(6);
        }
        return x;
    }

    /** DATA of 0 to 3 meets the LINK 1 2 DOWN, and the ERROR of it comes to 0. */
    private static void breakBehindOne(SourceRoutes x) {
        x.turn(1, 2, true);
        x.send(0, 3);
        x.ticks(3);
        CHECK.due("an ERROR came", x.node(0, 5), 12);
    }

    private static void pathsEndAheadOfTheSecond() {
        CHECK.of("Terms 2, FORGETS, PATHS, 'each that has its two NODES side by side ends ahead of the second one',"
            + " 'each that ... is the same as a newer one, goes'");
        SourceRoutes x = threePaths("");
        CHECK.dueCache(x, 0, new int[] {0, 1, 2}, new int[] {0, 4}, new int[] {0, 1, 2, 3});
        breakBehindOne(x);
        CHECK.dueCache(x, 0, new int[] {0, 1}, new int[] {0, 4});
        // The greater one of the LINK comes first: the PATH ends with it.
        SourceRoutes y = Check.net("nodes 4;wait 3;again 9;link 0 2;link 2 1;");
        y.send(1, 3);
        y.ticks(6);
        CHECK.dueCache(y, 0, new int[] {0, 2, 1});
        y.turn(1, 2, true);
        y.send(0, 1);
        y.ticks(3);
        CHECK.dueCache(y, 0, new int[] {0, 2});
    }

    private static void pathsOfOneNodeGo() {
        CHECK.of("Terms 2, FORGETS, PATHS, 'each that has one NODE alone ... goes'");
        SourceRoutes x = threePaths("");
        x.turn(0, 4, true);
        x.send(0, 4);
        x.ticks(1);
        CHECK.dueCache(x, 0, new int[] {0, 1, 2}, new int[] {0, 1, 2, 3});
        x.turn(0, 1, true);
        x.send(0, 1);
        x.ticks(1);
        CHECK.dueCache(x, 0);
    }

    private static void notSideBySide() {
        CHECK.of("Terms 2, FORGETS, PATHS, 'each that has its two NODES side by side': others stay");
        SourceRoutes x = Check.net("nodes 4;wait 3;again 9;link 0 1;link 1 2;");
        x.send(2, 3);
        x.ticks(6);
        x.turn(0, 2, false);
        x.send(2, 3);
        x.ticks(6);
        CHECK.dueCache(x, 0, new int[] {0, 2}, new int[] {0, 1, 2});
        x.turn(0, 2, true);
        x.send(0, 2);
        x.ticks(1);
        CHECK.dueCache(x, 0, new int[] {0, 1, 2});
        CHECK.dueRow("and it is served by it", i -> x.trail(2, i, true), 0, 1, 2);
    }

    private static void mapForgets() {
        CHECK.of("Terms 2, FORGETS, 'MAP: the LINK goes, if it is known'");
        SourceRoutes x = threePaths("map 0;");
        CHECK.dueCache(x, 0, new int[] {1, 2}, new int[] {0, 1}, new int[] {0, 4}, new int[] {2, 3});
        breakBehindOne(x);
        CHECK.dueCache(x, 0, new int[] {0, 1}, new int[] {0, 4}, new int[] {2, 3});
        // 1 hears by the NEWS of 0 of a LINK that its MAP does not have.
        SourceRoutes y = Check.net("nodes 4;map 1;wait 3;again 9;link 0 2;link 1 3;");
        y.send(2, 3);
        y.send(3, 2);
        y.ticks(6);
        CHECK.dueCache(y, 1, new int[] {1, 3});
        y.turn(0, 2, true);
        y.turn(0, 1, false);
        y.send(0, 2);
        y.ticks(2);
        CHECK.due("NEWS of 0", y.node(0, 5), 2);
        CHECK.dueCache(y, 1, new int[] {0, 1}, new int[] {1, 3});
    }

    private static void wayOfPaths() {
        CHECK.of("Terms 2, WAY, PATHS, 'one with the fewest NODES, of several that of the newest PATH'");
        SourceRoutes x = Check.net("nodes 6;wait 6;again 9;");
        CHECK.due("no PATH", x.hops(0, 3), NONE);
        Check.bring(x, 5, 0, 1, 3);
        CHECK.dueRow("the one there is", i -> x.way(0, 3, i), 0, 1, 3);
        Check.bring(x, 5, 0, 2, 3);
        CHECK.dueRow("the newest", i -> x.way(0, 3, i), 0, 2, 3);
        Check.bring(x, 5, 0, 1, 3);
        CHECK.dueRow("the older one is the newest then", i -> x.way(0, 3, i), 0, 1, 3);
        Check.bring(x, 5, 0, 4, 2, 3);
        CHECK.dueRow("a newer one with more NODES", i -> x.way(0, 3, i), 0, 1, 3);
        CHECK.dueRow("a beginning of an older one", i -> x.way(0, 2, i), 0, 2);
        CHECK.dueRow("a beginning of the newest", i -> x.way(0, 4, i), 0, 4);
        Check.bring(x, 5, 0, 3);
        CHECK.dueRow("fewer NODES", i -> x.way(0, 3, i), 0, 3);
        CHECK.due("none has it", x.hops(0, 5), NONE);
        CHECK.due("to whom it has a WAY", x.node(0, 8), 30);
    }

    private static void wayOfAMap() {
        CHECK.of("Terms 2, WAY, MAP, 'with the fewest, of several the least by its NODES from the beginning on'");
        SourceRoutes x = Check.net("nodes 7;map 0;room 6;wait 6;again 9;");
        Check.bring(x, 6, 0, 4, 5, 3);
        CHECK.dueRow("the one there is", i -> x.way(0, 3, i), 0, 4, 5, 3);
        Check.bring(x, 6, 0, 4, 1, 3);
        CHECK.dueRow("a lesser second one", i -> x.way(0, 3, i), 0, 4, 1, 3);
        Check.bring(x, 6, 0, 2, 5);
        CHECK.dueRow("a lesser first one", i -> x.way(0, 3, i), 0, 2, 5, 3);
        Check.bring(x, 6, 0, 5);
        CHECK.dueRow("fewer", i -> x.way(0, 3, i), 0, 5, 3);
        Check.bring(x, 6, 0, 1);
        CHECK.dueRow("as few, and lesser", i -> x.way(0, 3, i), 0, 1, 3);
        CHECK.due("none known", x.hops(0, 6), NONE);
    }

    /** 0 knows the LINKS 0 1, 1 2 and 2 3, but forgot 0 2: three LINKS to 3. */
    private static SourceRoutes farInTheMap(int hops) {
        SourceRoutes x = Check.net("nodes 5;map 0;wait 6;again 9;hops " + hops + ";");
        Check.bring(x, 4, 0, 2, 3);
        Check.bring(x, 4, 0, 1, 2);
        x.send(0, 2);
        x.ticks(1);
        CHECK.due("0 forgot 0 2", x.holders(0, 2), 0);
        return x;
    }

    private static void wayOfAMapHasHops() {
        CHECK.of("Terms 2, WAY, MAP, '(none, if it takes more than HOPS)'; Promise 24, 'HOPS at most'");
        SourceRoutes x = farInTheMap(2);
        CHECK.due("HOPS LINKS", x.hops(0, 2), 2);
        CHECK.due("HOPS LINKS, mapped", x.mapped(0, 2), 2);
        CHECK.due("one more", x.hops(0, 3), NONE);
        CHECK.due("one more, its NODES", x.way(0, 3, 0), NONE);
        CHECK.due("one more, mapped", x.mapped(0, 3), NONE);
        CHECK.due("to whom it has a WAY", x.node(0, 8), 6);
        CHECK.due("the LINK is known all the same", x.holders(2, 3) & 1, 1);
        SourceRoutes y = farInTheMap(3);
        CHECK.due("with HOPS one more", y.hops(0, 3), 3);
        CHECK.due("with HOPS one more, mapped", y.mapped(0, 3), 3);
        CHECK.due("with HOPS one more, to whom", y.node(0, 8), 14);
    }

    public static void main(String[] args) {
        pathsAreRoom();
        theSamePathIsTheNewest();
        mapHasThreeTimesRoom();
        aKnownLinkIsTheNewest();
        oneNodeAlone();
        theFirstHops();
        pathsEndAheadOfTheSecond();
        pathsOfOneNodeGo();
        notSideBySide();
        mapForgets();
        wayOfPaths();
        wayOfAMap();
        wayOfAMapHasHops();
        CHECK.end("CacheBoundsTest");
    }
}
