import java.util.stream.IntStream;

/** Terms 3: the bounds of THE AIR, of DATA, BUFFERS and TICKS, on courses worked out by hand from the document. */
public final class TickBoundsTest {
    private static final int NONE = SourceRoutes.NONE;
    private static final Check CHECK = new Check();
    private static final String LINE = "nodes 4;link 0 1;link 1 2;link 2 3;again 9;";

    private static void dueData(SourceRoutes x, int data, int... want) {
        for (int what = 0; what < want.length; what++) {
            CHECK.due("at " + x.has(8) + " data(" + data + ", " + what + ")", x.data(data, what), want[what]);
        }
    }

    private static void dueFrame(SourceRoutes x, int k, int kind, int from, int to, int about, int... row) {
        String frame = "at " + x.has(8) + " FRAME " + k;
        CHECK.due(frame + ", its kind", x.air(k, 0), kind);
        CHECK.due(frame + ", who sent it", x.air(k, 1), from);
        CHECK.due(frame + ", to whom", x.air(k, 2), to);
        CHECK.due(frame + ", of what", x.air(k, 3), about);
        CHECK.dueRow(frame + ", its row", i -> x.row(k, i), row);
    }

    /** So many LINKS one behind the other, from 0 on. */
    private static String chain(int links) {
        StringBuilder s = new StringBuilder("nodes 8;again 9;wait 20;");
        for (int n = 0; n < links; n++) {
            s.append("link ").append(n).append(" ").append(n + 1).append(";");
        }
        return s.toString();
    }

    /** The row of four, when a DATA of 0 came to 3, at 9. */
    private static SourceRoutes line(String more) {
        SourceRoutes x = Check.net(LINE + more);
        x.send(0, 3);
        Check.go(x, 9);
        CHECK.due("DELIVERED at 9", x.data(0, 7), 9);
        return x;
    }

    /** Two REQUESTS of 1 are in THE AIR, and 0 has a WAY to 1: each DATA of 0 is one FRAME more. */
    private static SourceRoutes crowded(int data) {
        SourceRoutes x = Check.net("nodes 3;link 0 1;again 1;wait 20;");
        x.send(1, 2);
        x.ticks(1);
        for (int k = 1; k <= data; k++) {
            x.send(0, 1);
        }
        return x;
    }

    private static void airHasForty() {
        CHECK.of("Terms 3, 'THE AIR ... at most 40'");
        for (int data = 0; data <= 38; data++) {
            SourceRoutes x = crowded(data);
            CHECK.due("FRAMES with " + data + " DATA", x.has(10), 2 + data);
            CHECK.due("JAMMED with " + data + " DATA", x.tally(8), 0);
            CHECK.due("the last FRAME with " + data, x.air(1 + data, 0), data == 0 ? 1 : 0);
            CHECK.due("none behind with " + data, x.air(2 + data, 0), -2);
        }
    }

    private static void beyondFortyIsJammed() {
        CHECK.of("Terms 3, 'one sent beyond that is JAMMED: it is not there (DATA is LOST)'");
        SourceRoutes x = crowded(38);
        CHECK.due("the 40th", x.data(38, 2), 1);
        CHECK.due("a 41st is sent", x.send(0, 1), 39);
        dueData(x, 39, 0, 1, 3, 0, 1, 0, 1, 1, 0);
        CHECK.due("FRAMES", x.has(10), 40);
        CHECK.due("the last one is the 40th", x.air(39, 3), 38);
        CHECK.due("the 41st is not there", x.air(40, 0), -2);
        CHECK.due("its row is not there", x.row(40, 0), NONE);
        CHECK.due("DATA that came into THE AIR", x.tally(0), 38);
        CHECK.due("JAMMED", x.tally(8), 1);
        CHECK.due("LOST", x.tally(10), 1);
        x.ticks(1);
        CHECK.due("all that were there came", x.tally(9), 38);
    }

    private static void aJammedRequest() {
        CHECK.of("Terms 3, 'one sent beyond that is JAMMED': a REQUEST; 'It ASKS for it from then on'");
        SourceRoutes x = crowded(38);
        CHECK.due("DATA without a WAY", x.send(2, 0), 39);
        dueData(x, 39, 2, 0, 0, 0, 1, 0, 1, NONE, 0);
        CHECK.due("FRAMES", x.has(10), 40);
        CHECK.due("JAMMED", x.tally(8), 1);
        CHECK.due("LOST", x.tally(10), 0);
        CHECK.due("REQUESTS that came into THE AIR", x.tally(1), 3);
        CHECK.due("count of REQUESTS", x.node(2, 4), 1);
        CHECK.due("it ASKS", x.node(2, 7), 1);
    }

    /** All are NEAR to all: the last of six REQUESTS makes seven more FRAMES where there is room for five. */
    private static void jammedInATick() {
        CHECK.of("Terms 3, 'one sent beyond that is JAMMED': a REQUEST and a REPLY in a TICK");
        StringBuilder all = new StringBuilder("nodes 8;");
        for (int a = 0; a < 8; a++) {
            for (int b = a + 1; b < 8; b++) {
                all.append("link ").append(a).append(" ").append(b).append(";");
            }
        }
        for (int askers = 5; askers <= 6; askers++) {
            SourceRoutes x = Check.net(all.toString());
            for (int n = 0; n < askers; n++) {
                x.send(n, 7);
            }
            x.ticks(1);
            CHECK.due("FRAMES of " + askers, x.has(10), askers == 5 ? 35 : 40);
            CHECK.due("JAMMED of " + askers, x.tally(8), askers == 5 ? 0 : 2);
            CHECK.due("REQUESTS of " + askers, x.tally(1), askers == 5 ? 35 : 41);
            CHECK.due("REPLIES of " + askers, x.tally(2), 5);
        }
    }

    /** The document leaves it open: NOTES.md says how it is read. */
    private static void framesLeaveAsTheyArrive() {
        CHECK.of("Terms 3, 'at most 40' in a TICK, as NOTES.md reads it: each FRAME leaves as it arrives");
        SourceRoutes x = Check.net("nodes 6;link 4 5;link 0 1;link 0 2;link 0 3;again 1;wait 20;");
        x.send(4, 1);
        x.ticks(1);
        x.send(0, 4);
        for (int k = 0; k < 37; k++) {
            x.send(5, 4);
        }
        CHECK.due("FRAMES", x.has(10), 40);
        // Ahead of the 37 DATA: 5's, that none sends on; 4's, that 5 sends on; 0's, that 1, 2 and 3 would send on.
        CHECK.due("JAMMED", x.ahead(1, 8), 1);
        CHECK.due("FRAMES then", x.ahead(1, 11), 5);
    }

    private static void dataAreForty() {
        CHECK.of("Terms 3, 'DATA, at most 40, from 0 on'; Promise 5, 'NONE: ... there are 40'; Promise 28, 'refused'");
        SourceRoutes x = Check.net("nodes 8;");
        CHECK.due("none at first", x.data(0, 0), -2);
        for (int k = 0; k < 40; k++) {
            CHECK.due("IF it were sent as " + k, x.sent(k % 8, (k + 1) % 8, 0, 0), k % 8);
            CHECK.due("sent as " + k, x.send(k % 8, (k + 1) % 8), k);
            CHECK.due("DATA", x.has(9), k + 1);
        }
        int requests = x.tally(1);
        CHECK.due("IF a 41st were sent", x.sent(7, 3, 0, 0), -2);
        CHECK.due("a 41st", x.send(7, 3), NONE);
        CHECK.due("DATA stay", x.has(9), 40);
        CHECK.due("nobody ASKS", x.tally(1), requests);
        CHECK.due("the 40th", x.data(39, 0), 7);
        CHECK.due("the 41st is not there", x.data(40, 0), -2);
    }

    private static void bufferIsFull() {
        CHECK.of("Terms 3, 'if BUFFER has as many as may be, it is LOST instead (and nobody ASKS)'");
        for (int buffer = 1; buffer <= 4; buffer++) {
            SourceRoutes x = Check.net("nodes 8;buffer " + buffer + ";");
            for (int k = 0; k < buffer; k++) {
                x.send(0, 1 + k);
                CHECK.due("BUFFERED", x.data(k, 2), 0);
                CHECK.due("the last one in BUFFER", x.waits(0, k), k);
            }
            CHECK.due("as many as may be", x.node(0, 3), buffer);
            x.send(0, 7);
            dueData(x, buffer, 0, 7, 3, 0, 1, 0, 0, 0, 0);
            x.send(0, 1);
            dueData(x, buffer + 1, 0, 1, 3, 0, 1, 0, 0, 0, 0);
            CHECK.due("no more in BUFFER", x.node(0, 3), buffer);
            CHECK.due("none at its end", x.waits(0, buffer), NONE);
            CHECK.due("REQUESTS", x.node(0, 4), buffer);
            CHECK.due("nobody ASKS for 7", x.node(0, 7), (2 << buffer) - 2);
            CHECK.due("LOST", x.tally(10), 2);
            x.send(1, 7);
            CHECK.due("another BUFFER has room", x.data(buffer + 2, 2), 0);
        }
    }

    private static void bufferIsFullAtABreak() {
        CHECK.of("Terms 3, (a), 'If x is ORIGIN: this LINK is its NEWS, and it SERVES the DATA', BUFFER full or not");
        for (int buffer = 1; buffer <= 2; buffer++) {
            SourceRoutes x = Check.net("nodes 4;link 0 1;wait 20;again 9;buffer " + buffer + ";");
            x.send(1, 3);
            x.ticks(1);
            x.turn(0, 1, true);
            x.send(0, 1);
            x.send(0, 2);
            CHECK.due("IN THE AIR", x.data(1, 2), 1);
            x.ticks(1);
            CHECK.due("BREAKS", x.tally(6), 1);
            CHECK.due("NEWS", x.node(0, 5), 1);
            CHECK.due("no ERROR", x.tally(3), 0);
            CHECK.due("LOST, or BUFFERED", x.data(1, 2), buffer == 1 ? 3 : 0);
            CHECK.due("in BUFFER", x.node(0, 3), buffer);
            CHECK.due("ASKS for 2, or for 1 too", x.node(0, 7), buffer == 1 ? 4 : 6);
            CHECK.due("REQUESTS", x.node(0, 4), buffer);
        }
    }

    private static void asksIfItDoesNotYet() {
        CHECK.of("Terms 3, 'ORIGIN ASKS for END, if it does not ASK for it already'");
        SourceRoutes x = Check.net("nodes 4;again 9;buffer 4;");
        x.send(0, 2);
        x.send(0, 2);
        CHECK.due("one REQUEST for two DATA", x.node(0, 4), 1);
        x.send(0, 3);
        CHECK.due("another END", x.node(0, 4), 2);
        x.ticks(1);
        x.send(0, 2);
        CHECK.due("still ASKED for", x.node(0, 4), 2);
    }

    private static void theNumberOfARequest() {
        CHECK.of("Terms 3, 'its count of REQUESTS is one more, and that is the REQUEST's number', '(a LINK, or none: at first)'");
        SourceRoutes x = Check.net("nodes 8;wait 1;");
        CHECK.due("count at first", x.node(7, 4), 0);
        for (int k = 1; k <= 3; k++) {
            x.send(7, 0);
            CHECK.due("count", x.node(7, 4), k);
            CHECK.due("number", x.air(0, 4), k);
            CHECK.due("no NEWS", x.air(0, 5), NONE);
            dueFrame(x, 0, 1, 7, NONE, 0, 7);
            x.ticks(1);
        }
    }

    private static void framesOfATickArriveInTheNext() {
        CHECK.of("Terms 3, '(such as are sent in the TICK arrive in the next one)'");
        SourceRoutes x = Check.net(chain(6));
        x.send(0, 7);
        for (int tick = 1; tick <= 6; tick++) {
            x.ticks(1);
            CHECK.due("came at " + tick, x.node(tick, 6), 1);
            CHECK.due("not further at " + tick, x.node(tick + 1, 6), 0);
            CHECK.due("one FRAME at " + tick, x.has(10), 1);
        }
    }

    /** 1 knows five ways to 7, all of which begin with a LINK that is DOWN by now; 0 has one over 1. */
    private static SourceRoutes brokenHub(int salvage) {
        SourceRoutes x = Check.net("nodes 8;map 1;wait 3;again 9;salvage " + salvage
            + ";link 7 2;link 7 3;link 7 4;link 7 5;link 7 6;");
        for (int n = 2; n <= 6; n++) {
            x.turn(1, n, false);
            x.send(7, 0);
            x.ticks(6);
            x.turn(1, n, true);
        }
        x.turn(0, 1, false);
        x.send(0, 7);
        x.ticks(3);
        CHECK.due("at 1, by " + salvage, x.data(5, 4), 2);
        return x;
    }

    private static void salvagedLessThanSalvage() {
        CHECK.of("Terms 3, (a), 'if the DATA was salvaged less than SALVAGE times'");
        for (int salvage = 0; salvage <= 3; salvage++) {
            SourceRoutes x = brokenHub(salvage);
            for (int k = 1; k <= salvage; k++) {
                x.ticks(1);
                dueData(x, 5, 0, 7, 1, k, 2, 3, 30, NONE, 0);
                int next = 2 + k;
                CHECK.dueRow("its REST", i -> x.trail(5, i, true), 1, next, 7);
                CHECK.due("BREAKS", x.tally(6), k);
                CHECK.due("salvaged", x.tally(4), k);
            }
            x.ticks(1);
            dueData(x, 5, 0, 7, 3, salvage, 2, 0, 30, 34 + salvage, 0);
            CHECK.due("BREAKS at last", x.tally(6), salvage + 1);
            CHECK.due("ERRORS at last", x.tally(3), salvage + 1);
            CHECK.due("salvaged at last", x.tally(4), salvage);
            CHECK.due("there was a WAY yet", x.hops(1, 7), 2);
        }
    }

    private static void salvagedWithoutALoop() {
        CHECK.of("Terms 3, (a), 'a WAY of x to END that has no NODE of the TRAIL but x'");
        SourceRoutes x = Check.net("nodes 6;wait 6;again 9;salvage 3;");
        Check.bring(x, 5, 2, 1, 3);
        Check.bring(x, 5, 0, 1, 2, 3);
        x.turn(0, 1, false);
        x.turn(1, 2, false);
        x.send(0, 3);
        CHECK.dueRow("over 1 and 2", i -> x.trail(2, i, true), 0, 1, 2, 3);
        x.ticks(3);
        dueData(x, 2, 0, 3, 3, 0, 3, 0, 12, 15, 0);
        CHECK.dueRow("2 has a WAY, over the TRAIL", i -> x.way(2, 3, i), 2, 1, 3);
        CHECK.due("the ERROR is sent all the same", x.tally(3), 1);
        SourceRoutes y = Check.net("nodes 3;link 0 1;link 1 2;again 9;salvage 3;");
        y.send(0, 2);
        y.ticks(5);
        y.turn(1, 2, true);
        y.ticks(1);
        CHECK.due("no WAY at all", y.data(0, 2), 3);
    }

    private static void servedAtOnce() {
        CHECK.of("Terms 3, 'ORIGIN SERVES it: if there is a WAY to END, that is its REST', at a BREAK");
        SourceRoutes x = Check.net("nodes 4;map 0;link 0 1;link 1 2;wait 3;again 9;salvage 0;");
        x.send(2, 3);
        x.ticks(6);
        x.turn(0, 2, false);
        x.send(2, 3);
        x.ticks(6);
        x.turn(0, 2, true);
        x.send(0, 2);
        CHECK.dueRow("by the shorter WAY", i -> x.trail(2, i, true), 0, 2);
        x.ticks(1);
        CHECK.dueRow("by the other one", i -> x.trail(2, i, true), 0, 1, 2);
        dueData(x, 2, 0, 2, 1, 0, 1, 3, 12, NONE, 0);
        CHECK.due("it is not salvaged", x.tally(4), 0);
        CHECK.due("it did not ASK", x.node(0, 4), 0);
    }

    private static void whoLearnsFromData() {
        CHECK.of("Terms 3, (a), 'each of NEAR that LISTENS and is not in the TRAIL LEARNS'");
        SourceRoutes x = line("");
        CHECK.dueCache(x, 0, new int[] {0, 1, 2, 3});
        CHECK.dueCache(x, 1, new int[] {1, 0}, new int[] {1, 2, 3});
        CHECK.dueCache(x, 2, new int[] {2, 1, 0}, new int[] {2, 3});
        CHECK.dueCache(x, 3, new int[] {3, 2, 1, 0});
        x.turn(0, 3, false);
        x.send(0, 1);
        x.ticks(1);
        CHECK.dueRow("one that is NEAR", i -> x.kept(3, 0, i), 3, 0);
        CHECK.due("is not in the REST", x.tally(5), 0);
        SourceRoutes y = line("deaf 3;");
        y.turn(0, 3, false);
        y.send(0, 1);
        y.ticks(1);
        CHECK.dueCache(y, 3, new int[] {3, 2, 1, 0});
    }

    private static void restAndTrailAreLearned() {
        CHECK.of("Terms 3, (a), 'y LEARNS the REST from y on, then the TRAIL backwards from y on'");
        SourceRoutes x = Check.net("nodes 7;room 2;wait 6;again 9;");
        Check.bring(x, 6, 0, 1, 2, 3);
        Check.bring(x, 6, 1, 4);
        Check.bring(x, 6, 1, 5);
        CHECK.dueCache(x, 1, new int[] {1, 5}, new int[] {1, 4});
        x.turn(0, 1, false);
        x.send(0, 3);
        x.ticks(1);
        CHECK.dueCache(x, 1, new int[] {1, 0}, new int[] {1, 2, 3});
    }

    /** 0 is NEAR all of the row 3 2 1, and so are 4, that is DEAF, and 5. */
    private static SourceRoutes listeners() {
        SourceRoutes x = Check.net("nodes 7;deaf 4;wait 6;again 9;");
        Check.bring(x, 6, 3, 2, 1);
        Check.bring(x, 6, 0, 2, 1);
        Check.bring(x, 6, 4, 2, 1);
        Check.bring(x, 6, 5, 2, 1);
        x.turn(3, 2, false);
        for (int z : new int[] {0, 4, 5}) {
            x.turn(3, z, false);
            x.turn(2, z, false);
        }
        return x;
    }

    private static void errorsAreHeard() {
        CHECK.of("Terms 3, (d), 'Then each of NEAR but y that LISTENS FORGETS the LINK told of'");
        SourceRoutes x = listeners();
        x.send(3, 1);
        CHECK.dueRow("over 2", i -> x.trail(4, i, true), 3, 2, 1);
        CHECK.due("all of them know it", x.holders(1, 2), 1 | 4 | 8 | 16 | 32);
        x.ticks(1);
        CHECK.dueRow("0 heard the DATA", i -> x.kept(0, 0, i), 0, 3);
        CHECK.dueRow("5 heard the DATA", i -> x.kept(5, 0, i), 5, 3);
        CHECK.dueCache(x, 4, new int[] {4, 2, 1});
        x.ticks(1);
        dueFrame(x, 0, 3, 2, 3, 12, 2, 3);
        CHECK.due("2 forgot", x.holders(1, 2), 1 | 8 | 16 | 32);
        x.ticks(1);
        CHECK.due("3, and 0 and 5 that heard it; not 4", x.holders(1, 2), 16);
        CHECK.dueCache(x, 0, new int[] {0, 3}, new int[] {0, 2});
        // One whose LINK with the sender is DOWN hears nothing, be it NEAR the one that it is sent to.
        SourceRoutes y = listeners();
        y.send(3, 1);
        y.ticks(2);
        y.turn(0, 2, true);
        y.ticks(1);
        CHECK.due("5 heard it; 0 is not NEAR any more", y.holders(1, 2), 1 | 16);
    }

    private static void repliesAreHeard() {
        CHECK.of("Terms 3, (c), 'Then each of NEAR but y that LISTENS and is not in the row from x on LEARNS'");
        SourceRoutes x = Check.net("nodes 6;link 3 2;link 2 1;link 2 0;link 2 4;link 1 5;link 1 0;deaf 4;again 9;");
        x.send(3, 1);
        x.ticks(2);
        dueFrame(x, 0, 1, 0, NONE, 1, 3, 2, 0);
        dueFrame(x, 1, 2, 1, 2, 1, 3, 2, 1);
        x.ticks(1);
        CHECK.dueRow("0 heard 1", i -> x.kept(0, 0, i), 0, 1);
        CHECK.dueRow("5 heard 1", i -> x.kept(5, 0, i), 5, 1);
        x.ticks(1);
        CHECK.dueRow("0 heard 2", i -> x.kept(0, 0, i), 0, 2, 1);
        CHECK.dueCache(x, 4, new int[] {4, 2, 3});
        CHECK.due("the first one has it", x.hops(3, 1), 2);
        CHECK.due("1 is in the row from 2 on", x.node(1, 2), 1);
    }

    private static void shortenedOnce() {
        CHECK.of("Terms 3, (a), 'if it is in the REST behind y and did not shorten this DATA yet'");
        SourceRoutes x = line("");
        x.turn(0, 3, false);
        x.turn(1, 3, false);
        x.send(0, 3);
        x.ticks(1);
        CHECK.due("END shortens", x.data(1, 8), 8);
        dueFrame(x, 0, 2, 3, 0, 3, 0, 3);
        dueFrame(x, 1, 0, 1, 2, 1, 1, 2, 3);
        CHECK.due("two FRAMES", x.has(10), 2);
        x.ticks(1);
        CHECK.dueRow("it heard it again", i -> x.kept(3, 0, i), 3, 1, 0);
        CHECK.due("it does not again", x.tally(5), 1);
        CHECK.due("one FRAME", x.has(10), 1);
        x.send(0, 1);
        x.send(1, 3);
        x.ticks(1);
        dueData(x, 1, 0, 3, 2, 0, 4, 0, 9, 12, 8);
        CHECK.due("nor of others, that are short", x.tally(5), 1);
    }

    private static void shortenedByEach() {
        CHECK.of("Terms 3, (a), 'it sends a REPLY to x, of the row of the TRAIL up to x and then of the REST from itself on'");
        SourceRoutes x = line("");
        x.turn(0, 2, false);
        x.turn(0, 3, false);
        x.send(0, 3);
        x.ticks(1);
        CHECK.due("both of them", x.data(1, 8), 12);
        dueFrame(x, 0, 2, 2, 0, 3, 0, 2, 3);
        dueFrame(x, 1, 2, 3, 0, 3, 0, 3);
        SourceRoutes y = line("");
        y.turn(1, 3, false);
        y.send(0, 3);
        y.ticks(2);
        dueFrame(y, 0, 2, 3, 1, 3, 0, 1, 3);
        CHECK.due("y does not shorten", y.data(1, 8), 8);
    }

    private static void requestHasHops() {
        CHECK.of("Terms 3, (b), 'if the row and z have fewer than HOPS LINKS, it sends the REQUEST on'");
        for (int hops = 1; hops <= 7; hops++) {
            SourceRoutes x = Check.net(chain(6) + "hops " + hops + ";");
            x.send(0, 7);
            Check.go(x, 8);
            CHECK.due("REQUESTS sent with HOPS " + hops, x.tally(1), hops);
            for (int n = 1; n <= 6; n++) {
                CHECK.due("came to " + n + " with HOPS " + hops, x.node(n, 6), n <= hops ? 1 : 0);
            }
        }
    }

    private static void endAtHops() {
        CHECK.of("Terms 2, 'A ROUTE ... with HOPS LINKS at most': END so far away, and one further");
        for (int hops = 1; hops <= 7; hops++) {
            SourceRoutes x = Check.net(chain(7) + "hops " + hops + ";");
            x.send(0, hops);
            Check.go(x, hops);
            int[] row = IntStream.rangeClosed(0, hops).toArray();
            dueFrame(x, 0, 2, hops, hops - 1, hops, row);
            CHECK.dueCache(x, hops, IntStream.rangeClosed(-hops, 0).map(n -> -n).toArray());
            Check.go(x, hops);
            CHECK.due("a WAY of " + hops, x.hops(0, hops), hops);
            if (hops < 7) {
                SourceRoutes y = Check.net(chain(7) + "hops " + hops + ";");
                y.send(0, hops + 1);
                Check.go(y, 8);
                CHECK.due("no REPLY from beyond " + hops, y.tally(2), 0);
            }
        }
    }

    private static void knownWayIsARoute() {
        CHECK.of("Terms 3, (b), 'if z has a WAY to t, and the row and this WAY behind it are a ROUTE': its LINKS");
        for (int hops = 2; hops <= 3; hops++) {
            SourceRoutes x = Check.net(LINE + "hops " + hops + ";");
            x.send(1, 3);
            x.ticks(6);
            CHECK.due("DELIVERED", x.data(0, 2), 2);
            CHECK.due("1 has a WAY", x.hops(1, 3), 2);
            x.send(0, 3);
            x.ticks(1);
            if (hops == 3) {
                dueFrame(x, 0, 2, 1, 0, 3, 0, 1, 2, 3);
            } else {
                dueFrame(x, 0, 1, 1, NONE, 3, 0, 1);
                x.ticks(1);
                CHECK.due("2 has a WAY", x.hops(2, 3), 1);
                CHECK.due("nothing comes of it", x.has(10), 0);
            }
        }
    }

    private static void knownWayHasNoneTwice() {
        CHECK.of("Terms 2, 'A ROUTE is a row of two or more NODES, none twice'; Terms 3, (b), 'are a ROUTE'");
        SourceRoutes x = Check.net("nodes 4;room 1;map 1;link 0 1;link 0 3;again 9;");
        x.send(1, 3);
        x.ticks(6);
        x.turn(0, 3, true);
        CHECK.dueRow("1 has a WAY over 0", i -> x.way(1, 3, i), 1, 0, 3);
        x.send(0, 3);
        CHECK.due("0 has none", x.data(1, 2), 0);
        x.ticks(1);
        dueFrame(x, 0, 1, 1, NONE, 3, 0, 1);
        CHECK.due("one FRAME", x.has(10), 1);
    }

    private static void tableIsFull() {
        CHECK.of("Terms 3, (b), 'come into the TABLE (of more than TABLE the oldest goes)'");
        for (int table = 1; table <= 6; table++) {
            SourceRoutes x = Check.net("nodes 8;hops 1;again 9;link 0 1;link 0 2;link 0 3;link 0 4;link 0 5;link 0 6;"
                + "link 0 7;table " + table + ";");
            for (int n = 1; n <= table + 1; n++) {
                x.send(n, n == 1 ? 2 : 1);
                x.ticks(1);
                CHECK.due("entries", x.node(0, 6), Math.min(n, table));
                CHECK.due("the newest", x.seen(0, 0), 100000 * n + 1);
                CHECK.due("the oldest", x.seen(0, Math.min(n, table) - 1), n > table ? 200001 : 100001);
                CHECK.due("none behind it", x.seen(0, Math.min(n, table)), NONE);
            }
        }
    }

    /** A REQUEST comes to 3 over 1, and one TICK later over 2 and 4; between them comes one of 5. */
    private static void duplicateByTable() {
        CHECK.of("Terms 3, (b), 'If z is in the row or z's TABLE has i and this number: it is a DUPLICATE, nothing more'");
        for (int table = 1; table <= 2; table++) {
            SourceRoutes x = Check.net("nodes 7;link 0 1;link 1 3;link 0 2;link 2 4;link 4 3;link 5 3;again 9;wait 20;table "
                + table + ";");
            x.send(0, 6);
            x.ticks(1);
            x.send(5, 6);
            x.ticks(1);
            CHECK.due("0 is in both rows", x.tally(7), 2);
            CHECK.due("and has no entry of them", x.node(0, 6), 0);
            CHECK.due("what 3 has", x.node(3, 6), table);
            x.ticks(1);
            CHECK.due("DUPLICATES", x.tally(7), table == 1 ? 6 : 7);
            CHECK.due("newest at 3", x.seen(3, 0), table == 1 ? 1 : 500001);
            if (table == 1) {
                CHECK.dueRow("it was new to 3", i -> x.kept(3, 0, i), 3, 4, 2, 0);
            } else {
                CHECK.dueRow("it was not new to 3", i -> x.kept(3, 0, i), 3, 5);
            }
        }
    }

    private static void newsOfADuplicate() {
        CHECK.of("Terms 3, (b), 'z FORGETS the LINK that is the NEWS', a DUPLICATE too");
        SourceRoutes x = Check.net("nodes 4;link 0 1;link 1 2;wait 20;again 9;");
        x.send(0, 3);
        x.ticks(3);
        x.turn(0, 1, true);
        x.send(1, 0);
        x.ticks(1);
        CHECK.due("the REQUEST of 1 has NEWS", x.air(0, 5), 1);
        x.turn(0, 1, false);
        x.send(0, 2);
        x.ticks(1);
        CHECK.due("2 sends it on with the NEWS", x.air(1, 1) * 10 + x.air(1, 5), 21);
        CHECK.dueCache(x, 2, new int[] {2, 1});
        CHECK.dueCache(x, 1, new int[] {1, 0});
        int before = x.tally(7);
        x.ticks(1);
        // 1 LEARNS it once more from the REPLY; then its own REQUEST comes back to it.
        CHECK.dueCache(x, 1);
        CHECK.due("DUPLICATES, at 1 and at 0", x.tally(7), before + 2);
    }

    private static void replyUpToTheFirst() {
        CHECK.of("Terms 3, (c), 'if y is not the first one, it sends the REPLY on to the one ahead of it'");
        for (int links = 1; links <= 3; links++) {
            SourceRoutes x = Check.net(LINE);
            x.send(0, links);
            Check.go(x, 2 * links);
            CHECK.due("REPLIES over " + links, x.tally(2), links);
            CHECK.due("it came over " + links, x.hops(0, links), links);
            CHECK.due("DATA alone is in THE AIR", x.has(10) + 10 * x.air(0, 0), 1);
        }
    }

    private static void replyMeetsDown() {
        CHECK.of("Terms 3, (c), 'If the LINK is DOWN: x FORGETS it, nothing more'");
        SourceRoutes x = Check.net("nodes 5;link 0 1;link 1 2;link 2 4;again 9;wait 20;");
        x.send(0, 2);
        x.ticks(2);
        dueFrame(x, 0, 2, 2, 1, 2, 0, 1, 2);
        x.turn(1, 2, true);
        CHECK.dueCache(x, 2, new int[] {2, 1, 0});
        x.ticks(1);
        CHECK.dueCache(x, 2);
        CHECK.dueCache(x, 4);
        CHECK.due("1 does not know 2", x.hops(1, 2), NONE);
        CHECK.due("no FRAME", x.has(10), 0);
        CHECK.due("no BREAK", x.tally(6), 0);
        CHECK.due("no NEWS", x.node(2, 5), NONE);
    }

    private static void errorMeetsDown() {
        CHECK.of("Terms 3, (d), 'If the LINK between x and y is DOWN: x FORGETS that one, nothing more'");
        SourceRoutes x = listeners();
        x.send(3, 1);
        x.ticks(2);
        dueFrame(x, 0, 3, 2, 3, 12, 2, 3);
        x.turn(2, 3, true);
        CHECK.due("2 knows it", x.holders(2, 3) & 4, 4);
        x.ticks(1);
        CHECK.due("2 forgot it", x.holders(2, 3) & 4, 0);
        CHECK.due("nobody else heard of the other one", x.holders(1, 2), 1 | 8 | 16 | 32);
        CHECK.due("no NEWS", x.node(3, 5), NONE);
        CHECK.due("no FRAME", x.has(10), 0);
        CHECK.due("BREAKS, of the DATA alone", x.tally(6), 1);
    }

    private static void nearByNumbers() {
        CHECK.of("Terms 3, 'NEAR are the other NODES whose LINK with x is UP, by numbers'");
        SourceRoutes x = Check.net("nodes 8;link 4 7;link 4 0;link 4 5;link 4 2;again 9;");
        x.send(4, 6);
        x.ticks(1);
        int[] near = {0, 2, 5, 7};
        CHECK.due("FRAMES", x.has(10), near.length);
        for (int k = 0; k < near.length; k++) {
            dueFrame(x, k, 1, near[k], NONE, 6, 4, near[k]);
        }
        x.turn(4, 0, true);
        x.turn(4, 1, false);
        x.send(4, 3);
        x.ticks(1);
        CHECK.due("one that is DOWN by now", x.node(0, 6), 1);
        CHECK.due("one that is UP by now", x.node(1, 6), 1);
        CHECK.due("the others", x.node(2, 6), 2);
    }

    private static void errorUpToOrigin() {
        CHECK.of("Terms 3, (d), 'if y is ORIGIN, that LINK is its NEWS, else it sends the ERROR on to the next one back'");
        SourceRoutes x = line("");
        x.turn(2, 3, true);
        x.send(0, 3);
        x.ticks(3);
        dueFrame(x, 0, 3, 2, 1, 23, 2, 1, 0);
        x.ticks(1);
        dueFrame(x, 0, 3, 1, 0, 23, 1, 0);
        CHECK.due("no NEWS of one between", x.node(1, 5), NONE);
        CHECK.due("not yet", x.node(0, 5), NONE);
        x.ticks(1);
        CHECK.due("NEWS of ORIGIN", x.node(0, 5), 23);
        CHECK.due("no NEWS of the one that met it", x.node(2, 5), NONE);
        CHECK.due("no FRAME more", x.has(10), 0);
        CHECK.due("ERRORS", x.tally(3), 2);
        CHECK.due("all three forgot", x.holders(2, 3), 8);
        SourceRoutes y = line("");
        y.turn(1, 2, true);
        y.send(0, 3);
        y.ticks(3);
        CHECK.due("from the first one on", y.tally(3), 1);
        CHECK.due("its NEWS", y.node(0, 5), 12);
    }

    private static void waitsForWait() {
        CHECK.of("Terms 3, 'else, if it is there for WAIT TICKS or more, it is LOST'");
        for (int wait = 1; wait <= 20; wait++) {
            SourceRoutes x = Check.net("again 9;wait " + wait + ";");
            x.ticks(5);
            x.send(0, 1);
            Check.go(x, wait - 1);
            CHECK.due("one TICK less than " + wait, x.data(0, 2), 0);
            CHECK.due("in BUFFER", x.waits(0, 0), 0);
            x.ticks(1);
            dueData(x, 0, 0, 1, 3, 0, 1, 0, 5, 5 + wait, 0);
            CHECK.due("BUFFER is empty", x.waits(0, 0), NONE);
        }
    }

    private static void waitsAnew() {
        CHECK.of("Terms 3, 'it comes into the BUFFER of ORIGIN as the last one, at NOW', after a BREAK");
        SourceRoutes x = Check.net("nodes 4;link 0 1;wait 3;again 9;");
        x.send(1, 3);
        x.ticks(1);
        x.turn(0, 1, true);
        x.send(0, 1);
        x.send(0, 2);
        x.ticks(1);
        CHECK.dueRow("BUFFER", k -> x.waits(0, k), 2, 1);
        x.ticks(2);
        CHECK.due("the other one is LOST at 4", x.data(2, 7), 4);
        CHECK.due("it is there for 2 TICKS", x.data(1, 2), 0);
        x.ticks(1);
        dueData(x, 1, 0, 1, 3, 0, 1, 0, 1, 5, 0);
    }

    private static void aWayAtTheLastTick() {
        CHECK.of("Terms 3, 'a DATA for which there is a WAY now leaves it ...; else', at WAIT");
        SourceRoutes x = Check.net("link 0 1;wait 2;");
        x.send(0, 1);
        x.ticks(2);
        CHECK.due("a WAY at WAIT TICKS", x.data(0, 2), 1);
        SourceRoutes y = Check.net("link 0 1;wait 1;");
        y.send(0, 1);
        y.ticks(1);
        CHECK.due("one TICK later than WAIT", y.data(0, 2), 3);
        y.ticks(1);
        CHECK.due("the WAY is of no use", y.hops(0, 1), 1);
        CHECK.due("no FRAME", y.has(10), 0);
    }

    private static void bufferDrainsInOrder() {
        CHECK.of("Terms 3, 'its BUFFER from the first one on'");
        SourceRoutes x = Check.net("nodes 4;link 0 1;buffer 4;again 9;");
        x.send(0, 2);
        x.send(0, 1);
        x.send(0, 3);
        x.send(0, 1);
        x.ticks(2);
        CHECK.dueRow("BUFFER", k -> x.waits(0, k), 0, 2);
        int last = x.has(10);
        CHECK.due("the first to leave", x.air(last - 2, 3), 1);
        CHECK.due("the last to leave", x.air(last - 1, 3), 3);
        CHECK.due("for whom it ASKS", x.node(0, 7), 12);
        SourceRoutes y = Check.net("link 0 1;buffer 4;again 9;");
        for (int k = 0; k < 4; k++) {
            y.send(0, 1);
        }
        y.ticks(2);
        CHECK.due("all leave", y.node(0, 3), 0);
        CHECK.due("for nobody", y.node(0, 7), 0);
        for (int k = 0; k < 4; k++) {
            dueFrame(y, k, 0, 0, 1, k, 0, 1);
        }
    }

    private static void asksAfterAgain() {
        CHECK.of("Terms 3, 'else, if it ASKED AGAIN TICKS ago or more, it ASKS for it'");
        for (int again = 1; again <= 9; again++) {
            SourceRoutes x = Check.net("wait 20;again " + again + ";");
            x.ticks(2);
            x.send(0, 1);
            for (int round = 1; round <= 2; round++) {
                Check.go(x, again - 1);
                CHECK.due("one TICK less than " + again, x.node(0, 4), round);
                x.ticks(1);
                CHECK.due(again + " TICKS", x.node(0, 4), round + 1);
                CHECK.due("its number", x.air(0, 4), round + 1);
            }
        }
    }

    private static void asksByNumbers() {
        CHECK.of("Terms 3, 'for each NODE for which it ASKS, by numbers'");
        SourceRoutes x = Check.net("nodes 8;again 2;");
        x.send(0, 7);
        x.send(0, 2);
        x.send(0, 5);
        x.ticks(2);
        CHECK.due("FRAMES", x.has(10), 3);
        int[] asked = {2, 5, 7};
        for (int k = 0; k < 3; k++) {
            CHECK.due("asked for as " + k, x.air(k, 3), asked[k]);
            CHECK.due("number as " + k, x.air(k, 4), 4 + k);
        }
    }

    private static void asksNoMore() {
        CHECK.of("Terms 3, 'if there is no DATA to that in its BUFFER, it does not ASK for it any more'");
        SourceRoutes x = Check.net("nodes 3;wait 3;again 3;");
        x.send(0, 1);
        x.ticks(1);
        x.send(0, 2);
        x.ticks(1);
        CHECK.due("for both", x.node(0, 7), 6);
        x.ticks(1);
        CHECK.due("LOST at 3", x.data(0, 7), 3);
        CHECK.due("for the other one", x.node(0, 7), 4);
        CHECK.due("no REQUEST more", x.node(0, 4), 2);
        x.send(0, 1);
        CHECK.due("anew", x.node(0, 4), 3);
        CHECK.due("for both again", x.node(0, 7), 6);
    }

    public static void main(String[] args) {
        airHasForty();
        beyondFortyIsJammed();
        aJammedRequest();
        jammedInATick();
        framesLeaveAsTheyArrive();
        dataAreForty();
        bufferIsFull();
        bufferIsFullAtABreak();
        asksIfItDoesNotYet();
        theNumberOfARequest();
        framesOfATickArriveInTheNext();
        salvagedLessThanSalvage();
        salvagedWithoutALoop();
        servedAtOnce();
        whoLearnsFromData();
        restAndTrailAreLearned();
        errorsAreHeard();
        repliesAreHeard();
        shortenedOnce();
        shortenedByEach();
        requestHasHops();
        endAtHops();
        knownWayIsARoute();
        knownWayHasNoneTwice();
        tableIsFull();
        duplicateByTable();
        newsOfADuplicate();
        replyUpToTheFirst();
        replyMeetsDown();
        errorUpToOrigin();
        errorMeetsDown();
        nearByNumbers();
        waitsForWait();
        waitsAnew();
        aWayAtTheLastTick();
        bufferDrainsInOrder();
        asksAfterAgain();
        asksByNumbers();
        asksNoMore();
        CHECK.end("TickBoundsTest");
    }
}
