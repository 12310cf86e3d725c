import java.util.List;
import java.util.function.Supplier;

/** Promises 1 to 32 and Terms 4: what each call answers at the bounds of its arguments and beyond them. */
public final class CallBoundsTest {
    private static final int NONE = SourceRoutes.NONE;
    private static final int NO_SUCH = -2;
    private static final Check CHECK = new Check();

    private interface Act {
        void on(SourceRoutes x);
    }

    private interface Pair {
        int of(int a, int b);
    }

    private interface One {
        int of(int n);
    }

    private static final List<Supplier<SourceRoutes>> STATES = List.of(State::busy, State::worn);

    /** Numbers that are none of those from 0 up to a limit, some of which would be if bits were cut off. */
    private static int[] outside(int limit) {
        return new int[] {-1, limit, -2, -8, -limit, limit + 1, limit + 8, limit + 16, limit + 32, limit + 40,
            limit + 64, limit + 256, limit + 65536, Integer.MIN_VALUE, Integer.MIN_VALUE + 1, Integer.MAX_VALUE};
    }

    private static void dueOutside(String what, int limit, One call, int answer) {
        for (int n : outside(limit)) {
            CHECK.due(what + " of " + n, call.of(n), answer);
        }
    }

    /** Each of two NODES, one below the first and one beyond the last, far out; then one NODE twice. */
    private static void dueTwo(String what, int nodes, Pair call, int answer) {
        int last = nodes - 1;
        dueOutside(what + " from", nodes, n -> call.of(n, 0), answer);
        dueOutside(what + " from, to the last", nodes, n -> call.of(n, last), answer);
        dueOutside(what + " to", nodes, n -> call.of(0, n), answer);
        dueOutside(what + " from the last to", nodes, n -> call.of(last, n), answer);
        for (int n = 0; n < nodes; n++) {
            CHECK.due(what + " of " + n + " twice", call.of(n, n), answer);
        }
        dueOutside(what + " of none twice", nodes, n -> call.of(n, n), answer);
    }

    private static int bit(boolean answer) {
        return answer ? 1 : 0;
    }

    private static int frameOf(SourceRoutes x, int kind) {
        for (int k = 0; k < x.has(10); k++) {
            if (x.air(k, 0) == kind) {
                return k;
            }
        }
        throw new IllegalStateException("no FRAME of kind " + kind);
    }

    private static SourceRoutes after(Supplier<SourceRoutes> made, Act first, Act then) {
        SourceRoutes x = made.get();
        first.on(x);
        then.on(x);
        return x;
    }

    /** What brings to light what can not be asked: when it was asked and buffered, the bytes of THE TEXT. */
    private static final List<Act> LOOKS = List.of(
        x -> { },
        x -> x.ticks(1),
        x -> x.ticks(6),
        x -> Check.go(x, 9),
        x -> x.net());

    /** The images, too; busy() kept one as 1. */
    private static final List<Act> IMAGE_LOOKS = List.of(
        x -> CHECK.due("image 0", x.again(0), false),
        x -> CHECK.due("image 1", x.again(1), true),
        x -> CHECK.due("image 2", x.again(2), false));

    private static void dueSame(String what, Supplier<SourceRoutes> made, Act act, List<Act> looks) {
        for (int k = 0; k < looks.size(); k++) {
            List<Integer> want = State.of(after(made, x -> { }, looks.get(k)));
            List<Integer> got = State.of(after(made, act, looks.get(k)));
            CHECK.due(what + ", look " + k, got.equals(want), true);
        }
    }

    private static void dueUnchanged(String what, Act act) {
        dueSame(what + " changes nothing", State::busy, act, LOOKS);
        dueSame(what + " changes no image", State::busy, act, IMAGE_LOOKS);
    }

    private static void refusedChangeNothing() {
        CHECK.of("Terms 4, 'Refused calls change nothing, unless it is said'");
        dueUnchanged("say beyond 400", x -> CHECK.due("say", x.say(0x6465616620303b20L), NONE));
        int[][] pairs = {{-1, 0}, {0, -1}, {8, 0}, {0, 8}, {3, 3}, {Integer.MIN_VALUE, 1}, {1, Integer.MAX_VALUE}};
        for (int[] p : pairs) {
            String of = " " + p[0] + " " + p[1];
            dueUnchanged("send" + of, x -> CHECK.due("send" + of, x.send(p[0], p[1]), NONE));
            dueUnchanged("turn" + of, x -> CHECK.due("turn" + of, x.turn(p[0], p[1], false), false));
            dueUnchanged("turn down" + of, x -> CHECK.due("turn down" + of, x.turn(p[0], p[1], true), false));
        }
        dueUnchanged("turn what is UP", x -> CHECK.due("turn", x.turn(1, 0, false), false));
        dueUnchanged("turn what is DOWN", x -> CHECK.due("turn", x.turn(2, 1, true), false));
        for (int n : outside(7)) {
            dueUnchanged("ticks " + n, x -> CHECK.due("ticks", x.ticks(n), NONE));
        }
        dueUnchanged("ticks 0", x -> CHECK.due("ticks", x.ticks(0), NONE));
        for (int k : outside(3)) {
            dueUnchanged("image " + k, x -> CHECK.due("image", x.image(k), false));
            dueUnchanged("again " + k, x -> CHECK.due("again", x.again(k), false));
        }
        dueUnchanged("again of none kept", x -> CHECK.due("again", x.again(2), false));
    }

    private static void questionsChangeNothing() {
        CHECK.of("Terms 4, 'Questions change nothing'");
        dueUnchanged("what there is", State::of);
        dueUnchanged("what is known", x -> {
            for (int a = 0; a < 8; a++) {
                x.stale(a);
                for (int b = 0; b < 8; b++) {
                    x.far(a, b);
                    x.hops(a, b);
                    x.way(a, b, 1);
                }
            }
        });
        dueUnchanged("what is so", x -> {
            for (int n = 0; n < 64; n++) {
                x.holders(n / 8, n % 8);
                x.sound(n / 8, n % 8);
                x.mapped(n / 8, n % 8);
                x.bridges(n / 8, n % 8);
            }
        });
        dueUnchanged("ahead", x -> {
            for (int ticks = 0; ticks <= 6; ticks++) {
                for (int what = 0; what <= 12; what++) {
                    x.ahead(ticks, what);
                }
            }
        });
        dueUnchanged("quiet", SourceRoutes::quiet);
        for (int k = 0; k < 8; k++) {
            int n = k;
            dueUnchanged("turned of " + n, x -> {
                for (int to = 0; to < 8; to++) {
                    x.turned(n, to, 0, 0);
                    x.turned(n, to, 6, 12);
                }
            });
            dueUnchanged("sent of " + n, x -> {
                for (int to = 0; to < 8; to++) {
                    x.sent(n, to, 0, 2);
                    x.sent(n, to, 6, 7);
                }
            });
            dueUnchanged("flood of " + n, x -> {
                for (int to = 0; to < 8; to++) {
                    x.flood(n, to, false);
                    x.flood(n, to, true);
                }
            });
        }
    }

    private static void bitsAndLinks() {
        CHECK.of("Terms 4, 'Sets of NODES are bits. A LINK is told as 10 times the lesser NODE and the greater one'");
        SourceRoutes x = Check.net("nodes 8;link 0 7;link 6 7;again 9;wait 3;");
        CHECK.due("the last NODE", x.node(0, 9), 128);
        CHECK.due("the first one and another", x.node(7, 9), 65);
        x.send(1, 7);
        CHECK.due("for the last one", x.node(1, 7), 128);
        x.send(7, 5);
        x.ticks(3);
        CHECK.due("holders", x.holders(6, 7), 64);
        CHECK.due("to the last one", x.node(6, 8), 128);
        x.turn(7, 6, true);
        x.send(6, 7);
        x.ticks(1);
        CHECK.due("the LINK of the last two", x.node(6, 5), 67);
        x.turn(0, 7, true);
        x.send(0, 7);
        x.ticks(1);
        CHECK.due("the LINK of the first and the last", x.node(0, 5), 7);
        SourceRoutes y = Check.net("link 0 1;wait 3;again 9;");
        y.send(0, 1);
        y.ticks(1);
        y.turn(0, 1, true);
        y.send(1, 0);
        y.ticks(1);
        CHECK.due("the LINK of the first two, told by the greater", y.node(1, 5), 1);
        for (int a = 0; a < 8; a++) {
            for (int b = 0; b < 8; b++) {
                if (a != b) {
                    linkThatBreaks(a, b);
                }
            }
        }
    }

    /** a has a WAY to b, and finds the LINK DOWN. */
    private static void linkThatBreaks(int a, int b) {
        SourceRoutes x = Check.net("nodes 8;wait 3;again 9;link " + a + " " + b + ";");
        x.send(b, a == 0 || b == 0 ? a + b == 1 ? 2 : 1 : 0);
        x.ticks(1);
        String of = " of " + a + " " + b;
        CHECK.due("to whom" + of, x.node(a, 8), 1 << b);
        CHECK.due("with whom" + of, x.node(a, 9), 1 << b);
        CHECK.due("who holds it" + of, x.holders(a, b), 1 << a);
        x.turn(a, b, true);
        x.send(a, b);
        x.ticks(1);
        CHECK.due("its LINK" + of, x.node(a, 5), 10 * Math.min(a, b) + Math.max(a, b));
        CHECK.due("for whom" + of, x.node(a, 7), 1 << b);
        CHECK.due("it is forgotten" + of, x.holders(a, b), 0);
    }

    private static void newObject() {
        CHECK.of("Promise 1, 'Two NODES, nothing else'");
        SourceRoutes x = new SourceRoutes();
        CHECK.due("as an empty NET", State.of(x).equals(State.of(Check.net(""))), true);
        CHECK.due("the second NODE", x.node(1, 9), 0);
        CHECK.due("no third NODE", x.node(2, 9), NO_SUCH);
        for (int k = 0; k < 3; k++) {
            CHECK.due("no image " + k, x.again(k), false);
        }
        CHECK.due("no DATA", x.data(0, 0), NO_SUCH);
        CHECK.due("no FRAME", x.air(0, 0), NO_SUCH);
        CHECK.due("no LINK", x.far(0, 1), NONE);
        CHECK.due("quiet", x.quiet(), 0);
    }

    private static void netIsAnew() {
        CHECK.of("Promise 3, 'all is as told, NOW 0, no DATA, nothing in THE AIR, CACHES empty, tallies 0'");
        Act told = x -> {
            x.net();
            Check.tell(x, "nodes 5;");
            CHECK.due("NODES", x.net(), 5);
        };
        Act further = x -> {
            for (int n = 0; n < 4; n++) {
                x.turn(n, n + 1, false);
            }
            x.send(0, 4);
            x.send(3, 1);
            x.ticks(6);
            x.ticks(4);
        };
        SourceRoutes freshOn = Check.net("nodes 5;");
        further.on(freshOn);
        for (Supplier<SourceRoutes> made : STATES) {
            SourceRoutes x = after(made, told, y -> { });
            CHECK.due("as a new one", State.of(x).equals(State.of(Check.net("nodes 5;"))), true);
            SourceRoutes on = after(made, told, further);
            CHECK.due("it goes on as a new one", State.of(on).equals(State.of(freshOn)), true);
            SourceRoutes none = after(made, told, y -> { });
            CHECK.due("no DATA", none.data(0, 0), NO_SUCH);
            CHECK.due("no TRAIL", none.trail(0, 0, false), NONE);
            CHECK.due("no REST", none.trail(0, 0, true), NONE);
            CHECK.due("no FRAME", none.air(0, 0), NO_SUCH);
            CHECK.due("no row", none.row(0, 0), NONE);
        }
        CHECK.due("images stay", after(State::busy, told, y -> CHECK.due("again", y.again(1), true)).has(0), 8);
        SourceRoutes large = Check.net("nodes 8;link 6 7;map 7;deaf 7;hops 1;");
        large.net();
        Check.tell(large, "nodes 8;");
        large.net();
        CHECK.due("nothing is left of an earlier one", State.of(large).equals(State.of(Check.net("nodes 8;"))), true);
    }

    private static void faultKeepsAll() {
        CHECK.of("Promise 3, 'NONE: a FAULT (all but THE TEXT, the FAULT stays)'");
        String[] texts = {"?", "nodes 9;", "map 7;", "nodes 3;link 0 1;hops"};
        for (String text : texts) {
            Act wrong = x -> {
                x.net();
                x.again(1);
                Check.tell(x, text);
                CHECK.due("a FAULT", x.net(), NONE);
                CHECK.due("THE TEXT is empty", x.has(11), 0);
            };
            Act right = x -> {
                x.net();
                x.again(1);
            };
            List<Integer> got = State.of(after(State::busy, wrong, x -> x.ticks(3)));
            List<Integer> want = State.of(after(State::busy, right, x -> x.ticks(3)));
            for (int k = 0; k < want.size() && k < got.size(); k++) {
                boolean isFault = k == 23 || k == 24;
                CHECK.due("answer " + k + " behind '" + text + "'", isFault || got.get(k).equals(want.get(k)), true);
            }
            CHECK.due("as many answers", got.size(), want.size());
        }
    }

    private static void sending() {
        CHECK.of("Promise 5, 'NONE: no such NODES, the same one twice'");
        for (int nodes = 2; nodes <= 8; nodes++) {
            SourceRoutes x = Check.net("nodes " + nodes + ";");
            dueTwo("send", nodes, x::send, NONE);
            CHECK.due("none came", x.has(9), 0);
            CHECK.due("from the first to the last", x.send(0, nodes - 1), 0);
            CHECK.due("from the last to the first", x.send(nodes - 1, 0), 1);
        }
    }

    private static void turning() {
        CHECK.of("Promise 6, 'false: it is so already, no such NODES, the same one twice'");
        for (int nodes = 2; nodes <= 8; nodes += 3) {
            SourceRoutes x = Check.net("nodes " + nodes + ";");
            int last = nodes - 1;
            dueTwo("turn", nodes, (a, b) -> bit(x.turn(a, b, false)), 0);
            dueTwo("turn down", nodes, (a, b) -> bit(x.turn(a, b, true)), 0);
            CHECK.due("DOWN already", x.turn(0, last, true), false);
            CHECK.due("UP", x.turn(0, last, false), true);
            CHECK.due("UP already", x.turn(0, last, false), false);
            CHECK.due("UP already, the other way", x.turn(last, 0, false), false);
            CHECK.due("it is UP", x.node(last, 9), 1);
            CHECK.due("DOWN", x.turn(last, 0, true), true);
            CHECK.due("DOWN already", x.turn(0, last, true), false);
            CHECK.due("it is DOWN", x.node(0, 9), 0);
        }
    }

    private static void ticking() {
        CHECK.of("Promise 7, 'n TICKS, 1 to 6: NOW. NONE: another n'");
        SourceRoutes x = new SourceRoutes();
        dueOutside("ticks", 7, x::ticks, NONE);
        CHECK.due("ticks 0", x.ticks(0), NONE);
        int now = 0;
        for (int n = 1; n <= 6; n++) {
            now += n;
            CHECK.due("ticks " + n, x.ticks(n), now);
            CHECK.due("NOW", x.has(8), now);
        }
    }

    private static SourceRoutes at(int now) {
        SourceRoutes x = Check.net("nodes 3;link 0 1;link 1 2;wait 20;");
        Check.go(x, now);
        return x;
    }

    private static void tickingUpTo900() {
        CHECK.of("Promise 7, 'NONE: ... or NOW would be above 900'");
        for (int n = 1; n <= 6; n++) {
            SourceRoutes x = at(900 - n);
            CHECK.due(n + " up to 900", x.ticks(n), 900);
            CHECK.due("1 more", x.ticks(1), NONE);
            CHECK.due("NOW", x.has(8), 900);
            SourceRoutes y = at(901 - n);
            y.send(0, 2);
            CHECK.due(n + " up to 901", y.ticks(n), NONE);
            CHECK.due("NOW stays", y.has(8), 901 - n);
            CHECK.due("nothing arrived", y.tally(1), 1);
            CHECK.due("one TICK less", y.ticks(n - 1), n == 1 ? NONE : 900);
        }
        CHECK.of("Terms 4, 'so many TICKS that go by then': IF is not bound by 900");
        SourceRoutes x = at(900);
        CHECK.due("ahead", x.ahead(6, 9), 0);
        CHECK.due("sent", x.sent(0, 2, 6, 7), 906);
        CHECK.due("turned", x.turned(0, 2, 6, 10), 0);
        CHECK.due("quiet", x.quiet(), 0);
        x.send(0, 2);
        CHECK.due("quiet, with DATA", x.quiet(), 6);
        CHECK.due("NOW", x.has(8), 900);
    }

    private static void having() {
        CHECK.of("Promise 8, 'NONE for another what'");
        SourceRoutes x = State.busy();
        dueOutside("has", 12, x::has, NONE);
        int[] want = {8, 7, 4, 4, 3, 20, 3, 1, 8, 5};
        for (int what = 0; what < want.length; what++) {
            CHECK.due("has(" + what + ")", x.has(what), want[what]);
        }
        CHECK.due("the last what", x.has(11), 396);
    }

    private static void nodes() {
        CHECK.of("Promise 9, '-2: there is none such, another what'; 'its NEWS (NONE without)'");
        SourceRoutes x = State.busy();
        for (int what = 0; what <= 9; what++) {
            int told = what;
            dueOutside("node, what " + what, 8, n -> x.node(n, told), NO_SUCH);
        }
        dueOutside("what of the first", 10, what -> x.node(0, what), NO_SUCH);
        dueOutside("what of the last", 10, what -> x.node(7, what), NO_SUCH);
        CHECK.due("without NEWS", x.node(7, 5), NONE);
        CHECK.due("with NEWS", x.node(2, 5), 12);
    }

    private static void keeping() {
        CHECK.of("Promise 10, 'NONE: there is none such (of any)'; '(0: the newest)', 'the lesser (i 0), the greater NODE (1)'");
        SourceRoutes x = Check.net(State.FORK);
        x.send(0, 4);
        Check.go(x, 8);
        for (int n = 0; n < 8; n++) {
            int node = n;
            int entries = x.node(node, 2);
            dueOutside("k of " + node, entries, k -> x.kept(node, k, 0), NONE);
        }
        dueOutside("node", 8, n -> x.kept(n, 0, 0), NONE);
        CHECK.dueRow("the newest PATH of 0", i -> x.kept(0, 0, i), 0, 1, 3, 4);
        dueOutside("i of a PATH of 4 NODES", 4, i -> x.kept(0, 0, i), NONE);
        CHECK.due("a MAP", x.node(1, 0), 1);
        int last = x.node(1, 2) - 1;
        dueOutside("i of the newest LINK", 2, i -> x.kept(1, 0, i), NONE);
        dueOutside("i of the oldest LINK", 2, i -> x.kept(1, last, i), NONE);
        for (int k = 0; k <= last; k++) {
            CHECK.due("the lesser of LINK " + k, x.kept(1, k, 0) < x.kept(1, k, 1), true);
        }
    }

    private static void seeing() {
        CHECK.of("Promise 11, 'NONE: there is none such (of either)'");
        SourceRoutes x = State.busy();
        for (int n = 0; n < 8; n++) {
            int node = n;
            int entries = x.node(node, 6);
            dueOutside("k of " + node, entries, k -> x.seen(node, k), NONE);
            for (int k = 0; k < entries; k++) {
                CHECK.due("k " + k + " of " + node, x.seen(node, k) >= 1, true);
            }
        }
        dueOutside("node", 8, n -> x.seen(n, 0), NONE);
    }

    private static void waiting() {
        CHECK.of("Promise 12, '(0: the first). NONE: there is none such (of either)'");
        SourceRoutes x = State.busy();
        CHECK.dueRow("BUFFER of 7", k -> x.waits(7, k), 1, 2);
        dueOutside("k of 7", 2, k -> x.waits(7, k), NONE);
        dueOutside("k of an empty one", 0, k -> x.waits(6, k), NONE);
        dueOutside("node", 8, n -> x.waits(n, 0), NONE);
    }

    private static void ways() {
        CHECK.of("Promises 13 and 14, 'NONE: there is none such (of any; also of a NODE to itself)'");
        SourceRoutes x = State.busy();
        dueTwo("way, i 0", 8, (a, b) -> x.way(a, b, 0), NONE);
        dueTwo("hops", 8, x::hops, NONE);
        CHECK.due("hops", x.hops(0, 4), 3);
        CHECK.dueRow("way", i -> x.way(0, 4, i), 0, 1, 3, 4);
        dueOutside("i of a WAY of 4 NODES", 4, i -> x.way(0, 4, i), NONE);
        CHECK.dueRow("way of a MAP", i -> x.way(1, 0, i), 1, 0);
        dueOutside("i of a WAY of 2 NODES", 2, i -> x.way(1, 0, i), NONE);
        CHECK.due("no WAY", x.way(0, 7, 0), NONE);
        CHECK.due("no WAY, hops", x.hops(0, 7), NONE);
        CHECK.due("no WAY in an empty CACHE", x.hops(7, 0), NONE);
    }

    private static void data() {
        CHECK.of("Promise 15, '-2: there is none such, another what', '(0, if it is not IN THE AIR)', '(NONE: not yet)'");
        SourceRoutes x = State.busy();
        for (int what = 0; what <= 8; what++) {
            int told = what;
            dueOutside("data, what " + what, x.has(9), d -> x.data(d, told), NO_SUCH);
        }
        dueOutside("what of the first", 9, what -> x.data(0, what), NO_SUCH);
        dueOutside("what of the last", 9, what -> x.data(4, what), NO_SUCH);
        int[][] want = {{0, 4, 1, 1, 2, 3, 0, NONE, 0}, {7, 0, 0, 0, 1, 0, 0, NONE, 0}, {7, 1, 0, 0, 1, 0, 0, NONE, 0},
            {5, 6, 0, 0, 1, 0, 7, NONE, 0}, {2, 3, 0, 0, 1, 0, 7, NONE, 0}};
        for (int d = 0; d < want.length; d++) {
            for (int what = 0; what <= 8; what++) {
                CHECK.due("data(" + d + ", " + what + ")", x.data(d, what), want[d][what]);
            }
        }
        x.ticks(2);
        CHECK.due("DELIVERED", x.data(0, 2), 2);
        CHECK.due("REST of a DELIVERED one", x.data(0, 5), 0);
        CHECK.due("when", x.data(0, 7), 10);
        dueOutside("none of no DATA", 0, d -> new SourceRoutes().data(d, 0), NO_SUCH);
    }

    private static void trails() {
        CHECK.of("Promise 16, 'The i-th NODE of a TRAIL, or (rest) of a REST. NONE: there is none such (of either)'");
        SourceRoutes x = State.busy();
        CHECK.dueRow("TRAIL", i -> x.trail(0, i, false), 0, 1);
        CHECK.dueRow("REST", i -> x.trail(0, i, true), 1, 3, 4);
        CHECK.dueRow("TRAIL of a BUFFERED one", i -> x.trail(1, i, false), 7);
        CHECK.dueRow("REST of a BUFFERED one", i -> x.trail(1, i, true));
        dueOutside("i of a TRAIL", 2, i -> x.trail(0, i, false), NONE);
        dueOutside("i of a REST", 3, i -> x.trail(0, i, true), NONE);
        dueOutside("data, TRAIL", 5, d -> x.trail(d, 0, false), NONE);
        dueOutside("data, REST", 5, d -> x.trail(d, 0, true), NONE);
        x.ticks(2);
        CHECK.dueRow("TRAIL of a DELIVERED one", i -> x.trail(0, i, false), 0, 1, 3, 4);
        CHECK.dueRow("REST of a DELIVERED one", i -> x.trail(0, i, true));
        SourceRoutes y = Check.net("buffer 1;");
        y.send(0, 1);
        y.send(0, 1);
        CHECK.dueRow("TRAIL of a LOST one", i -> y.trail(1, i, false), 0);
        CHECK.dueRow("REST of a LOST one", i -> y.trail(1, i, true));
    }

    private static void frames() {
        CHECK.of("Promise 17, '-2: there is none such, another what', '(NONE: REQUEST)', '(NONE: another FRAME)', '(NONE: without)'");
        SourceRoutes x = State.busy();
        int frames = x.has(10);
        for (int what = 0; what <= 5; what++) {
            int told = what;
            dueOutside("air, what " + what, frames, k -> x.air(k, told), NO_SUCH);
        }
        for (int k = 0; k < frames; k++) {
            int frame = k;
            dueOutside("what of FRAME " + k, 6, what -> x.air(frame, what), NO_SUCH);
        }
        int[][] want = {{0, 1, 3, 0, NONE, NONE}, {1, 2, NONE, 3, 1, 12}, {2, 6, 5, 6, NONE, NONE}, {3, 1, 0, 12, NONE, NONE}};
        for (int kind = 0; kind < want.length; kind++) {
            int k = frameOf(x, kind);
            for (int what = 0; what <= 5; what++) {
                CHECK.due("kind " + kind + ", what " + what, x.air(k, what), want[kind][what]);
            }
        }
        SourceRoutes y = new SourceRoutes();
        y.send(1, 0);
        CHECK.due("a REQUEST without NEWS", y.air(0, 5), NONE);
        dueOutside("empty AIR", 0, k -> new SourceRoutes().air(k, 0), NO_SUCH);
    }

    private static void rows() {
        CHECK.of("Promise 18, 'The i-th NODE of the row ... NONE: there is none such (of either)'");
        SourceRoutes x = State.busy();
        dueOutside("row", x.has(10), k -> x.row(k, 0), NONE);
        int[][] want = {{1, 3, 4}, {2}, {5, 6}, {1, 0}};
        for (int kind = 0; kind < want.length; kind++) {
            int k = frameOf(x, kind);
            CHECK.dueRow("row of kind " + kind, i -> x.row(k, i), want[kind]);
            dueOutside("i of kind " + kind, want[kind].length, i -> x.row(k, i), NONE);
        }
    }

    private static void tallies() {
        CHECK.of("Promise 19, 'what 0 to 3 ... 10: LOST. NONE for another what'");
        SourceRoutes x = State.busy();
        dueOutside("tally", 11, x::tally, NONE);
        CHECK.due("BREAKS", x.tally(6), 2);
        CHECK.due("salvaged", x.tally(4), 1);
        CHECK.due("the last what", x.tally(10), 0);
    }

    private static void distances() {
        CHECK.of("Promise 20, '(0: to itself). NONE: one can not come there, no such NODES'");
        StringBuilder chain = new StringBuilder("nodes 8;");
        for (int n = 0; n < 7; n++) {
            chain.append("link ").append(n).append(" ").append(n + 1).append(";");
        }
        SourceRoutes x = Check.net(chain.toString());
        for (int n = 0; n < 8; n++) {
            CHECK.due("far to " + n, x.far(0, n), n);
            CHECK.due("far from " + n, x.far(n, 0), n);
            CHECK.due("to itself", x.far(n, n), 0);
        }
        x.turn(3, 4, true);
        CHECK.due("up to where it is cut", x.far(0, 3), 3);
        CHECK.due("beyond", x.far(0, 4), NONE);
        SourceRoutes y = Check.net("nodes 3;link 0 1;link 1 2;");
        dueOutside("far from", 3, n -> y.far(n, 0), NONE);
        dueOutside("far to", 3, n -> y.far(0, n), NONE);
        dueOutside("far from none to itself", 3, n -> y.far(n, n), NONE);
    }

    private static void holding() {
        CHECK.of("Promise 21, 'NODES whose CACHE has a LINK. NONE: no such NODES, the same one twice'");
        SourceRoutes x = State.busy();
        dueTwo("holders", 8, x::holders, NONE);
        CHECK.due("a LINK that none has", x.holders(0, 7), 0);
        CHECK.due("not side by side", x.holders(0, 4), 0);
        CHECK.due("either way", x.holders(4, 3), x.holders(3, 4));
        CHECK.due("some have it", x.holders(3, 4), 11);
    }

    private static void staleness() {
        CHECK.of("Promise 22, 'How many unlike LINKS of a CACHE are DOWN. NONE: there is none such'");
        SourceRoutes x = Check.net("nodes 5;wait 6;again 9;");
        Check.bring(x, 4, 0, 1, 2, 3);
        Check.bring(x, 4, 0, 1, 2);
        Check.bring(x, 4, 0, 1, 3);
        CHECK.due("each once, of three PATHS", x.stale(0), 4);
        x.turn(0, 1, false);
        CHECK.due("one is UP", x.stale(0), 3);
        x.turn(0, 2, false);
        CHECK.due("one that is not known is UP", x.stale(0), 3);
        for (int n = 1; n < 3; n++) {
            x.turn(n, n + 1, false);
        }
        x.turn(1, 3, false);
        CHECK.due("none is DOWN", x.stale(0), 0);
        CHECK.due("an empty CACHE", x.stale(4), 0);
        dueOutside("stale", 5, x::stale, NONE);
    }

    private static void soundness() {
        CHECK.of("Promise 23, 'Whether there is a WAY, and all its LINKS are UP. false: others, too'");
        SourceRoutes x = Check.net("nodes 6;wait 6;again 9;");
        Check.bring(x, 5, 0, 1, 2, 3);
        x.turn(0, 1, false);
        x.turn(1, 2, false);
        CHECK.due("the last LINK is DOWN", x.sound(0, 3), false);
        CHECK.due("a beginning of it", x.sound(0, 2), true);
        x.turn(2, 3, false);
        CHECK.due("all are UP", x.sound(0, 3), true);
        x.turn(0, 1, true);
        CHECK.due("the first LINK is DOWN", x.sound(0, 3), false);
        x.turn(0, 1, false);
        x.turn(1, 2, true);
        CHECK.due("one between is DOWN", x.sound(0, 3), false);
        x.turn(0, 4, false);
        CHECK.due("a LINK that is UP is no WAY", x.sound(0, 4), false);
        dueTwo("sound", 6, (a, b) -> bit(x.sound(a, b)), 0);
    }

    private static void mapping() {
        CHECK.of("Promise 24, 'NONE: there would be none, no such NODES, the same one twice'");
        SourceRoutes x = State.busy();
        dueTwo("mapped", 8, x::mapped, NONE);
        CHECK.due("none", x.mapped(0, 7), NONE);
        CHECK.due("one LINK", x.mapped(0, 1), 1);
        CHECK.due("of an empty CACHE", x.mapped(7, 0), NONE);
    }

    private static void bridging() {
        CHECK.of("Promise 25, '(0, if one can not come there). NONE: no such NODES, the same one twice'");
        SourceRoutes x = Check.net("nodes 8;link 0 1;link 1 2;link 2 0;link 2 3;link 6 7;");
        dueTwo("bridges", 8, x::bridges, NONE);
        CHECK.due("the first two", Check.net("link 0 1;").bridges(0, 1), 1);
        CHECK.due("the first two, DOWN", Check.net("").bridges(0, 1), 0);
        CHECK.due("can not come there", x.bridges(0, 7), 0);
        CHECK.due("a ring has none", x.bridges(0, 2), 0);
        CHECK.due("out of the ring", x.bridges(0, 3), 1);
        CHECK.due("the last two", x.bridges(7, 6), 1);
        x.turn(3, 4, false);
        x.turn(4, 5, false);
        x.turn(5, 6, false);
        CHECK.due("all of them", x.bridges(1, 7), 5);
    }

    /** What comes so indeed on another object, for an IF to be held against it. */
    private static SourceRoutes later(Supplier<SourceRoutes> made, Act change, int ticks) {
        return after(made, change, x -> Check.go(x, ticks));
    }

    private static int countOf(SourceRoutes x, int what) {
        return what == 11 ? x.has(10) : what == 12 ? bufferedOf(x) : x.tally(what);
    }

    private static int bufferedOf(SourceRoutes x) {
        int sum = 0;
        for (int n = 0; n < x.has(0); n++) {
            sum += x.node(n, 3);
        }
        return sum;
    }

    private static void aheadOfNow() {
        CHECK.of("Promise 26, 'after 0 to 6 TICKS: what as tally(), 11 ..., 12 .... NONE: another number, another what'");
        SourceRoutes x = State.busy();
        for (int what = 0; what <= 12; what++) {
            int told = what;
            dueOutside("ticks, what " + what, 7, ticks -> x.ahead(ticks, told), NONE);
        }
        dueOutside("what of 0 TICKS", 13, what -> x.ahead(0, what), NONE);
        dueOutside("what of 6 TICKS", 13, what -> x.ahead(6, what), NONE);
        for (Supplier<SourceRoutes> made : STATES) {
            SourceRoutes asked = made.get();
            for (int ticks = 0; ticks <= 6; ticks++) {
                SourceRoutes then = later(made, y -> { }, ticks);
                for (int what = 0; what <= 12; what++) {
                    CHECK.due("ahead(" + ticks + ", " + what + ")", asked.ahead(ticks, what), countOf(then, what));
                }
            }
        }
        CHECK.due("it is shortened by listening", State.worn().ahead(1, 5), 2);
    }

    private static void turnedAndThen() {
        CHECK.of("Promise 27, 'after 0 to 6 TICKS: as ahead(). NONE: others, no such NODES, the same one twice'");
        SourceRoutes x = State.busy();
        dueTwo("turned", 8, (a, b) -> x.turned(a, b, 0, 0), NONE);
        dueTwo("turned, later", 8, (a, b) -> x.turned(a, b, 6, 12), NONE);
        dueOutside("ticks", 7, ticks -> x.turned(0, 1, ticks, 0), NONE);
        dueOutside("what", 13, what -> x.turned(0, 1, 0, what), NONE);
        dueOutside("what, later", 13, what -> x.turned(0, 7, 6, what), NONE);
        for (Supplier<SourceRoutes> made : STATES) {
            SourceRoutes asked = made.get();
            for (int ticks = 0; ticks <= 6; ticks++) {
                SourceRoutes down = later(made, y -> y.turn(0, 1, true), ticks);
                SourceRoutes up = later(made, y -> y.turn(0, 7, false), ticks);
                for (int what = 0; what <= 12; what++) {
                    String of = " of " + ticks + ", " + what;
                    CHECK.due("turned DOWN" + of, asked.turned(0, 1, ticks, what), countOf(down, what));
                    CHECK.due("turned UP" + of, asked.turned(7, 0, ticks, what), countOf(up, what));
                }
            }
        }
    }

    private static void sentAndThen() {
        CHECK.of("Promise 28, 'after 0 to 6 TICKS: of it, what as data(). -2: others, it would be refused'");
        SourceRoutes x = State.busy();
        dueTwo("sent", 8, (a, b) -> x.sent(a, b, 0, 0), NO_SUCH);
        dueTwo("sent, later", 8, (a, b) -> x.sent(a, b, 6, 8), NO_SUCH);
        dueOutside("ticks", 7, ticks -> x.sent(0, 1, ticks, 0), NO_SUCH);
        dueOutside("what", 9, what -> x.sent(0, 1, 0, what), NO_SUCH);
        dueOutside("what, later", 9, what -> x.sent(0, 1, 6, what), NO_SUCH);
        int[][] pairs = {{0, 3}, {4, 7}, {0, 4}, {3, 0}, {5, 4}};
        for (Supplier<SourceRoutes> made : STATES) {
            SourceRoutes asked = made.get();
            for (int ticks = 0; ticks <= 6; ticks++) {
                for (int[] p : pairs) {
                    SourceRoutes then = later(made, y -> y.send(p[0], p[1]), ticks);
                    int number = asked.has(9);
                    for (int what = 0; what <= 8; what++) {
                        String of = "sent " + p[0] + " " + p[1] + ", " + ticks + ", " + what;
                        CHECK.due(of, asked.sent(p[0], p[1], ticks, what), then.data(number, what));
                    }
                }
            }
        }
    }

    private static void flooding() {
        CHECK.of("Promise 29, 'NONE: no such NODES, the same one twice'; 'IF THE AIR were empty'; 'BUFFERS stand still'");
        SourceRoutes x = State.busy();
        dueTwo("flood", 8, (a, b) -> x.flood(a, b, false), NONE);
        dueTwo("flood, replies", 8, (a, b) -> x.flood(a, b, true), NONE);
        CHECK.due("by one without LINKS", x.flood(7, 0, false), 1);
        CHECK.due("by one without LINKS, replies", x.flood(7, 0, true), 0);
        CHECK.due("to the next one", x.flood(5, 6, false), 1);
        CHECK.due("to the next one, replies", x.flood(5, 6, true), 1);
        SourceRoutes y = Check.net("nodes 8;link 0 1;again 1;wait 20;");
        y.send(0, 7);
        y.send(1, 7);
        // AGAIN is over at once: the REQUESTS of 0 and 1 alone would be more.
        CHECK.due("nobody ASKS again", y.flood(0, 7, false), 2);
        CHECK.due("one that ASKS already", y.flood(1, 7, false), 2);
        for (int hops = 1; hops <= 7; hops++) {
            SourceRoutes z = Check.net("nodes 8;link 0 1;link 1 2;link 2 3;link 3 4;link 4 5;link 5 6;hops " + hops + ";");
            CHECK.due("REQUESTS with HOPS " + hops, z.flood(0, 7, false), hops);
        }
        SourceRoutes far = Check.net("nodes 8;link 0 1;link 1 2;link 2 3;link 3 4;link 4 5;link 5 6;link 6 7;");
        CHECK.due("REQUESTS over all", far.flood(0, 7, false), 7);
        CHECK.due("REPLIES when the last REQUEST came", far.flood(0, 7, true), 1);
        CHECK.due("REPLIES that go on meanwhile", far.flood(2, 0, true), 2);
        SourceRoutes full = Check.net("nodes 8;link 0 1;link 1 2;link 2 3;link 3 4;link 4 5;buffer 4;");
        for (int k = 0; k < 8; k++) {
            full.send(6 + k % 2, k / 2);
        }
        CHECK.due("REQUESTS in THE AIR", full.has(10), 8);
        CHECK.due("REQUESTS, those left out", full.flood(0, 5, false), 5);
        CHECK.due("REPLIES, those left out", full.flood(0, 5, true), 1);
    }

    private static void quietening() {
        CHECK.of("Promise 30, 'after how many TICKS first THE AIR is empty and all BUFFERS are, 0 to 12. NONE: not by then'");
        for (int wait = 1; wait <= 20; wait++) {
            SourceRoutes x = Check.net("again 9;wait " + wait + ";");
            CHECK.due("at once", x.quiet(), 0);
            x.send(0, 1);
            // Of the second REQUEST, at 9, THE AIR is empty at 10.
            CHECK.due("WAIT " + wait, x.quiet(), wait > 12 ? NONE : wait);
            for (int now = 1; now < wait; now++) {
                x.ticks(1);
                CHECK.due("WAIT " + wait + " at " + now, x.quiet(), wait - now > 12 ? NONE : wait - now);
            }
            x.ticks(1);
            CHECK.due("WAIT " + wait + " is over", x.quiet(), 0);
        }
        SourceRoutes y = Check.net("nodes 3;link 0 1;link 1 2;again 9;wait 1;");
        y.send(0, 2);
        // The REQUEST at 1 and 2, the REPLY at 3 and 4; the DATA is LOST at 1.
        CHECK.due("THE AIR is empty later than BUFFERS", y.quiet(), 4);
        SourceRoutes worn = State.worn();
        int ticks = State.worn().quiet();
        for (int k = 0; k < ticks; k++) {
            CHECK.due("not quiet after " + k, worn.has(10) + bufferedOf(worn) > 0, true);
            worn.ticks(1);
        }
        CHECK.due("quiet after " + ticks, worn.has(10) + bufferedOf(worn), 0);
    }

    private static void imaging() {
        CHECK.of("Promise 31, 'is kept as k, 0 to 2: true; false for another k'; Promise 32, 'false if there is none such'");
        SourceRoutes x = Check.net("nodes 3;");
        dueOutside("image", 3, k -> bit(x.image(k)), 0);
        dueOutside("again", 3, k -> bit(x.again(k)), 0);
        for (int k = 0; k < 3; k++) {
            CHECK.due("again ahead of image " + k, x.again(k), false);
            x.ticks(1);
            CHECK.due("image " + k, x.image(k), true);
            CHECK.due("no further one", x.again(k + 1), false);
        }
        x.ticks(6);
        for (int k = 2; k >= 0; k--) {
            CHECK.due("again " + k, x.again(k), true);
            CHECK.due("NOW of " + k, x.has(8), k + 1);
        }
        dueOutside("again, with all kept", 3, k -> bit(x.again(k)), 0);
        CHECK.due("NOW", x.has(8), 1);
        CHECK.due("a kept one stays", x.again(2), true);
        CHECK.due("NOW of it", x.has(8), 3);
    }

    private static void imageHasAll() {
        CHECK.of("Promises 31 and 32, 'All that there is (THE TEXT, the FAULT, too)', 'All is as it was kept'");
        for (int k = 0; k < 3; k++) {
            int image = k;
            Act roundTrip = x -> {
                x.image(image);
                x.net();
                Check.tell(x, "hops 1;room 1;table 1;buffer 1;wait 1;again 1;salvage 0;map 0;deaf 1;");
                x.net();
                x.turn(0, 1, false);
                x.send(1, 0);
                x.ticks(3);
                Check.tell(x, "?");
                x.net();
                CHECK.due("again", x.again(image), true);
            };
            for (Supplier<SourceRoutes> made : STATES) {
                dueSame("as it was kept as " + k, made, roundTrip, LOOKS);
            }
        }
    }

    public static void main(String[] args) {
        refusedChangeNothing();
        questionsChangeNothing();
        bitsAndLinks();
        newObject();
        netIsAnew();
        faultKeepsAll();
        sending();
        turning();
        ticking();
        tickingUpTo900();
        having();
        nodes();
        keeping();
        seeing();
        waiting();
        ways();
        data();
        trails();
        frames();
        rows();
        tallies();
        distances();
        holding();
        staleness();
        soundness();
        mapping();
        bridging();
        aheadOfNow();
        turnedAndThen();
        sentAndThen();
        flooding();
        quietening();
        imaging();
        imageHasAll();
        CHECK.end("CallBoundsTest");
    }
}
