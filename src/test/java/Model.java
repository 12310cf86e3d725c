import java.util.ArrayList;
import java.util.Collections;
import java.util.LinkedHashMap;
import java.util.List;
import java.util.Map;
import java.util.TreeMap;

/**
 * The document once more, written with lists and as its words go, slow and plain: what SourceRoutes
 * answers is held against it. It has the public face of SourceRoutes.
 */
final class Model {
    static final int NONE = -1;

    private static final String[] SETTING_NAMES =
        {"nodes", "hops", "room", "table", "buffer", "wait", "again", "salvage"};
    private static final int[][] RANGES =
        {{2, 8}, {1, 7}, {1, 6}, {1, 6}, {1, 4}, {1, 20}, {1, 9}, {0, 3}};

    private static final class Datum {
        int origin, end, state, salvaged, came, ended = NONE, since, shorteners;
        List<Integer> trail = new ArrayList<>();
        List<Integer> rest = new ArrayList<>();

        Datum copy() {
            Datum c = new Datum();
            c.origin = origin; c.end = end; c.state = state; c.salvaged = salvaged; c.came = came;
            c.ended = ended; c.since = since; c.shorteners = shorteners;
            c.trail = new ArrayList<>(trail);
            c.rest = new ArrayList<>(rest);
            return c;
        }
    }

    /** Frames never change once they are sent, but for DATA, whose row is its REST. */
    private record Frame(int kind, int from, int to, int about, int number, int news, List<Integer> row) { }

    private static final class Place {
        boolean map, deaf;
        /** The newest first: paths, or links as rows of two. */
        List<List<Integer>> cache = new ArrayList<>();
        List<Integer> buffer = new ArrayList<>();
        List<List<Integer>> table = new ArrayList<>();
        int requests, news = NONE;
        TreeMap<Integer, Integer> asked = new TreeMap<>();

        Place copy() {
            Place c = new Place();
            c.map = map; c.deaf = deaf; c.requests = requests; c.news = news;
            c.cache = new ArrayList<>(cache);
            c.buffer = new ArrayList<>(buffer);
            c.table = new ArrayList<>(table);
            c.asked = new TreeMap<>(asked);
            return c;
        }
    }

    private static final class Net {
        Map<String, Integer> set = new LinkedHashMap<>();
        boolean[][] up = new boolean[8][8];
        Place[] places = new Place[8];
        List<Datum> data = new ArrayList<>();
        List<Frame> air = new ArrayList<>();
        int[] tally = new int[11];
        int now;

        Net() {
            int[] first = {2, 7, 4, 4, 3, 9, 3, 1};
            for (int k = 0; k < 8; k++) {
                set.put(SETTING_NAMES[k], first[k]);
                places[k] = new Place();
            }
        }

        Net copy() {
            Net c = new Net();
            c.set = new LinkedHashMap<>(set);
            for (int n = 0; n < 8; n++) {
                c.up[n] = up[n].clone();
                c.places[n] = places[n].copy();
            }
            for (Datum d : data) {
                c.data.add(d.copy());
            }
            c.air = new ArrayList<>(air);
            c.tally = tally.clone();
            c.now = now;
            return c;
        }

        int nodes() { return set.get("nodes"); }
        int most() { return set.get("hops"); }

        void learn(int n, List<Integer> row) {
            if (row.size() == 1) return;
            if (row.get(0) != n) throw new IllegalStateException("a row that begins with another NODE");
            List<Integer> r = new ArrayList<>(row.subList(0, Math.min(row.size(), most() + 1)));
            List<List<Integer>> cache = places[n].cache;
            if (!places[n].map) {
                cache.remove(r);
                cache.add(0, r);
                if (cache.size() > set.get("room")) cache.remove(cache.size() - 1);
                return;
            }
            for (int i = 0; i + 1 < r.size(); i++) {
                List<Integer> link = link(r.get(i), r.get(i + 1));
                if (cache.remove(link)) {
                    cache.add(0, link);
                } else {
                    cache.add(0, link);
                    if (cache.size() > 3 * set.get("room")) cache.remove(cache.size() - 1);
                }
            }
        }

        static List<Integer> link(int a, int b) {
            return a < b ? List.of(a, b) : List.of(b, a);
        }

        static int told(int a, int b) {
            return 10 * link(a, b).get(0) + link(a, b).get(1);
        }

        void forget(int n, int told) {
            if (told == NONE) return;
            List<Integer> gone = List.of(told / 10, told % 10);
            Place p = places[n];
            if (p.map) {
                p.cache.remove(gone);
                return;
            }
            List<List<Integer>> cut = new ArrayList<>();
            for (List<Integer> path : p.cache) {
                List<Integer> left = path;
                for (int i = 0; i + 1 < path.size(); i++) {
                    if (link(path.get(i), path.get(i + 1)).equals(gone)) left = path.subList(0, i + 1);
                }
                cut.add(new ArrayList<>(left));
            }
            p.cache = new ArrayList<>();
            for (List<Integer> path : cut) {
                if (path.size() > 1 && !p.cache.contains(path)) p.cache.add(path);
            }
        }

        List<Integer> way(int n, int to) {
            return places[n].map ? mapWay(places[n].cache, n, to) : pathWay(n, to);
        }

        private List<Integer> pathWay(int n, int to) {
            List<Integer> best = null;
            for (List<Integer> path : places[n].cache) {
                for (int size = 2; size <= path.size(); size++) {
                    boolean there = path.get(size - 1) == to;
                    if (there && (best == null || size < best.size())) best = path.subList(0, size);
                }
            }
            return best == null ? null : new ArrayList<>(best);
        }

        /** All rows of known LINKS are walked, the lesser NODES first; the first one of the shortest is kept. */
        List<Integer> mapWay(List<List<Integer>> links, int n, int to) {
            List<List<Integer>> found = new ArrayList<>();
            walk(links, new ArrayList<>(List.of(n)), to, found);
            List<Integer> best = null;
            for (List<Integer> row : found) {
                if (best == null || row.size() < best.size()) best = row;
            }
            return best == null || best.size() - 1 > most() ? null : best;
        }

        private void walk(List<List<Integer>> links, List<Integer> row, int to, List<List<Integer>> found) {
            int last = row.get(row.size() - 1);
            if (last == to) {
                found.add(new ArrayList<>(row));
                return;
            }
            for (int next = 0; next < 8; next++) {
                if (next != last && !row.contains(next) && links.contains(link(last, next))) {
                    row.add(next);
                    walk(links, row, to, found);
                    row.remove(row.size() - 1);
                }
            }
        }

        boolean put(Frame f) {
            if (air.size() >= 40) {
                tally[8]++;
                return false;
            }
            air.add(f);
            tally[f.kind]++;
            return true;
        }

        void sendData(int number, List<Integer> rest) {
            Datum d = data.get(number);
            d.rest = new ArrayList<>(rest);
            d.state = 1;
            if (!put(new Frame(0, rest.get(0), rest.get(1), number, NONE, NONE, List.copyOf(rest)))) lose(d);
        }

        void lose(Datum d) {
            d.state = 3;
            d.ended = now;
            d.rest.clear();
            tally[10]++;
        }

        void sendReply(int from, List<Integer> row) {
            int to = row.get(row.indexOf(from) - 1);
            put(new Frame(2, from, to, row.get(row.size() - 1), NONE, NONE, List.copyOf(row)));
        }

        void serve(int number) {
            Datum d = data.get(number);
            List<Integer> way = way(d.origin, d.end);
            if (way != null) {
                sendData(number, way);
                return;
            }
            Place p = places[d.origin];
            if (p.buffer.size() == set.get("buffer")) {
                lose(d);
                return;
            }
            d.state = 0;
            d.rest.clear();
            d.since = now;
            p.buffer.add(number);
            if (!p.asked.containsKey(d.end)) ask(d.origin, d.end);
        }

        void ask(int n, int t) {
            Place p = places[n];
            p.requests++;
            p.asked.put(t, now);
            put(new Frame(1, n, NONE, t, p.requests, p.news, List.of(n)));
        }

        void tick() {
            now++;
            arrivals();
            for (int n = 0; n < nodes(); n++) {
                buffers(n);
            }
        }

        void arrivals() {
            for (int left = air.size(); left > 0; left--) {
                Frame f = air.remove(0);
                switch (f.kind) {
                    case 0: dataCame(f); break;
                    case 1: requestCame(f); break;
                    case 2: replyCame(f); break;
                    default: errorCame(f); break;
                }
            }
        }

        private void buffers(int n) {
            Place p = places[n];
            for (Integer number : new ArrayList<>(p.buffer)) {
                Datum d = data.get(number);
                List<Integer> way = way(n, d.end);
                if (way != null) {
                    p.buffer.remove(number);
                    sendData(number, way);
                } else if (now - d.since >= set.get("wait")) {
                    p.buffer.remove(number);
                    lose(d);
                }
            }
            for (int t : new ArrayList<>(p.asked.keySet())) {
                boolean any = false;
                for (int number : p.buffer) {
                    any |= data.get(number).end == t;
                }
                if (!any) {
                    p.asked.remove(t);
                } else if (now - p.asked.get(t) >= set.get("again")) {
                    ask(n, t);
                }
            }
        }

        List<Integer> near(int x) {
            List<Integer> near = new ArrayList<>();
            for (int n = 0; n < 8; n++) {
                if (n != x && up[x][n]) near.add(n);
            }
            return near;
        }

        static List<Integer> backwards(List<Integer> row) {
            List<Integer> back = new ArrayList<>(row);
            Collections.reverse(back);
            return back;
        }

        static List<Integer> glue(List<Integer> a, List<Integer> b) {
            List<Integer> all = new ArrayList<>(a);
            all.addAll(b);
            return all;
        }

        private void dataCame(Frame f) {
            Datum d = data.get(f.about);
            int x = f.from, y = f.to;
            if (!up[x][y]) {
                tally[6]++;
                forget(x, told(x, y));
                if (x == d.origin) {
                    places[x].news = told(x, y);
                    serve(f.about);
                    return;
                }
                List<Integer> back = backwards(d.trail);
                put(new Frame(3, x, back.get(1), told(x, y), NONE, NONE, back));
                List<Integer> way = way(x, d.end);
                boolean good = d.salvaged < set.get("salvage") && way != null;
                for (int n : d.trail) {
                    good &= way == null || n == x || !way.contains(n);
                }
                if (good) {
                    d.salvaged++;
                    tally[4]++;
                    sendData(f.about, way);
                } else {
                    lose(d);
                }
                return;
            }
            d.trail.add(y);
            d.rest.remove(0);
            learn(y, d.rest);
            learn(y, backwards(d.trail));
            List<Integer> upToX = new ArrayList<>(d.trail.subList(0, d.trail.size() - 1));
            for (int z : near(x)) {
                if (places[z].deaf || d.trail.contains(z)) continue;
                learn(z, glue(List.of(z), backwards(upToX)));
                if (d.rest.indexOf(z) > 0 && (d.shorteners >> z & 1) == 0) {
                    d.shorteners |= 1 << z;
                    tally[5]++;
                    sendReply(z, glue(upToX, d.rest.subList(d.rest.indexOf(z), d.rest.size())));
                }
            }
            if (y == d.end) {
                d.state = 2;
                d.ended = now;
                d.rest.clear();
                tally[9]++;
            } else {
                sendData(f.about, d.rest);
            }
        }

        private void requestCame(Frame f) {
            for (int z : near(f.from)) {
                forget(z, f.news);
                List<Integer> entry = List.of(f.row.get(0), f.number);
                if (f.row.contains(z) || places[z].table.contains(entry)) {
                    tally[7]++;
                    continue;
                }
                places[z].table.add(0, entry);
                if (places[z].table.size() > set.get("table")) places[z].table.remove(set.get("table").intValue());
                learn(z, glue(List.of(z), backwards(f.row)));
                List<Integer> own = glue(f.row, List.of(z));
                List<Integer> way = z == f.about ? null : way(z, f.about);
                List<Integer> whole = way == null ? null : glue(f.row, way);
                if (z == f.about) {
                    sendReply(z, own);
                } else if (whole != null && isRoute(whole)) {
                    sendReply(z, whole);
                } else if (own.size() - 1 < most()) {
                    put(new Frame(1, z, NONE, f.about, f.number, f.news, own));
                }
            }
        }

        private boolean isRoute(List<Integer> row) {
            return row.stream().distinct().count() == row.size() && row.size() >= 2 && row.size() - 1 <= most();
        }

        private void replyCame(Frame f) {
            int x = f.from, y = f.to;
            if (!up[x][y]) {
                forget(x, told(x, y));
                return;
            }
            learn(y, f.row.subList(f.row.indexOf(y), f.row.size()));
            if (f.row.get(0) != y) sendReply(y, f.row);
            List<Integer> fromX = f.row.subList(f.row.indexOf(x), f.row.size());
            for (int z : near(x)) {
                if (z != y && !places[z].deaf && !fromX.contains(z)) learn(z, glue(List.of(z), fromX));
            }
        }

        private void errorCame(Frame f) {
            int x = f.from, y = f.to;
            if (!up[x][y]) {
                forget(x, told(x, y));
                return;
            }
            forget(y, f.about);
            int origin = f.row.get(f.row.size() - 1);
            if (y == origin) {
                places[y].news = f.about;
            } else {
                put(new Frame(3, y, f.row.get(2), f.about, NONE, NONE, List.copyOf(f.row.subList(1, f.row.size()))));
            }
            for (int z : near(x)) {
                if (z != y && !places[z].deaf) forget(z, f.about);
            }
        }

        int bring(int from, int to) {
            if (!two(from, to) || data.size() == 40) return NONE;
            Datum d = new Datum();
            d.origin = from;
            d.end = to;
            d.came = now;
            d.trail.add(from);
            data.add(d);
            serve(data.size() - 1);
            return data.size() - 1;
        }

        boolean there(int n) { return n >= 0 && n < nodes(); }
        boolean two(int a, int b) { return there(a) && there(b) && a != b; }

        int buffered() {
            int sum = 0;
            for (Datum d : data) {
                sum += d.state == 0 ? 1 : 0;
            }
            return sum;
        }

        int count(int what) {
            return what < 0 || what > 12 ? NONE : what == 11 ? air.size() : what == 12 ? buffered() : tally[what];
        }

        int datum(int k, int what) {
            if (k < 0 || k >= data.size() || what < 0 || what > 8) return -2;
            Datum d = data.get(k);
            int[] all = {d.origin, d.end, d.state, d.salvaged, d.trail.size(), d.state == 1 ? d.rest.size() : 0,
                d.came, d.ended, d.shorteners};
            return all[what];
        }

        List<List<Integer>> links(int n) {
            List<List<Integer>> all = new ArrayList<>();
            for (List<Integer> path : places[n].cache) {
                for (int i = 0; i + 1 < path.size(); i++) {
                    List<Integer> link = link(path.get(i), path.get(i + 1));
                    if (!all.contains(link)) all.add(link);
                }
            }
            return all;
        }

        int far(int a, int b) {
            int[][] d = new int[8][8];
            for (int i = 0; i < 8; i++) {
                for (int j = 0; j < 8; j++) {
                    d[i][j] = i == j ? 0 : up[i][j] ? 1 : 99;
                }
            }
            for (int k = 0; k < 8; k++) {
                for (int i = 0; i < 8; i++) {
                    for (int j = 0; j < 8; j++) {
                        d[i][j] = Math.min(d[i][j], d[i][k] + d[k][j]);
                    }
                }
            }
            return d[a][b] > 7 ? NONE : d[a][b];
        }
    }

    private record Kept(List<Integer> text, int fault, int place, Net net) { }

    private List<Integer> text = new ArrayList<>();
    private int fault = 0;
    private int place = NONE;
    private Net net = new Net();
    private final Kept[] images = new Kept[3];

    public int say(long eight) {
        List<Integer> come = new ArrayList<>();
        for (int shift = 56; shift >= 0; shift -= 8) {
            int b = (int) (eight >> shift) & 255;
            if (b == 0) break;
            come.add(b);
        }
        if (text.size() + come.size() > 400) return NONE;
        text.addAll(come);
        return text.size();
    }

    private record Token(String what, int place) { }

    private static List<Token> tokens(List<Integer> bytes) {
        StringBuilder all = new StringBuilder();
        for (int b : bytes) {
            all.append((char) b);
        }
        List<Token> tokens = new ArrayList<>();
        java.util.regex.Matcher m = java.util.regex.Pattern.compile("[a-z]+|[0-9]+|;|[^ \n]", java.util.regex.Pattern.DOTALL).matcher(all);
        while (m.find()) {
            tokens.add(new Token(m.group(), m.start()));
        }
        tokens.add(new Token("", bytes.size()));
        return tokens;
    }

    public int net() {
        List<Token> tokens = tokens(text);
        text = new ArrayList<>();
        fault = 0;
        place = NONE;
        List<List<Token>> clauses = new ArrayList<>();
        int at = 0;
        while (!tokens.get(at).what.isEmpty()) {
            String word = tokens.get(at).what;
            if (!word.matches("nodes|link|hops|room|table|buffer|wait|again|salvage|map|deaf")) return fail(1, tokens.get(at));
            int size = word.equals("link") ? 4 : 3;
            for (int i = 1; i < size; i++) {
                Token t = tokens.get(at + i);
                if (!t.what.matches(i == size - 1 ? ";" : "[0-9][0-9]?")) return fail(1, t);
            }
            clauses.add(tokens.subList(at, at + size));
            at += size;
        }
        Net told = new Net();
        for (List<Token> c : clauses) {
            int k = List.of(SETTING_NAMES).indexOf(c.get(0).what);
            for (int i = 1; i < c.size() - 1; i++) {
                int v = Integer.parseInt(c.get(i).what);
                boolean good = k >= 0 ? v >= RANGES[k][0] && v <= RANGES[k][1] : v <= 7;
                if (!good || i == 2 && v == Integer.parseInt(c.get(1).what)) return fail(2, c.get(i));
            }
            if (k >= 0) told.set.put(c.get(0).what, Integer.parseInt(c.get(1).what));
        }
        for (List<Token> c : clauses) {
            if (told.set.containsKey(c.get(0).what)) continue;
            for (int i = 1; i < c.size() - 1; i++) {
                if (Integer.parseInt(c.get(i).what) >= told.nodes()) return fail(3, c.get(i));
            }
            int a = Integer.parseInt(c.get(1).what);
            if (c.size() == 4) {
                int b = Integer.parseInt(c.get(2).what);
                told.up[a][b] = true;
                told.up[b][a] = true;
            } else if (c.get(0).what.equals("map")) {
                told.places[a].map = true;
            } else {
                told.places[a].deaf = true;
            }
        }
        net = told;
        return net.nodes();
    }

    private int fail(int which, Token where) {
        fault = which;
        place = where.place;
        return NONE;
    }

    public int fault(boolean where) { return where ? place : fault; }

    public int send(int from, int to) { return net.bring(from, to); }

    public boolean turn(int a, int b, boolean down) {
        if (!net.two(a, b) || net.up[a][b] == !down) return false;
        net.up[a][b] = !down;
        net.up[b][a] = !down;
        return true;
    }

    public int ticks(int n) {
        if (n < 1 || n > 6 || net.now + n > 900) return NONE;
        for (int k = 0; k < n; k++) {
            net.tick();
        }
        return net.now;
    }

    public int has(int what) {
        if (what < 0 || what > 11) return NONE;
        if (what < 8) return net.set.get(SETTING_NAMES[what]);
        return new int[] {net.now, net.data.size(), net.air.size(), text.size()}[what - 8];
    }

    public int node(int node, int what) {
        if (!net.there(node) || what < 0 || what > 9) return -2;
        Place p = net.places[node];
        int asks = 0, ways = 0, ups = 0;
        for (int n = 0; n < net.nodes(); n++) {
            asks |= p.asked.containsKey(n) ? 1 << n : 0;
            ways |= n != node && net.way(node, n) != null ? 1 << n : 0;
            ups |= net.up[node][n] ? 1 << n : 0;
        }
        int[] all = {p.map ? 1 : 0, p.deaf ? 0 : 1, p.cache.size(), p.buffer.size(), p.requests, p.news,
            p.table.size(), asks, ways, ups};
        return all[what];
    }

    private static <T> T at(List<T> list, int k, T other) {
        return k >= 0 && list != null && k < list.size() ? list.get(k) : other;
    }

    public int kept(int node, int k, int i) {
        return net.there(node) ? at(at(net.places[node].cache, k, List.of()), i, NONE) : NONE;
    }

    public int seen(int node, int k) {
        List<Integer> entry = net.there(node) ? at(net.places[node].table, k, null) : null;
        return entry == null ? NONE : 100000 * entry.get(0) + entry.get(1);
    }

    public int waits(int node, int k) {
        return net.there(node) ? at(net.places[node].buffer, k, NONE) : NONE;
    }

    public int way(int node, int to, int i) {
        return net.two(node, to) ? at(net.way(node, to), i, NONE) : NONE;
    }

    public int hops(int node, int to) {
        return net.two(node, to) && net.way(node, to) != null ? net.way(node, to).size() - 1 : NONE;
    }

    public int data(int data, int what) { return net.datum(data, what); }

    public int trail(int data, int i, boolean rest) {
        Datum d = at(net.data, data, null);
        return d == null || rest && d.state != 1 ? NONE : at(rest ? d.rest : d.trail, i, NONE);
    }

    public int air(int k, int what) {
        Frame f = at(net.air, k, null);
        return f == null ? -2 : at(List.of(f.kind, f.from, f.to, f.about, f.number, f.news), what, -2);
    }

    public int row(int k, int i) {
        Frame f = at(net.air, k, null);
        return f == null ? NONE : at(f.row, i, NONE);
    }

    public int tally(int what) { return what > 10 ? NONE : net.count(what); }

    public int far(int a, int b) { return net.there(a) && net.there(b) ? net.far(a, b) : NONE; }

    public int holders(int a, int b) {
        if (!net.two(a, b)) return NONE;
        int set = 0;
        for (int n = 0; n < net.nodes(); n++) {
            set += net.links(n).contains(Net.link(a, b)) ? 1 << n : 0;
        }
        return set;
    }

    public int stale(int node) {
        if (!net.there(node)) return NONE;
        int down = 0;
        for (List<Integer> link : net.links(node)) {
            down += net.up[link.get(0)][link.get(1)] ? 0 : 1;
        }
        return down;
    }

    public boolean sound(int node, int to) {
        List<Integer> way = net.two(node, to) ? net.way(node, to) : null;
        for (int i = 0; way != null && i + 1 < way.size(); i++) {
            if (!net.up[way.get(i)][way.get(i + 1)]) return false;
        }
        return way != null;
    }

    public int mapped(int node, int to) {
        List<Integer> way = net.two(node, to) ? net.mapWay(net.links(node), node, to) : null;
        return way == null ? NONE : way.size() - 1;
    }

    public int bridges(int a, int b) {
        if (!net.two(a, b)) return NONE;
        int sum = 0;
        for (int m = 0; m < 8 && net.far(a, b) != NONE; m++) {
            for (int n = 0; n < m; n++) {
                Net other = net.copy();
                other.up[m][n] = false;
                other.up[n][m] = false;
                sum += other.far(a, b) == NONE ? 1 : 0;
            }
        }
        return sum;
    }

    private static Net after(Net net, int ticks) {
        for (int k = 0; k < ticks; k++) {
            net.tick();
        }
        return net;
    }

    public int ahead(int ticks, int what) {
        return ticks < 0 || ticks > 6 ? NONE : after(net.copy(), ticks).count(what);
    }

    public int turned(int a, int b, int ticks, int what) {
        if (!net.two(a, b) || ticks < 0 || ticks > 6) return NONE;
        Net other = net.copy();
        other.up[a][b] ^= true;
        other.up[b][a] ^= true;
        return after(other, ticks).count(what);
    }

    public int sent(int from, int to, int ticks, int what) {
        Net other = net.copy();
        int number = other.bring(from, to);
        return ticks < 0 || ticks > 6 || number == NONE ? -2 : after(other, ticks).datum(number, what);
    }

    public int flood(int node, int to, boolean replies) {
        if (!net.two(node, to)) return NONE;
        Net other = net.copy();
        other.air.clear();
        other.ask(node, to);
        while (other.air.stream().anyMatch(f -> f.kind == 1)) {
            other.arrivals();
        }
        int kind = replies ? 2 : 1;
        return other.tally[kind] - net.tally[kind];
    }

    public int quiet() {
        Net other = net.copy();
        for (int k = 0; k <= 12; k++) {
            if (other.air.isEmpty() && other.buffered() == 0) return k;
            other.tick();
        }
        return NONE;
    }

    public boolean image(int k) {
        if (k < 0 || k > 2) return false;
        images[k] = new Kept(new ArrayList<>(text), fault, place, net.copy());
        return true;
    }

    public boolean again(int k) {
        if (k < 0 || k > 2 || images[k] == null) return false;
        text = new ArrayList<>(images[k].text);
        fault = images[k].fault;
        place = images[k].place;
        net = images[k].net.copy();
        return true;
    }
}
