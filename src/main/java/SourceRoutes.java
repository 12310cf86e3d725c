/**
 * Source routes on demand, as ../shared/DOC.md tells them: a small net of NODES that ask for ways,
 * keep them in CACHES, send DATA along them and forget what broke.
 */
public final class SourceRoutes {
    public static final int NONE = -1;

    /** What a question answers where NONE is an answer of its own. */
    private static final int REFUSED = -2;

    private static final int MOST_NODES = 8;
    private static final int MOST_DATA = 40;
    private static final int MOST_NOW = 900;
    private static final int MOST_TICKS = 6;
    private static final int MOST_QUIET = 12;
    private static final int MOST_IMAGES = 3;

    /** Where each of the settings stands, as has() numbers them. */
    private static final int NODES = 0;
    private static final int HOPS = 1;
    private static final int ROOM = 2;
    private static final int TABLE = 3;
    private static final int BUFFER = 4;
    private static final int WAIT = 5;
    private static final int AGAIN = 6;
    private static final int SALVAGE = 7;
    private static final int SETTINGS = 8;

    /** Kinds of FRAMES, as air() numbers them; tally() has its first four by the same numbers. */
    private static final int DATA = 0;
    private static final int REQUEST = 1;
    private static final int REPLY = 2;
    private static final int ERROR = 3;

    /** The other tallies, as tally() numbers them. */
    private static final int SALVAGED = 4;
    private static final int SHORTENED = 5;
    private static final int BREAKS = 6;
    private static final int DUPLICATES = 7;
    private static final int JAMMED = 8;
    private static final int DELIVERED = 9;
    private static final int LOST = 10;
    private static final int TALLIES = 11;

    /** How a DATA stands, as data() numbers it. */
    private static final int IS_BUFFERED = 0;
    private static final int IS_IN_THE_AIR = 1;
    private static final int IS_DELIVERED = 2;
    private static final int IS_LOST = 3;

    private final Text text = new Text();
    private final Reader reader = new Reader();
    private final World world = new World();
    /** What an IF is tried on, so that questions change nothing. */
    private final World trial = new World();
    private final Text[] keptTexts = new Text[MOST_IMAGES];
    private final World[] keptWorlds = new World[MOST_IMAGES];
    /** Which images there are, as bits. */
    private int images;

    public SourceRoutes() {
        for (int k = 0; k < MOST_IMAGES; k++) {
            keptTexts[k] = new Text();
            keptWorlds[k] = new World();
        }
        reader.begin();
        world.become(reader);
    }

    public int say(long eight) {
        return text.take(eight);
    }

    public int net() {
        reader.readAll(text);
        text.count = 0;
        text.fault = reader.fault;
        text.place = reader.place;
        if (reader.fault != 0) {
            return NONE;
        }
        world.become(reader);
        return world.settings[NODES];
    }

    public int fault(boolean place) {
        return place ? text.place : text.fault;
    }

    // ---- acts

    public int send(int from, int to) {
        return world.bring(from, to);
    }

    public boolean turn(int a, int b, boolean down) {
        if (!world.areTwo(a, b) || Links.hold(world.up, a, b) != down) {
            return false;
        }
        world.up ^= Links.both(a, b);
        return true;
    }

    public int ticks(int n) {
        if (n < 1 || n > MOST_TICKS || world.now + n > MOST_NOW) {
            return NONE;
        }
        for (int k = 0; k < n; k++) {
            world.tick(false);
        }
        return world.now;
    }

    // ---- what there is

    public int has(int what) {
        if (what >= 0 && what < SETTINGS) {
            return world.settings[what];
        }
        switch (what) {
            case 8: return world.now;
            case 9: return world.dataCount;
            case 10: return world.air.count;
            case 11: return text.count;
            default: return NONE;
        }
    }

    public int node(int node, int what) {
        return world.isNode(node) ? world.tellNode(node, what) : REFUSED;
    }

    public int kept(int node, int k, int i) {
        return world.isNode(node) ? Row.at(world.post(node).cache.rows.get(k), i) : NONE;
    }

    public int seen(int node, int k) {
        if (!world.isNode(node) || k < 0 || k >= world.post(node).table.count) {
            return NONE;
        }
        return (int) world.post(node).table.get(k);
    }

    public int waits(int node, int k) {
        return world.isNode(node) ? world.post(node).waitingAt(k) : NONE;
    }

    public int way(int node, int to, int i) {
        return Row.at(world.wayOf(node, to), i);
    }

    public int hops(int node, int to) {
        long row = world.wayOf(node, to);
        return row == Row.EMPTY ? NONE : Row.length(row) - 1;
    }

    public int data(int data, int what) {
        return world.tellData(data, what);
    }

    public int trail(int data, int i, boolean rest) {
        if (data < 0 || data >= world.dataCount) {
            return NONE;
        }
        Data d = world.datum(data);
        return Row.at(rest ? d.rest : d.trail, i);
    }

    public int air(int k, int what) {
        Frame frame = world.air.frameAt(k);
        if (frame == null) {
            return REFUSED;
        }
        switch (what) {
            case 0: return frame.kind;
            case 1: return frame.from;
            case 2: return frame.to;
            case 3: return frame.about;
            case 4: return frame.number;
            case 5: return frame.news;
            default: return REFUSED;
        }
    }

    public int row(int k, int i) {
        Frame frame = world.air.frameAt(k);
        return frame == null ? NONE : Row.at(frame.row, i);
    }

    public int tally(int what) {
        return what >= 0 && what < TALLIES ? world.tallies[what] : NONE;
    }

    // ---- what is known, what is so

    public int far(int a, int b) {
        return world.isNode(a) && world.isNode(b) ? Links.distance(world.up, a, b) : NONE;
    }

    public int holders(int a, int b) {
        if (!world.areTwo(a, b)) {
            return NONE;
        }
        int holders = 0;
        for (int n = 0; n < MOST_NODES; n++) {
            if (Links.hold(world.post(n).cache.links(), a, b)) {
                holders |= 1 << n;
            }
        }
        return holders;
    }

    public int stale(int node) {
        if (!world.isNode(node)) {
            return NONE;
        }
        return Links.count(world.post(node).cache.links() & ~world.up);
    }

    public boolean sound(int node, int to) {
        long row = world.wayOf(node, to);
        return row != Row.EMPTY && (Links.along(row) & ~world.up) == 0;
    }

    public int mapped(int node, int to) {
        if (!world.areTwo(node, to)) {
            return NONE;
        }
        int links = Links.distance(world.post(node).cache.links(), node, to);
        return links <= world.settings[HOPS] ? links : NONE;
    }

    public int bridges(int a, int b) {
        if (!world.areTwo(a, b)) {
            return NONE;
        }
        if (Links.distance(world.up, a, b) == NONE) {
            return 0;
        }
        int bridges = 0;
        for (int m = 0; m < MOST_NODES; m++) {
            for (int n = m + 1; n < MOST_NODES; n++) {
                if (Links.hold(world.up, m, n)
                        && Links.distance(world.up & ~Links.both(m, n), a, b) == NONE) {
                    bridges++;
                }
            }
        }
        return bridges;
    }

    // ---- what would come

    public int ahead(int ticks, int what) {
        if (!mayGoBy(ticks)) {
            return NONE;
        }
        trial.copyFrom(world);
        for (int k = 0; k < ticks; k++) {
            trial.tick(false);
        }
        return trial.tellCount(what);
    }

    public int turned(int a, int b, int ticks, int what) {
        if (!world.areTwo(a, b) || !mayGoBy(ticks)) {
            return NONE;
        }
        trial.copyFrom(world);
        trial.up ^= Links.both(a, b);
        for (int k = 0; k < ticks; k++) {
            trial.tick(false);
        }
        return trial.tellCount(what);
    }

    public int sent(int from, int to, int ticks, int what) {
        if (!mayGoBy(ticks)) {
            return REFUSED;
        }
        trial.copyFrom(world);
        int number = trial.bring(from, to);
        for (int k = 0; k < ticks; k++) {
            trial.tick(false);
        }
        return trial.tellData(number, what);
    }

    public int flood(int node, int to, boolean replies) {
        if (!world.areTwo(node, to)) {
            return NONE;
        }
        trial.copyFrom(world);
        trial.air.count = 0;
        trial.ask(node, to);
        // Each REQUEST has one NODE more in its row than the one that it came from.
        for (int k = 0; k < MOST_NODES && trial.air.hasKind(REQUEST); k++) {
            trial.tick(true);
        }
        int kind = replies ? REPLY : REQUEST;
        return trial.tallies[kind] - world.tallies[kind];
    }

    public int quiet() {
        trial.copyFrom(world);
        for (int k = 0; k < MOST_QUIET && !trial.isQuiet(); k++) {
            trial.tick(false);
        }
        return trial.isQuiet() ? trial.now - world.now : NONE;
    }

    // ---- kept

    public boolean image(int k) {
        if (k < 0 || k >= MOST_IMAGES) {
            return false;
        }
        images |= 1 << k;
        keptTexts[k].copyFrom(text);
        keptWorlds[k].copyFrom(world);
        return true;
    }

    public boolean again(int k) {
        if (k < 0 || k >= MOST_IMAGES || (images >> k & 1) == 0) {
            return false;
        }
        text.copyFrom(keptTexts[k]);
        world.copyFrom(keptWorlds[k]);
        return true;
    }

    private static boolean mayGoBy(int ticks) {
        return ticks >= 0 && ticks <= MOST_TICKS;
    }

    /**
     * A row of up to eight unlike NODES in one long: four bits for each, the first one lowest, the
     * NODE's number and one (0: the row is at its end). So rows need no room and are the same by ==.
     */
    private static final class Row {
        static final long EMPTY = 0;

        static int at(long row, int i) {
            return i < 0 || i >= MOST_NODES ? NONE : (int) (row >>> 4 * i & 15) - 1;
        }

        static int length(long row) {
            int n = 0;
            while (n < MOST_NODES && row >>> 4 * n != 0) {
                n++;
            }
            return n;
        }

        static int indexOf(long row, int node) {
            for (int i = 0; i < MOST_NODES && row >>> 4 * i != 0; i++) {
                if ((row >>> 4 * i & 15) == node + 1) {
                    return i;
                }
            }
            return NONE;
        }

        static boolean holds(long row, int node) {
            return indexOf(row, node) != NONE;
        }

        /** The row with a NODE behind its last one. */
        static long with(long row, int node) {
            int n = length(row);
            return n < MOST_NODES ? row | (long) (node + 1) << 4 * n : row;
        }

        /** A NODE and then the row. */
        static long behind(int node, long row) {
            return first(row, MOST_NODES - 1) << 4 | node + 1;
        }

        static long first(long row, int n) {
            return n < 0 || n > MOST_NODES ? row : row & (1L << 4 * n) - 1;
        }

        static long from(long row, int i) {
            return i < 0 || i > MOST_NODES ? EMPTY : row >>> 4 * i;
        }

        static long reversed(long row) {
            long back = EMPTY;
            for (int i = 0; i < MOST_NODES && row >>> 4 * i != 0; i++) {
                back = back << 4 | row >>> 4 * i & 15;
            }
            return back;
        }

        /** One row and then the other, or EMPTY if they share a NODE. */
        static long joined(long row, long other) {
            return (nodes(row) & nodes(other)) != 0 ? EMPTY : row | other << 4 * length(row);
        }

        static int nodes(long row) {
            int set = 0;
            for (int i = 0; i < MOST_NODES && row >>> 4 * i != 0; i++) {
                set |= 1 << (int) (row >>> 4 * i & 15) - 1;
            }
            return set;
        }
    }

    /** A set of LINKS as a matrix of eight times eight bits in one long: bit 8 * a + b and its mirror. */
    private static final class Links {
        static long both(int a, int b) {
            return 1L << 8 * a + b | 1L << 8 * b + a;
        }

        static boolean hold(long links, int a, int b) {
            return (links & both(a, b)) != 0;
        }

        static int near(long links, int node) {
            return (int) (links >>> 8 * node) & 255;
        }

        static int count(long links) {
            return Long.bitCount(links) / 2;
        }

        /** The LINK between two NODES as the answers tell it. */
        static int told(int a, int b) {
            return 10 * Math.min(a, b) + Math.max(a, b);
        }

        static long along(long row) {
            long links = 0;
            for (int i = 1; i < MOST_NODES && row >>> 4 * i != 0; i++) {
                links |= both(Row.at(row, i - 1), Row.at(row, i));
            }
            return links;
        }

        /** Eight sets of NODES, eight bits each: the d-th has those from which it takes d LINKS to a NODE. */
        static long levels(long links, int to) {
            int rim = 1 << to;
            int met = rim;
            long levels = rim;
            for (int d = 1; d < MOST_NODES; d++) {
                int next = 0;
                for (int n = 0; n < MOST_NODES; n++) {
                    next |= (rim >> n & 1) != 0 ? (int) (links >>> 8 * n) & 255 : 0;
                }
                rim = next & ~met;
                met |= rim;
                levels |= (long) rim << 8 * d;
            }
            return levels;
        }

        static int levelOf(long levels, int node) {
            for (int d = 0; d < MOST_NODES; d++) {
                if ((levels >>> 8 * d + node & 1) != 0) {
                    return d;
                }
            }
            return NONE;
        }

        static int distance(long links, int from, int to) {
            return levelOf(levels(links, to), from);
        }

        /** Of the shortest rows between two NODES the least one, or EMPTY if it takes more than so many LINKS. */
        static long leastRow(long links, int from, int to, int most) {
            long levels = levels(links, to);
            int left = levelOf(levels, from);
            if (left < 1 || left > most) {
                return Row.EMPTY;
            }
            int at = from;
            long row = from + 1;
            for (int i = 1; i < MOST_NODES && left > 0; i++) {
                left--;
                int next = near(links, at) & (int) (levels >>> 8 * left);
                at = Integer.bitCount((next & -next) - 1);
                row = Row.with(row, at);
            }
            return row;
        }
    }

    /** THE TEXT, and the FAULT of the one that was read latest. */
    private static final class Text {
        static final int MOST_BYTES = 400;

        final byte[] bytes = new byte[MOST_BYTES];
        int count;
        int fault;
        int place = NONE;

        int take(long eight) {
            int come = 0;
            while (come < 8 && (eight >>> 56 - 8 * come & 255) != 0) {
                come++;
            }
            if (count + come > MOST_BYTES) {
                return NONE;
            }
            for (int i = 0; i < come && count < MOST_BYTES; i++) {
                bytes[count] = (byte) (eight >>> 56 - 8 * i);
                count++;
            }
            return count;
        }

        int byteAt(int i) {
            return i >= 0 && i < count ? bytes[i] & 255 : NONE;
        }

        void copyFrom(Text other) {
            System.arraycopy(other.bytes, 0, bytes, 0, MOST_BYTES);
            count = other.count;
            fault = other.fault;
            place = other.place;
        }
    }

    /** Reads THE TEXT as a NET, and holds what it tells. */
    private static final class Reader {
        /** The words, eight signs each: first the settings in the order of has(). */
        static final String WORDS =
            "nodes   hops    room    table   buffer  wait    again   salvage link    map     deaf    ";
        static final int WORD_COUNT = 11;
        static final int LINK = 8;
        static final int MAP = 9;
        static final int[] LEAST = {2, 1, 1, 1, 1, 1, 1, 0};
        static final int[] MOST = {8, 7, 6, 6, 4, 20, 9, 3};
        static final int[] AT_FIRST = {2, 7, 4, 4, 3, 9, 3, 1};

        static final int A_WORD = 0;
        static final int A_NUMBER = 1;
        static final int A_SIGN = 2;
        static final int THE_END = 3;
        static final int NO_TOKEN = 4;

        final int[] settings = new int[SETTINGS];
        long up;
        int maps;
        int deaf;
        int fault;
        int place;
        private Text text;
        private int kind;
        private int start;
        private int end;
        /** Where the first NUMBER stands that can not be. */
        private int wrongPlace;
        /** For each NODE where it is first named. */
        private final int[] namedAt = new int[MOST_NODES];

        /** All is as it is before anything is told. */
        void begin() {
            System.arraycopy(AT_FIRST, 0, settings, 0, SETTINGS);
            up = 0;
            maps = 0;
            deaf = 0;
            fault = 0;
            place = NONE;
            wrongPlace = NONE;
            for (int n = 0; n < MOST_NODES; n++) {
                namedAt[n] = NONE;
            }
        }

        void readAll(Text told) {
            begin();
            text = told;
            end = 0;
            step();
            for (int k = 0; k <= Text.MOST_BYTES && kind != THE_END && fault == 0; k++) {
                readClause();
            }
            if (fault == 0 && wrongPlace != NONE) {
                fail(2, wrongPlace);
            }
            for (int n = settings[NODES]; n < MOST_NODES && n >= 0 && fault != 1 && fault != 2; n++) {
                if (namedAt[n] != NONE && (fault == 0 || namedAt[n] < place)) {
                    fail(3, namedAt[n]);
                }
            }
        }

        private void fail(int which, int where) {
            fault = which;
            place = where;
        }

        /** Goes on to the next token. */
        private void step() {
            start = end;
            while (start < Text.MOST_BYTES && isBlank(text.byteAt(start))) {
                start++;
            }
            end = start;
            int sign = text.byteAt(start);
            if (sign == NONE) {
                kind = THE_END;
            } else if (sign == ';') {
                kind = A_SIGN;
                end++;
            } else if (isLetter(sign)) {
                kind = A_WORD;
                while (end < Text.MOST_BYTES && isLetter(text.byteAt(end))) {
                    end++;
                }
            } else {
                while (end < Text.MOST_BYTES && isDigit(text.byteAt(end))) {
                    end++;
                }
                kind = end - start == 1 || end - start == 2 ? A_NUMBER : NO_TOKEN;
            }
        }

        private static boolean isBlank(int sign) {
            return sign == 32 || sign == 10;
        }

        private static boolean isLetter(int sign) {
            return sign >= 'a' && sign <= 'z';
        }

        private static boolean isDigit(int sign) {
            return sign >= '0' && sign <= '9';
        }

        /** Reads a word, its NUMBERS and the sign behind them. */
        private void readClause() {
            int word = findWord();
            if (word == NONE) {
                fail(1, start);
                return;
            }
            step();
            int first = readNumber(word, NONE);
            int second = word == LINK && fault == 0 ? readNumber(word, first) : NONE;
            if (fault == 0 && kind != A_SIGN) {
                fail(1, start);
            }
            if (fault == 0) {
                step();
                // A number that can not be is found later: what is told is not used then.
                tell(word, first, second);
            }
        }

        /** Which word the token is, or NONE. */
        private int findWord() {
            int length = end - start;
            for (int w = 0; w < WORD_COUNT && kind == A_WORD && length < 8; w++) {
                int i = 0;
                while (i < length && WORDS.charAt(8 * w + i) == text.byteAt(start + i)) {
                    i++;
                }
                if (i == length && WORDS.charAt(8 * w + length) == ' ') {
                    return w;
                }
            }
            return NONE;
        }

        /** The NUMBER that the token is; it may not be the one that is barred. */
        private int readNumber(int word, int barred) {
            if (kind != A_NUMBER) {
                fail(1, start);
                return NONE;
            }
            int number = 0;
            for (int i = start; i < end; i++) {
                number = 10 * number + text.byteAt(i) - '0';
            }
            boolean isSetting = word >= 0 && word < SETTINGS;
            int least = isSetting ? LEAST[word] : 0;
            int most = isSetting ? MOST[word] : MOST_NODES - 1;
            boolean wrong = number < least || number > most || number == barred;
            if (wrong && wrongPlace == NONE) {
                wrongPlace = start;
            }
            if (!isSetting && number < MOST_NODES && namedAt[number] == NONE) {
                namedAt[number] = start;
            }
            step();
            return number;
        }

        private void tell(int word, int first, int second) {
            if (word >= 0 && word < SETTINGS) {
                settings[word] = first;
            } else if (word == LINK) {
                up |= Links.both(first, second);
            } else if (word == MAP) {
                maps |= 1 << first;
            } else {
                deaf |= 1 << first;
            }
        }
    }

    /** Entries, the newest first. */
    private static final class Recent {
        final long[] entries;
        int count;

        Recent(int most) {
            entries = new long[Math.max(most, 1)];
        }

        /** The k-th one, or 0. */
        long get(int k) {
            return k >= 0 && k < count && k < entries.length ? entries[k] : 0;
        }

        boolean holds(long entry) {
            return indexOf(entry) < count;
        }

        private int indexOf(long entry) {
            int k = 0;
            while (k < count && k < entries.length && entries[k] != entry) {
                k++;
            }
            return k;
        }

        /** An entry is the newest then; if it was not there, it comes, and of more than so many the oldest goes. */
        void touch(long entry, int most) {
            int k = indexOf(entry);
            if (k == count && count < most && count < entries.length) {
                count++;
            }
            for (int i = Math.min(k, count - 1); i > 0; i--) {
                entries[i] = entries[i - 1];
            }
            entries[0] = entry;
        }

        void copyFrom(Recent other) {
            count = Math.min(other.count, entries.length);
            System.arraycopy(other.entries, 0, entries, 0, Math.min(entries.length, other.entries.length));
        }
    }

    /**
     * What a NODE knows of ways. A MAP is held as rows of two NODES, the lesser first, so that both
     * kinds forget and are asked in the same manner.
     */
    private static final class Cache {
        static final int MOST_ROWS = 18;

        final int owner;
        final Recent rows = new Recent(MOST_ROWS);
        boolean map;
        int hops;
        int room;

        Cache(int owner) {
            this.owner = owner;
        }

        void begin(boolean isMap, int mostHops, int mostRows) {
            map = isMap;
            hops = mostHops;
            room = isMap ? 3 * mostRows : mostRows;
            rows.count = 0;
        }

        void learn(long row) {
            long learned = Row.first(row, hops + 1);
            int length = Row.length(learned);
            if (length < 2) {
                return;
            }
            if (!map) {
                rows.touch(learned, room);
                return;
            }
            for (int i = 1; i < length; i++) {
                int a = Row.at(learned, i - 1);
                int b = Row.at(learned, i);
                rows.touch(Math.min(a, b) + 1 | (long) (Math.max(a, b) + 1) << 4, room);
            }
        }

        /** Forgets a LINK, told as the answers tell it, if it is one. */
        void forget(int link) {
            if (link < 0) {
                return;
            }
            int before = rows.count;
            rows.count = 0;
            for (int k = 0; k < before && k < MOST_ROWS; k++) {
                long row = cut(rows.entries[k], link / 10, link % 10);
                if (Row.length(row) > 1 && !rows.holds(row)) {
                    rows.entries[rows.count] = row;
                    rows.count++;
                }
            }
        }

        /** The row up to where two NODES stand side by side, ahead of the second one of them. */
        private static long cut(long row, int a, int b) {
            int i = Row.indexOf(row, a);
            int j = Row.indexOf(row, b);
            return i != NONE && j != NONE && Math.abs(i - j) == 1 ? Row.first(row, Math.max(i, j)) : row;
        }

        long wayTo(int to) {
            if (map) {
                return Links.leastRow(links(), owner, to, hops);
            }
            int best = MOST_NODES;
            long found = Row.EMPTY;
            for (int k = 0; k < rows.count; k++) {
                int i = Row.indexOf(rows.get(k), to);
                if (i > 0 && i < best) {
                    best = i;
                    found = Row.first(rows.get(k), i + 1);
                }
            }
            return found;
        }

        long links() {
            long links = 0;
            for (int k = 0; k < rows.count; k++) {
                links |= Links.along(rows.get(k));
            }
            return links;
        }

        void copyFrom(Cache other) {
            rows.copyFrom(other.rows);
            map = other.map;
            hops = other.hops;
            room = other.room;
        }
    }

    /** All that belongs to one NODE. */
    private static final class Post {
        static final int MOST_WAITING = 4;

        final Cache cache;
        final Recent table = new Recent(6);
        final int[] buffer = new int[MOST_WAITING];
        int waiting;
        int requests;
        int news;
        int asks;
        final int[] askedAt = new int[MOST_NODES];
        boolean listens;

        Post(int owner) {
            cache = new Cache(owner);
        }

        void begin(boolean isDeaf) {
            table.count = 0;
            waiting = 0;
            requests = 0;
            news = NONE;
            asks = 0;
            listens = !isDeaf;
        }

        int waitingAt(int k) {
            return k >= 0 && k < waiting && k < MOST_WAITING ? buffer[k] : NONE;
        }

        void copyFrom(Post other) {
            cache.copyFrom(other.cache);
            table.copyFrom(other.table);
            System.arraycopy(other.buffer, 0, buffer, 0, MOST_WAITING);
            waiting = other.waiting;
            requests = other.requests;
            news = other.news;
            asks = other.asks;
            System.arraycopy(other.askedAt, 0, askedAt, 0, MOST_NODES);
            listens = other.listens;
        }
    }

    private static final class Data {
        final int number;
        int origin;
        int end;
        int state;
        int salvaged;
        /** EMPTY, unless it is IN THE AIR. */
        long rest;
        long trail;
        int cameAt;
        int endedAt;
        int bufferedAt;
        int shorteners;

        Data(int number) {
            this.number = number;
        }

        void begin(int from, int to, int now) {
            origin = from;
            end = to;
            state = IS_BUFFERED;
            salvaged = 0;
            rest = Row.EMPTY;
            trail = Row.with(Row.EMPTY, from);
            cameAt = now;
            endedAt = NONE;
            bufferedAt = now;
            shorteners = 0;
        }

        void stand(int how, long ways) {
            state = how;
            rest = ways;
        }

        void copyFrom(Data other) {
            begin(other.origin, other.end, other.cameAt);
            stand(other.state, other.rest);
            salvaged = other.salvaged;
            trail = other.trail;
            endedAt = other.endedAt;
            bufferedAt = other.bufferedAt;
            shorteners = other.shorteners;
        }
    }

    private static final class Frame {
        int kind;
        int from;
        int to;
        /** What air() tells as its third. */
        int about;
        int number;
        int news;
        long row;

        void begin(int what, int sender, int receiver, int subject, long nodes) {
            kind = what;
            from = sender;
            to = receiver;
            about = subject;
            number = NONE;
            news = NONE;
            row = nodes;
        }

        void copyFrom(Frame other) {
            begin(other.kind, other.from, other.to, other.about, other.row);
            number = other.number;
            news = other.news;
        }
    }

    /** THE AIR, as a ring. */
    private static final class Air {
        static final int MOST_FRAMES = 40;

        final Frame[] frames = new Frame[MOST_FRAMES];
        int start;
        int count;
        private Frame arriving = new Frame();

        Air() {
            for (int k = 0; k < MOST_FRAMES; k++) {
                frames[k] = new Frame();
            }
        }

        /** The k-th to arrive, or null. */
        Frame frameAt(int k) {
            return k >= 0 && k < count ? frames[(start + k) % MOST_FRAMES] : null;
        }

        /** A new FRAME behind all others, or null if no more may be there. */
        Frame add() {
            if (count >= MOST_FRAMES) {
                return null;
            }
            count++;
            return frames[(start + count - 1) % MOST_FRAMES];
        }

        /** The first one leaves. Its place may be taken while it is read: so it changes with a spare one. */
        Frame take() {
            Frame first = frames[start];
            frames[start] = arriving;
            arriving = first;
            start = (start + 1) % MOST_FRAMES;
            count--;
            return first;
        }

        boolean hasKind(int kind) {
            for (int k = 0; k < count; k++) {
                if (frames[(start + k) % MOST_FRAMES].kind == kind) {
                    return true;
                }
            }
            return false;
        }

        void copyFrom(Air other) {
            start = 0;
            count = other.count;
            for (int k = 0; k < count && k < MOST_FRAMES; k++) {
                frames[k].copyFrom(other.frames[(other.start + k) % MOST_FRAMES]);
            }
        }
    }

    /** A NET as it stands, and how it goes on. */
    private static final class World {
        final int[] settings = new int[SETTINGS];
        final int[] tallies = new int[TALLIES];
        final Air air = new Air();
        final Post[] posts = new Post[MOST_NODES];
        final Data[] data = new Data[MOST_DATA];
        int dataCount;
        int now;
        /** The LINKS that are UP. */
        long up;

        World() {
            for (int n = 0; n < MOST_NODES; n++) {
                posts[n] = new Post(n);
            }
            for (int k = 0; k < MOST_DATA; k++) {
                data[k] = new Data(k);
            }
        }

        /** All is new, as it was read. */
        void become(Reader told) {
            System.arraycopy(told.settings, 0, settings, 0, SETTINGS);
            for (int k = 0; k < TALLIES; k++) {
                tallies[k] = 0;
            }
            air.count = 0;
            dataCount = 0;
            now = 0;
            up = told.up;
            for (int n = 0; n < MOST_NODES; n++) {
                posts[n].begin((told.deaf >> n & 1) != 0);
                posts[n].cache.begin((told.maps >> n & 1) != 0, settings[HOPS], settings[ROOM]);
            }
        }

        void copyFrom(World other) {
            System.arraycopy(other.settings, 0, settings, 0, SETTINGS);
            System.arraycopy(other.tallies, 0, tallies, 0, TALLIES);
            air.copyFrom(other.air);
            for (int n = 0; n < MOST_NODES; n++) {
                posts[n].copyFrom(other.posts[n]);
            }
            dataCount = other.dataCount;
            for (int k = 0; k < dataCount && k < MOST_DATA; k++) {
                data[k].copyFrom(other.data[k]);
            }
            now = other.now;
            up = other.up;
        }

        boolean isNode(int n) {
            return n >= 0 && n < settings[NODES];
        }

        boolean areTwo(int a, int b) {
            return a != b && isNode(a) && isNode(b);
        }

        /** What belongs to a NODE (the mask keeps any number within the eight). */
        Post post(int n) {
            return posts[n & MOST_NODES - 1];
        }

        Data datum(int k) {
            return data[k >= 0 && k < MOST_DATA ? k : 0];
        }

        /** The WAY of a NODE to another one, or EMPTY, also where there are no two such. */
        long wayOf(int n, int to) {
            return areTwo(n, to) ? post(n).cache.wayTo(to) : Row.EMPTY;
        }

        int tellNode(int n, int what) {
            Post post = post(n);
            switch (what) {
                case 0: return post.cache.map ? 1 : 0;
                case 1: return post.listens ? 1 : 0;
                case 2: return post.cache.rows.count;
                case 3: return post.waiting;
                case 4: return post.requests;
                case 5: return post.news;
                case 6: return post.table.count;
                case 7: return post.asks;
                case 8: return reached(n);
                case 9: return Links.near(up, n);
                default: return REFUSED;
            }
        }

        private int reached(int n) {
            int set = 0;
            for (int to = 0; to < MOST_NODES; to++) {
                set |= wayOf(n, to) != Row.EMPTY ? 1 << to : 0;
            }
            return set;
        }

        int tellData(int k, int what) {
            if (k < 0 || k >= dataCount) {
                return REFUSED;
            }
            Data d = datum(k);
            switch (what) {
                case 0: return d.origin;
                case 1: return d.end;
                case 2: return d.state;
                case 3: return d.salvaged;
                case 4: return Row.length(d.trail);
                case 5: return Row.length(d.rest);
                case 6: return d.cameAt;
                case 7: return d.endedAt;
                case 8: return d.shorteners;
                default: return REFUSED;
            }
        }

        /** A tally, or how many FRAMES there are, or how many BUFFERED ones. */
        int tellCount(int what) {
            if (what >= 0 && what < TALLIES) {
                return tallies[what];
            }
            return what == TALLIES ? air.count : what == TALLIES + 1 ? buffered() : NONE;
        }

        private int buffered() {
            int sum = 0;
            for (int n = 0; n < MOST_NODES; n++) {
                sum += posts[n].waiting;
            }
            return sum;
        }

        boolean isQuiet() {
            return air.count == 0 && buffered() == 0;
        }

        /** A DATA comes: its number, or NONE. */
        int bring(int from, int to) {
            if (!areTwo(from, to) || dataCount >= MOST_DATA) {
                return NONE;
            }
            Data d = datum(dataCount);
            dataCount++;
            d.begin(from, to, now);
            serve(d);
            return d.number;
        }

        /**
         * A TICK, or one that has its FRAMES arrive alone. Each FRAME leaves THE AIR as it arrives:
         * those behind it are still there, and what it makes others send has to find room with them.
         */
        void tick(boolean alone) {
            now++;
            int arrivals = air.count;
            for (int k = 0; k < arrivals && k < Air.MOST_FRAMES; k++) {
                Frame frame = air.take();
                if (frame.kind == REQUEST) {
                    requestArrives(frame);
                } else if (!Links.hold(up, frame.from, frame.to)) {
                    meetDown(frame);
                } else if (frame.kind == DATA) {
                    dataArrives(frame);
                } else if (frame.kind == REPLY) {
                    replyArrives(frame);
                } else {
                    errorArrives(frame);
                }
            }
            for (int n = 0; n < MOST_NODES && !alone; n++) {
                drain(n);
                askOn(n);
            }
        }

        /** What is sent comes into THE AIR; null if it is JAMMED. */
        private Frame emit(int kind, int from, int to, int about, long row) {
            Frame frame = air.add();
            if (frame == null) {
                tallies[JAMMED]++;
                return null;
            }
            frame.begin(kind, from, to, about, row);
            if (kind >= 0 && kind < TALLIES) {
                tallies[kind]++;
            }
            return frame;
        }

        private void emitRequest(int from, int about, int number, int news, long row) {
            Frame frame = emit(REQUEST, from, NONE, about, row);
            if (frame != null) {
                frame.number = number;
                frame.news = news;
            }
        }

        /** A NODE of a row sends it as a REPLY to the one ahead of it. */
        private void emitReply(int from, long row) {
            int to = Row.at(row, Row.indexOf(row, from) - 1);
            emit(REPLY, from, to, Row.at(row, Row.length(row) - 1), row);
        }

        private void emitData(Data d, long row) {
            d.stand(IS_IN_THE_AIR, row);
            if (emit(DATA, Row.at(row, 0), Row.at(row, 1), d.number, row) == null) {
                finish(d, IS_LOST, LOST);
            }
        }

        private void finish(Data d, int how, int tally) {
            d.stand(how, Row.EMPTY);
            d.endedAt = now;
            if (tally >= 0 && tally < TALLIES) {
                tallies[tally]++;
            }
        }

        private void serve(Data d) {
            Post post = post(d.origin);
            long way = post.cache.wayTo(d.end);
            if (way != Row.EMPTY) {
                emitData(d, way);
            } else if (post.waiting >= settings[BUFFER] || post.waiting >= Post.MOST_WAITING) {
                finish(d, IS_LOST, LOST);
            } else {
                d.stand(IS_BUFFERED, Row.EMPTY);
                d.bufferedAt = now;
                post.buffer[post.waiting] = d.number;
                post.waiting++;
                if ((post.asks >> d.end & 1) == 0) {
                    ask(d.origin, d.end);
                }
            }
        }

        void ask(int n, int to) {
            Post post = post(n);
            post.requests++;
            post.asks |= 1 << to;
            post.askedAt[to & MOST_NODES - 1] = now;
            emitRequest(n, to, post.requests, post.news, Row.with(Row.EMPTY, n));
        }

        /** A FRAME can not come to its NODE: the LINK is DOWN. */
        private void meetDown(Frame frame) {
            int x = frame.from;
            int link = Links.told(x, frame.to);
            post(x).cache.forget(link);
            if (frame.kind != DATA) {
                return;
            }
            tallies[BREAKS]++;
            Data d = datum(frame.about);
            if (x == d.origin) {
                post(x).news = link;
                serve(d);
                return;
            }
            long back = Row.reversed(d.trail);
            emit(ERROR, x, Row.at(back, 1), link, back);
            long way = post(x).cache.wayTo(d.end);
            boolean isFresh = (Row.nodes(way) & Row.nodes(d.trail)) == 1 << x;
            if (d.salvaged < settings[SALVAGE] && way != Row.EMPTY && isFresh) {
                d.salvaged++;
                tallies[SALVAGED]++;
                emitData(d, way);
            } else {
                finish(d, IS_LOST, LOST);
            }
        }

        private void dataArrives(Frame frame) {
            Data d = datum(frame.about);
            int y = frame.to;
            d.trail = Row.with(d.trail, y);
            d.rest = Row.from(frame.row, 1);
            long back = Row.reversed(d.trail);
            post(y).cache.learn(d.rest);
            post(y).cache.learn(back);
            for (int z = 0; z < MOST_NODES; z++) {
                if (overhears(z, frame.from) && !Row.holds(d.trail, z)) {
                    post(z).cache.learn(Row.behind(z, Row.from(back, 1)));
                    shorten(d, z);
                }
            }
            if (y == d.end) {
                finish(d, IS_DELIVERED, DELIVERED);
            } else {
                emitData(d, d.rest);
            }
        }

        /** Whether a NODE is NEAR the one that sent and LISTENS. */
        private boolean overhears(int z, int sender) {
            return Links.hold(up, z, sender) && post(z).listens;
        }

        /** A NODE that heard the DATA early tells so, if it is still to come and it did not yet. */
        private void shorten(Data d, int z) {
            int i = Row.indexOf(d.rest, z);
            if (i == NONE || (d.shorteners >> z & 1) != 0) {
                return;
            }
            d.shorteners |= 1 << z;
            tallies[SHORTENED]++;
            long upToSender = Row.first(d.trail, Row.length(d.trail) - 1);
            emitReply(z, Row.joined(upToSender, Row.from(d.rest, i)));
        }

        private void requestArrives(Frame frame) {
            for (int z = 0; z < MOST_NODES; z++) {
                if (Links.hold(up, z, frame.from)) {
                    post(z).cache.forget(frame.news);
                    if (isNew(z, frame)) {
                        answer(z, frame);
                    } else {
                        tallies[DUPLICATES]++;
                    }
                }
            }
        }

        /** Whether a REQUEST is none that a NODE had before; it is in its TABLE then. */
        private boolean isNew(int z, Frame frame) {
            long entry = 100000L * Row.at(frame.row, 0) + frame.number;
            Recent table = post(z).table;
            if (Row.holds(frame.row, z) || table.holds(entry)) {
                return false;
            }
            table.touch(entry, settings[TABLE]);
            return true;
        }

        /** A NODE learns from a REQUEST and answers it, or sends it on. */
        private void answer(int z, Frame frame) {
            Cache cache = post(z).cache;
            cache.learn(Row.behind(z, Row.reversed(frame.row)));
            long soFar = Row.with(frame.row, z);
            if (z == frame.about) {
                emitReply(z, soFar);
                return;
            }
            long way = cache.wayTo(frame.about);
            long whole = way == Row.EMPTY ? Row.EMPTY : Row.joined(frame.row, way);
            if (whole != Row.EMPTY && Row.length(whole) - 1 <= settings[HOPS]) {
                emitReply(z, whole);
            } else if (Row.length(soFar) - 1 < settings[HOPS]) {
                emitRequest(z, frame.about, frame.number, frame.news, soFar);
            }
        }

        private void replyArrives(Frame frame) {
            int y = frame.to;
            int i = Row.indexOf(frame.row, y);
            post(y).cache.learn(Row.from(frame.row, i));
            if (i > 0) {
                emitReply(y, frame.row);
            }
            long told = Row.from(frame.row, i + 1);
            for (int z = 0; z < MOST_NODES; z++) {
                if (z != y && overhears(z, frame.from) && !Row.holds(told, z)) {
                    post(z).cache.learn(Row.behind(z, told));
                }
            }
        }

        private void errorArrives(Frame frame) {
            int y = frame.to;
            int next = Row.at(frame.row, 2);
            post(y).cache.forget(frame.about);
            if (next == NONE) {
                post(y).news = frame.about;
            } else {
                emit(ERROR, y, next, frame.about, Row.from(frame.row, 1));
            }
            for (int z = 0; z < MOST_NODES; z++) {
                if (z != y && overhears(z, frame.from)) {
                    post(z).cache.forget(frame.about);
                }
            }
        }

        /** The DATA in a BUFFER that have a WAY now leave it, and those that are there too long. */
        private void drain(int n) {
            Post post = post(n);
            int held = post.waiting;
            post.waiting = 0;
            for (int k = 0; k < held && k < Post.MOST_WAITING; k++) {
                Data d = datum(post.buffer[k]);
                long way = post.cache.wayTo(d.end);
                if (way != Row.EMPTY) {
                    emitData(d, way);
                } else if (now - d.bufferedAt >= settings[WAIT]) {
                    finish(d, IS_LOST, LOST);
                } else {
                    post.buffer[post.waiting] = d.number;
                    post.waiting++;
                }
            }
        }

        /** A NODE ASKS once more for those that its BUFFER still needs, and no more for others. */
        private void askOn(int n) {
            Post post = post(n);
            for (int to = 0; to < MOST_NODES; to++) {
                if ((post.asks >> to & 1) != 0) {
                    if (!isNeeded(post, to)) {
                        post.asks &= ~(1 << to);
                    } else if (now - post.askedAt[to] >= settings[AGAIN]) {
                        ask(n, to);
                    }
                }
            }
        }

        private boolean isNeeded(Post post, int to) {
            for (int k = 0; k < post.waiting && k < Post.MOST_WAITING; k++) {
                if (datum(post.buffer[k]).end == to) {
                    return true;
                }
            }
            return false;
        }
    }
}
