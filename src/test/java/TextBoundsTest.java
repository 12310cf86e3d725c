/** Terms 1, with promises 2 to 4: the bounds of NODES, SETTINGS, THE TEXT, its TOKENS and its FAULTS. */
public final class TextBoundsTest {
    private static final int NONE = SourceRoutes.NONE;
    private static final Check CHECK = new Check();

    private static boolean isLetter(int sign) {
        return sign >= 97 && sign <= 122;
    }

    private static boolean isDigit(int sign) {
        return sign >= 48 && sign <= 57;
    }

    private static boolean isBlank(int sign) {
        return sign == 32 || sign == 10;
    }

    private static void nodesAreTwoToEight() {
        CHECK.of("Terms 1, 'NODES, 2 to 8 (2 at first)'");
        CHECK.due("has(0) of a new one", new SourceRoutes().has(0), 2);
        CHECK.dueGood("hops 7;", 2);
        CHECK.dueFault("nodes 0;", 2, 6);
        CHECK.dueFault("nodes 1;", 2, 6);
        for (int n = 2; n <= 8; n++) {
            CHECK.dueGood("nodes " + n + ";", n);
            CHECK.due("has(0)", Check.net("nodes " + n + ";").has(0), n);
        }
        CHECK.dueFault("nodes 9;", 2, 6);
        CHECK.dueFault("nodes 10;", 2, 6);
        CHECK.dueFault("nodes 99;", 2, 6);
    }

    private static void nodesAreFromZeroOn() {
        CHECK.of("Terms 1, 'from 0 on'");
        for (int n = 2; n <= 8; n++) {
            SourceRoutes x = Check.net("nodes " + n + ";");
            CHECK.due("one below the first of " + n, x.node(-1, 1), -2);
            CHECK.due("the first of " + n, x.node(0, 1), 1);
            CHECK.due("the last of " + n, x.node(n - 1, 1), 1);
            CHECK.due("one beyond the last of " + n, x.node(n, 1), -2);
        }
    }

    private static void linksAreDownAtFirst() {
        CHECK.of("Terms 1, 'UP or DOWN (DOWN at first)'");
        SourceRoutes x = Check.net("nodes 8;");
        for (int a = 0; a < 8; a++) {
            for (int b = 0; b < a; b++) {
                CHECK.due("DOWN already " + a + " " + b, x.turn(a, b, true), false);
            }
            CHECK.due("UP of " + a, x.node(a, 9), 0);
        }
    }

    /** A setting that is not told, at both of its bounds, and the first one beyond each. */
    private static void dueSetting(String word, int what, int least, int most, int first) {
        CHECK.of("Terms 1, '" + word + ", " + least + " to " + most + "', at first " + first);
        CHECK.due("at first", new SourceRoutes().has(what), first);
        CHECK.due("not told", Check.net("nodes 3;").has(what), first);
        for (int n = least; n <= most; n++) {
            CHECK.due("told as " + n, Check.net(word + " " + n + ";").has(what), n);
        }
        int place = word.length() + 1;
        if (least > 0) {
            CHECK.dueFault(word + " " + (least - 1) + ";", 2, place);
        }
        CHECK.dueFault(word + " " + (most + 1) + ";", 2, place);
        CHECK.dueFault(word + " 99;", 2, place);
    }

    private static void settings() {
        dueSetting("hops", 1, 1, 7, 7);
        dueSetting("room", 2, 1, 6, 4);
        dueSetting("table", 3, 1, 6, 4);
        dueSetting("buffer", 4, 1, 4, 3);
        dueSetting("wait", 5, 1, 20, 9);
        dueSetting("again", 6, 1, 9, 3);
        dueSetting("salvage", 7, 0, 3, 1);
    }

    private static void cachesAndEarsAtFirst() {
        CHECK.of("Terms 1, 'A NODE's CACHE is of PATHS (at first) or a MAP. It LISTENS (at first) or is DEAF'");
        SourceRoutes x = Check.net("nodes 8;map 0;map 7;deaf 0;deaf 7;");
        for (int n = 0; n < 8; n++) {
            boolean told = n == 0 || n == 7;
            CHECK.due("a MAP at " + n, x.node(n, 0), told ? 1 : 0);
            CHECK.due(n + " LISTENS", x.node(n, 1), told ? 0 : 1);
        }
        CHECK.due("PATHS at first", new SourceRoutes().node(1, 0), 0);
        CHECK.due("LISTENS at first", new SourceRoutes().node(1, 1), 1);
    }

    /** An object whose THE TEXT has so many blanks. */
    private static SourceRoutes filled(int bytes) {
        SourceRoutes x = new SourceRoutes();
        Check.tell(x, " ".repeat(bytes));
        return x;
    }

    private static void textHasFourHundredBytes() {
        CHECK.of("Promise 2, 'NONE, and nothing comes, if it would have more than 400'");
        for (int come = 1; come <= 8; come++) {
            long eight = Check.eights("x".repeat(come))[0];
            SourceRoutes x = filled(400 - come);
            CHECK.due(come + " up to 400", x.say(eight), 400);
            CHECK.due(come + " are there", x.has(11), 400);
            SourceRoutes y = filled(401 - come);
            CHECK.due(come + " up to 401", y.say(eight), NONE);
            CHECK.due("nothing came of " + come, y.has(11), 401 - come);
            CHECK.due("one byte less", y.say(eight << 8), 400);
        }
        SourceRoutes full = filled(400);
        CHECK.due("nothing comes behind 400", full.say(0), 400);
        CHECK.due("a 0 ahead of others behind 400", full.say(0x0020202020202020L), 400);
        CHECK.due("a byte behind 400", full.say(0x2000000000000000L), NONE);
        CHECK.due("a refused byte is none of THE TEXT", full.net(), 2);
    }

    private static void bytesUpToTheFirstZero() {
        CHECK.of("Promise 2, 'the highest first, up to the first one that is 0'");
        for (int zero = 0; zero < 8; zero++) {
            SourceRoutes x = new SourceRoutes();
            long eight = 0x2020202020202020L & ~(255L << 56 - 8 * zero);
            CHECK.due("0 as byte " + zero, x.say(eight), zero);
        }
        CHECK.due("no 0", new SourceRoutes().say(0x2020202020202020L), 8);
        CHECK.due("bytes of 255", new SourceRoutes().say(-1L), 8);
        CHECK.due("bytes of 1 and 128", new SourceRoutes().say(0x0180018001800180L), 8);
        CHECK.due("the least long", new SourceRoutes().say(Long.MIN_VALUE), 1);
        SourceRoutes full = filled(399);
        CHECK.due("what stands behind a 0 does not count", full.say(0x2000202020202020L), 400);
        CHECK.dueGood("nodes 5;", 5);
    }

    private static void textIsReadToItsLastByte() {
        CHECK.of("Terms 1, 'THE TEXT has at most 400 bytes'");
        CHECK.dueGood("nodes 4;".repeat(50), 4);
        CHECK.dueGood("nodes 4;".repeat(49) + "nodes 8;", 8);
        CHECK.dueGood(" ".repeat(400), 2);
        CHECK.dueFault("nodes 4;".repeat(49) + "nodes 44", 1, 400);
        CHECK.dueFault("nodes 4;".repeat(49) + "nodes  4", 1, 400);
        CHECK.dueFault("nodes 4;".repeat(49) + "   nodes", 1, 400);
        CHECK.dueFault("nodes 4;".repeat(49) + "nodes 4x", 1, 399);
        CHECK.dueFault("nodes 4;".repeat(49) + "nodes 4" + (char) 255, 1, 399);
        CHECK.dueFault("x".repeat(400), 1, 0);
        CHECK.dueFault("nodes 4;" + " ".repeat(384) + "nodes 9;", 2, 398);
        CHECK.dueFault("nodes 4;" + " ".repeat(386) + "map 4;", 3, 398);
    }

    /** Every byte, behind a word and ahead of a NUMBER. */
    private static void signsBehindAWord() {
        CHECK.of("Terms 1, 'TOKENS, each as long as it goes': 'words, letters a to z', 'blanks (32, 10)'");
        for (int sign = 1; sign < 256; sign++) {
            String text = "nodes" + (char) sign + "3;";
            if (isBlank(sign) || sign == '0') {
                CHECK.dueGood(text, 3);
            } else if (isDigit(sign)) {
                CHECK.dueFault(text, 2, 5);
            } else {
                CHECK.dueFault(text, 1, isLetter(sign) ? 0 : 5);
            }
        }
    }

    /** Every byte, behind a NUMBER, and at the beginning. */
    private static void signsBehindANumber() {
        CHECK.of("Terms 1, 'NUMBERS, 1 or 2 digits', 'the sign ;', 'or a byte that begins none'");
        for (int sign = 1; sign < 256; sign++) {
            String text = "nodes 3" + (char) sign + ";";
            if (isBlank(sign)) {
                CHECK.dueGood(text, 3);
            } else if (isDigit(sign)) {
                CHECK.dueFault(text, 2, 6);
            } else {
                CHECK.dueFault(text, 1, sign == ';' ? 8 : 7);
            }
            String first = (char) sign + "nodes 3;";
            if (isBlank(sign)) {
                CHECK.dueGood(first, 3);
            } else {
                CHECK.dueFault(first, 1, 0);
            }
        }
    }

    private static void numbersHaveOneOrTwoDigits() {
        CHECK.of("Terms 1, 'NUMBERS, 1 or 2 digits (more are none)'");
        CHECK.dueGood("nodes 3;", 3);
        CHECK.dueGood("nodes 03;", 3);
        CHECK.dueFault("nodes 003;", 1, 6);
        CHECK.dueFault("nodes 0003;", 1, 6);
        CHECK.dueFault("nodes 99;", 2, 6);
        CHECK.dueFault("nodes 100;", 1, 6);
        CHECK.dueFault("nodes 4294967299;", 1, 6);
        CHECK.dueGood("link 00 01;", 2);
        CHECK.dueFault("link 000 1;", 1, 5);
        CHECK.dueFault("link 0 001;", 1, 7);
        CHECK.dueGood("map 01;deaf 00;", 2);
        CHECK.dueFault("map 001;", 1, 4);
        CHECK.dueFault("deaf 000;", 1, 5);
        CHECK.dueGood("wait 20;", 2);
        CHECK.dueFault("wait 020;", 1, 5);
    }

    private static void tokensGoAsFarAsTheyCan() {
        CHECK.of("Terms 1, 'each as long as it goes, with blanks (32, 10) between where one likes'");
        CHECK.dueGood("nodes3;link0 1;map1;deaf2;", 3);
        CHECK.dueGood("\n nodes \n 3 \n ; \n link \n 0 \n 1 \n ; \n ", 3);
        CHECK.dueFault("nodesnodes 3;", 1, 0);
        CHECK.dueFault("no des 3;", 1, 0);
        CHECK.dueFault("link01;", 1, 6);
        CHECK.dueFault("link 0 1 1;", 1, 9);
        CHECK.dueFault("nodes 0 3;", 1, 8);
        CHECK.dueFault("link 0 12;", 2, 7);
        CHECK.dueFault("nodes 3;;", 1, 8);
        CHECK.dueFault(";", 1, 0);
    }

    private static void netHasAnyNumber() {
        CHECK.of("Terms 1, 'A NET: any number of'");
        CHECK.dueGood("", 2);
        CHECK.dueGood("\n", 2);
        CHECK.dueGood("nodes 3;", 3);
        CHECK.dueGood("map0;".repeat(80), 2);
        String all = "deaf 7;map 6;salvage 3;again 9;wait 20;buffer 4;table 6;room 6;hops 7;link 7 0;nodes 8;";
        CHECK.dueGood(all, 8);
        String[] words = {"nodes", "link", "hops", "room", "table", "buffer", "wait", "again", "salvage", "map", "deaf"};
        for (String word : words) {
            String two = word.equals("link") ? " 0 1" : " 1";
            String good = word + (word.equals("nodes") ? " 2" : two) + ";";
            CHECK.dueGood(good, 2);
            CHECK.dueFault(word.substring(1) + two + ";", 1, 0);
            CHECK.dueFault(word.substring(0, word.length() - 1) + two + ";", 1, 0);
            CHECK.dueFault(word + "s" + two + ";", 1, 0);
            CHECK.dueFault(word + ";", 1, word.length());
            for (int i = 0; i < word.length(); i++) {
                CHECK.dueFault(word.substring(0, i) + "z" + word.substring(i + 1) + two + ";", 1, 0);
            }
        }
    }

    private static void theLaterOneStrikes() {
        CHECK.of("Terms 1, 'Of one word the later one strikes'");
        SourceRoutes x = Check.net("nodes 8;hops 7;room 6;table 6;buffer 4;wait 20;again 9;salvage 3;"
            + "nodes 5;hops 3;room 1;table 1;buffer 1;wait 1;again 1;salvage 0;hops 2;");
        int[] want = {5, 2, 1, 1, 1, 1, 1, 0};
        for (int what = 0; what < want.length; what++) {
            CHECK.due("has(" + what + ")", x.has(what), want[what]);
        }
    }

    private static void othersAreFurtherOnes() {
        CHECK.of("Terms 1, 'link, map, deaf are each a further one (the same one again does nothing)'");
        SourceRoutes x = Check.net("nodes 4;link 0 1;link 1 0;link 0 1;link 3 2;link 0 3;map 1;map 1;map 3;deaf 0;deaf 2;deaf 0;");
        int[] up = {10, 1, 8, 5};
        for (int n = 0; n < 4; n++) {
            CHECK.due("UP of " + n, x.node(n, 9), up[n]);
            CHECK.due("a MAP at " + n, x.node(n, 0), n % 2);
            CHECK.due(n + " LISTENS", x.node(n, 1), n % 2);
        }
    }

    /** A text, cut ahead of each of its bytes. */
    private static void theEndIfMoreMustCome() {
        CHECK.of("Terms 1, FAULT 1, 'or the end, if more must come', 'the end's: how many bytes there are'");
        String text = "nodes 8;link 6 7;map 7;deaf 7;";
        for (int length = 0; length <= text.length(); length++) {
            String cut = text.substring(0, length);
            int begin = cut.lastIndexOf(';') + 1;
            String clause = cut.substring(begin);
            if (clause.isEmpty()) {
                CHECK.dueGood(cut, length == 0 ? 2 : 8);
            } else {
                boolean isWhole = clause.matches("(nodes|link|map|deaf).*");
                CHECK.dueFault(cut, 1, isWhole ? length : begin);
                CHECK.dueFault(cut + " \n", 1, isWhole ? length + 2 : begin);
            }
        }
    }

    private static void theFirstOfFaultOne() {
        CHECK.of("Terms 1, FAULT 1, 'the first token that can not stand there'");
        CHECK.dueFault("nodes 3;x;y;", 1, 8);
        CHECK.dueFault("nodes ! x", 1, 6);
        CHECK.dueFault("nodes 3 x !", 1, 8);
        CHECK.dueFault("link 0 ; 1", 1, 7);
        CHECK.dueFault("link ; 0 1", 1, 5);
        CHECK.dueFault("hops nodes 3;", 1, 5);
        CHECK.dueFault("5 nodes;", 1, 0);
    }

    private static void oneAheadOfTwoAheadOfThree() {
        CHECK.of("Terms 1, FAULTS, 'If there is none: 2', 'If there is none: 3'");
        CHECK.dueFault("map 5;hops 0;?", 1, 13);
        CHECK.dueFault("hops 0;map 5;nodes", 1, 18);
        CHECK.dueFault("map 5;hops 0;", 2, 11);
        CHECK.dueFault("hops 0;map 5;", 2, 5);
        CHECK.dueFault("map 5;", 3, 4);
        CHECK.dueFault("map 5;link 1 1;", 2, 13);
        CHECK.dueFault("link 5 5;", 2, 7);
        CHECK.dueGood("map 5;nodes 6;", 6);
    }

    private static void theFirstThatCanNotBe() {
        CHECK.of("Terms 1, FAULT 2, 'the first NUMBER that can not be'");
        CHECK.dueFault("hops 8;nodes 1;", 2, 5);
        CHECK.dueFault("nodes 1;hops 8;", 2, 6);
        CHECK.dueFault("hops 8;hops 7;", 2, 5);
        CHECK.dueFault("hops 7;hops 8;", 2, 12);
        CHECK.dueFault("nodes 9;nodes 8;", 2, 6);
        CHECK.dueFault("link 8 9;", 2, 5);
        CHECK.dueFault("link 1 1;link 0 0;", 2, 7);
        CHECK.dueFault("deaf 8;map 8;", 2, 5);
    }

    private static void nodesInTheTextAreZeroToSeven() {
        CHECK.of("Terms 1, FAULT 2, 'of a NODE 0 to 7'");
        CHECK.dueGood("nodes 8;map 0;map 7;deaf 0;deaf 7;link 0 7;link 7 0;", 8);
        CHECK.dueFault("nodes 8;map 8;", 2, 12);
        CHECK.dueFault("nodes 8;deaf 8;", 2, 13);
        CHECK.dueFault("nodes 8;link 8 0;", 2, 13);
        CHECK.dueFault("nodes 8;link 0 8;", 2, 15);
        CHECK.dueFault("map 10;", 2, 4);
        CHECK.dueFault("deaf 71;", 2, 5);
        CHECK.dueFault("link 70 1;", 2, 5);
        CHECK.dueFault("link 1 64;", 2, 7);
    }

    private static void theSecondOfALink() {
        CHECK.of("Terms 1, FAULT 2, 'of link the second one, if it is the first one'");
        for (int n = 0; n < 8; n++) {
            CHECK.dueFault("nodes 8;link " + n + " " + n + ";", 2, 15);
            CHECK.dueFault("nodes 8;link 0" + n + " " + n + ";", 2, 16);
            CHECK.dueFault("link " + n + " 0" + n + ";", 2, 7);
        }
        CHECK.dueGood("nodes 8;link 6 7;link 1 0;", 8);
    }

    private static void nodesThatAreNotThere() {
        CHECK.of("Terms 1, FAULT 3, 'the first NUMBER of a NODE that is not there'");
        for (int n = 2; n <= 7; n++) {
            String nodes = n == 2 ? "" : "nodes " + n + ";";
            int at = nodes.length();
            int last = n - 1;
            CHECK.dueGood(nodes + "map " + last + ";deaf " + last + ";link " + last + " 0;link 0 " + last + ";", n);
            CHECK.dueFault(nodes + "map " + n + ";", 3, at + 4);
            CHECK.dueFault(nodes + "deaf " + n + ";", 3, at + 5);
            CHECK.dueFault(nodes + "link " + n + " 0;", 3, at + 5);
            CHECK.dueFault(nodes + "link 0 " + n + ";", 3, at + 7);
        }
        CHECK.dueFault("nodes 5;link 7 6;", 3, 13);
        CHECK.dueFault("nodes 5;link 6 7;", 3, 13);
        CHECK.dueFault("nodes 5;map 7;map 5;", 3, 12);
        CHECK.dueFault("nodes 5;map 5;map 7;", 3, 12);
        CHECK.dueFault("nodes 5;deaf 4;deaf 6;map 6;", 3, 20);
    }

    private static void nodesThereAtTheEnd() {
        CHECK.of("Terms 1, FAULT 3, '(by the NODES that there are at the end)'");
        CHECK.dueGood("map 7;nodes 8;", 8);
        CHECK.dueFault("map 7;nodes 7;", 3, 4);
        CHECK.dueFault("nodes 8;map 7;nodes 7;", 3, 12);
        CHECK.dueGood("nodes 8;map 6;nodes 7;", 7);
        CHECK.dueGood("nodes 2;map 6;nodes 7;", 7);
        CHECK.dueFault("nodes 8;link 2 3;nodes 2;", 3, 13);
        CHECK.dueFault("nodes 8;link 2 3;nodes 3;", 3, 15);
        CHECK.dueGood("nodes 8;link 2 3;nodes 4;", 4);
    }

    private static void theFaultOfTheLatestNet() {
        CHECK.of("Promise 4, 'its FAULT (0 without, and at first), or (place) its place (NONE without)'");
        SourceRoutes x = new SourceRoutes();
        CHECK.due("at first", x.fault(false), 0);
        CHECK.due("place at first", x.fault(true), NONE);
        Check.tell(x, "?");
        CHECK.due("saying is no net", x.fault(false), 0);
        x.net();
        CHECK.due("1", x.fault(false), 1);
        CHECK.due("place 0", x.fault(true), 0);
        Check.tell(x, "map 2;");
        x.net();
        CHECK.due("3", x.fault(false), 3);
        CHECK.due("place 4", x.fault(true), 4);
        x.net();
        CHECK.due("without", x.fault(false), 0);
        CHECK.due("place without", x.fault(true), NONE);
    }

    public static void main(String[] args) {
        nodesAreTwoToEight();
        nodesAreFromZeroOn();
        linksAreDownAtFirst();
        settings();
        cachesAndEarsAtFirst();
        textHasFourHundredBytes();
        bytesUpToTheFirstZero();
        textIsReadToItsLastByte();
        signsBehindAWord();
        signsBehindANumber();
        numbersHaveOneOrTwoDigits();
        tokensGoAsFarAsTheyCan();
        netHasAnyNumber();
        theLaterOneStrikes();
        othersAreFurtherOnes();
        theEndIfMoreMustCome();
        theFirstOfFaultOne();
        oneAheadOfTwoAheadOfThree();
        theFirstThatCanNotBe();
        nodesInTheTextAreZeroToSeven();
        theSecondOfALink();
        nodesThatAreNotThere();
        nodesThereAtTheEnd();
        theFaultOfTheLatestNet();
        CHECK.end("TextBoundsTest");
    }
}
