/** Promises 1 to 4: a new object, say, net, fault. */
public final class TextTest {
    private static final int NONE = SourceRoutes.NONE;
    private static final Check CHECK = new Check();

    private static void newObject() {
        SourceRoutes x = new SourceRoutes();
        int[] first = {2, 7, 4, 4, 3, 9, 3, 1, 0, 0, 0, 0};
        for (int what = 0; what < first.length; what++) {
            CHECK.due("has(" + what + ") of a new one", x.has(what), first[what]);
        }
        int[] node = {0, 1, 0, 0, 0, NONE, 0, 0, 0, 0, -2};
        for (int what = 0; what < node.length; what++) {
            CHECK.due("node(1, " + what + ") of a new one", x.node(1, what), node[what]);
        }
        for (int what = 0; what <= 10; what++) {
            CHECK.due("tally(" + what + ") of a new one", x.tally(what), 0);
        }
        CHECK.due("node(2, 0) of a new one", x.node(2, 0), -2);
        CHECK.due("fault of a new one", x.fault(false), 0);
        CHECK.due("place of a new one", x.fault(true), NONE);
        CHECK.due("again(0) of a new one", x.again(0), false);
        CHECK.due("quiet() of a new one", x.quiet(), 0);
        CHECK.due("NONE", SourceRoutes.NONE, -1);
    }

    private static void saying() {
        SourceRoutes x = new SourceRoutes();
        CHECK.due("say of nothing", x.say(0), 0);
        CHECK.due("a 0 ahead of all", x.say(0x0061626364656667L), 0);
        CHECK.due("up to the first 0", x.say(0x6100626364656667L), 1);
        CHECK.due("bytes above 127", x.say(-1L), 9);
        for (int k = 2; k <= 49; k++) {
            x.say(0x2020202020202020L);
        }
        CHECK.due("THE TEXT", x.has(11), 393);
        CHECK.due("more than 400", x.say(0x2020202020202020L), NONE);
        CHECK.due("nothing came", x.has(11), 393);
        CHECK.due("just 400", x.say(0x2020202020202000L), 400);
        CHECK.due("nothing more, but it fits", x.say(0), 400);
        CHECK.due("one byte more", x.say(0x2000000000000000L), NONE);
        CHECK.due("net of it", x.net(), NONE);
        CHECK.due("place of it", x.fault(true), 0);
    }

    private static void goodNets() {
        CHECK.dueGood("", 2);
        CHECK.dueGood(" \n ", 2);
        CHECK.dueGood("nodes 5;nodes 3;", 3);
        CHECK.dueGood("nodes5;link0 4;", 5);
        CHECK.dueGood("nodes\n8\n;\nlink 00 07 ;", 8);
        CHECK.dueGood("link 0 1;link 1 0;link 0 1;map 1;map 1;deaf 0;", 2);
        CHECK.dueGood("map 7;deaf 6;link 6 7;nodes 8;", 8);
        CHECK.dueGood("hops 1;room 1;table 1;buffer 1;wait 1;again 1;salvage 0;nodes 2;", 2);
        CHECK.dueGood("hops 7;room 6;table 6;buffer 4;wait 20;again 9;salvage 3;nodes 8;", 8);
        String long400 = "nodes 4;".repeat(50);
        CHECK.dueGood(long400, 4);
        SourceRoutes x = Check.net("nodes 6;hops 3;room 5;table 2;buffer 1;wait 12;again 8;salvage 2;hops 4;map 3;deaf 2;link 5 1;");
        int[] told = {6, 4, 5, 2, 1, 12, 8, 2};
        for (int what = 0; what < told.length; what++) {
            CHECK.due("has(" + what + ") as told", x.has(what), told[what]);
        }
        CHECK.due("map 3", x.node(3, 0), 1);
        CHECK.due("no map 2", x.node(2, 0), 0);
        CHECK.due("deaf 2", x.node(2, 1), 0);
        CHECK.due("3 listens", x.node(3, 1), 1);
        CHECK.due("link of 5", x.node(5, 9), 2);
        CHECK.due("link of 1", x.node(1, 9), 32);
    }

    private static void firstFaults() {
        CHECK.dueFault("node 3;", 1, 0);
        CHECK.dueFault(" nodesx 3;", 1, 1);
        CHECK.dueFault("nodes 3;hop 2;", 1, 8);
        CHECK.dueFault("xodes 3;", 1, 0);
        CHECK.dueFault("nodesz 3;", 1, 0);
        CHECK.dueFault("nodes{3;", 1, 5);
        CHECK.dueFault("nodes`3;", 1, 5);
        CHECK.dueFault("nodes 3:", 1, 7);
        CHECK.dueFault("nodes 3/", 1, 7);
        CHECK.dueFault("salvages 3;", 1, 0);
        CHECK.dueFault("nodes", 1, 5);
        CHECK.dueFault("nodes 3", 1, 7);
        CHECK.dueFault("nodes 3 ", 1, 8);
        CHECK.dueFault("nodes ;", 1, 6);
        CHECK.dueFault("nodes three;", 1, 6);
        CHECK.dueFault("nodes 3 4;", 1, 8);
        CHECK.dueFault("nodes 003;", 1, 6);
        CHECK.dueFault("nodes 3;;", 1, 8);
        CHECK.dueFault("3;", 1, 0);
        CHECK.dueFault("link 01;", 1, 7);
        CHECK.dueFault("link 0 1 2;", 1, 9);
        CHECK.dueFault("link 0 111;", 1, 7);
        CHECK.dueFault("nodes\t3;", 1, 5);
        CHECK.dueFault("Nodes 3;", 1, 0);
        CHECK.dueFault("nodes -3;", 1, 6);
        CHECK.dueFault("nodes 3;" + (char) 0xe9, 1, 8);
        CHECK.dueFault("nodes 99; hops", 1, 14);
        CHECK.dueFault("deaf 7; hops 1; x", 1, 16);
    }

    private static void laterFaults() {
        CHECK.dueFault("nodes 1;", 2, 6);
        CHECK.dueFault("nodes 9;", 2, 6);
        CHECK.dueFault("hops 0;", 2, 5);
        CHECK.dueFault("hops 8;", 2, 5);
        CHECK.dueFault("room 0;", 2, 5);
        CHECK.dueFault("room 7;", 2, 5);
        CHECK.dueFault("table 0;", 2, 6);
        CHECK.dueFault("table 7;", 2, 6);
        CHECK.dueFault("buffer 0;", 2, 7);
        CHECK.dueFault("buffer 5;", 2, 7);
        CHECK.dueFault("wait 0;", 2, 5);
        CHECK.dueFault("wait 21;", 2, 5);
        CHECK.dueFault("again 0;", 2, 6);
        CHECK.dueFault("again 10;", 2, 6);
        CHECK.dueFault("salvage 4;", 2, 8);
        CHECK.dueFault("map 8;", 2, 4);
        CHECK.dueFault("deaf 99;", 2, 5);
        CHECK.dueFault("link 8 0;", 2, 5);
        CHECK.dueFault("link 0 8;", 2, 7);
        CHECK.dueFault("link 1 1;", 2, 7);
        CHECK.dueFault("link 1 01;", 2, 7);
        CHECK.dueFault("link 9 9;", 2, 5);
        CHECK.dueFault("map 7;nodes 9;nodes 8;hops 0;", 2, 12);
        CHECK.dueFault("map 2;", 3, 4);
        CHECK.dueFault("link 0 2;", 3, 7);
        CHECK.dueFault("link 3 2;", 3, 5);
        CHECK.dueFault("nodes 8;link 6 5;nodes 5;", 3, 13);
        CHECK.dueFault("nodes 8;link 5 6;nodes 6;", 3, 15);
        CHECK.dueFault("deaf 1;deaf 0;map 7;map 5;", 3, 18);
    }

    /** A FAULT leaves all else as it is. */
    private static void faultKeeps() {
        SourceRoutes x = Check.net("nodes 3;link 0 1;hops 5;");
        x.send(0, 1);
        x.ticks(3);
        x.send(0, 1);
        Check.tell(x, "nodes 4;link 0 4;");
        CHECK.due("net with a FAULT", x.net(), NONE);
        CHECK.due("its FAULT", x.fault(false), 3);
        CHECK.due("its place", x.fault(true), 15);
        CHECK.due("NODES stay", x.has(0), 3);
        CHECK.due("HOPS stay", x.has(1), 5);
        CHECK.due("NOW stays", x.has(8), 3);
        CHECK.due("DATA stay", x.has(9), 2);
        CHECK.due("tallies stay", x.tally(0), 2);
        CHECK.due("FRAMES stay", x.has(10), 1);
        CHECK.due("THE TEXT is empty", x.has(11), 0);
        Check.tell(x, "nodes 4;");
        CHECK.due("net without", x.net(), 4);
        CHECK.due("no FAULT any more", x.fault(false), 0);
        CHECK.due("no place any more", x.fault(true), NONE);
        int[] want = {4, 7, 4, 4, 3, 9, 3, 1, 0, 0, 0, 0};
        for (int what = 0; what < want.length; what++) {
            CHECK.due("has(" + what + ") anew", x.has(what), want[what]);
        }
        for (int what = 0; what <= 10; what++) {
            CHECK.due("tally(" + what + ") anew", x.tally(what), 0);
        }
        for (int n = 0; n < 4; n++) {
            for (int what = 2; what <= 9; what++) {
                CHECK.due("node(" + n + ", " + what + ") anew", x.node(n, what), what == 5 ? NONE : 0);
            }
        }
    }

    public static void main(String[] args) {
        newObject();
        saying();
        goodNets();
        firstFaults();
        laterFaults();
        faultKeeps();
        CHECK.end("TextTest");
    }
}
