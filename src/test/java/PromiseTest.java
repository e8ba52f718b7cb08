/** For each promise of the document: ordinary inputs, the edges that it names, wrong inputs. */
public final class PromiseTest {
    private static final int BIG = Integer.MAX_VALUE;
    private static final int SMALL = Integer.MIN_VALUE;
    private static int wrong;
    private static int promise;

    private static void due(String call, long got, long want) {
        if (got != want) {
            wrong++;
            System.out.println("promise " + promise + ": " + call + " answered " + got + ", due is " + want);
        }
    }

    private static void due(String call, boolean got, boolean want) {
        due(call, got ? 1 : 0, want ? 1 : 0);
    }

    /** Fills a place with a row of ints, so that every value stands as it is. */
    private static void lay(HopBeams x, int place, long... numbers) {
        due("row", x.row(place, 3, numbers.length), 0);
        for (int i = 0; i < numbers.length; i++) {
            due("write", x.write(place, i, numbers[i]), 0);
        }
    }

    private static HopBeams withCells(int n) {
        HopBeams x = new HopBeams();
        for (int c = 0; c < n; c++) {
            due("cell", x.cell(10, 10, 1, 0), c);
        }
        return x;
    }

    private static HopBeams withForbidden(int n, int... pairs) {
        HopBeams x = withCells(n);
        for (int i = 0; i < pairs.length; i += 2) {
            due("forbid", x.forbid(pairs[i], pairs[i + 1], true), true);
        }
        return x;
    }

    private static void newObject() {
        HopBeams x = new HopBeams();
        long[] counts = {0, 2, 100, 8, 2, 0, 0, 0, 0, 0};
        for (int what = 0; what < counts.length; what++) {
            due("count(" + what + ")", x.count(what), counts[what]);
        }
        for (int g = 0; g < 3; g++) {
            due("room", x.gatewayOf(g, 0), 10);
            due("up", x.gatewayOf(g, 1), 1);
            due("cells of it", x.gatewayOf(g, 2), 0);
        }
        due("lit", x.lit(), HopBeams.NONE);
        due("frame(0)", x.frame(0), HopBeams.NONE);
        due("digit(0)", x.digit(0), 0);
        due("sets", x.sets(), 1);
        due("legal(0)", x.legal(0), 1);
        for (int place = 0; place < 4; place++) {
            due("tear", x.tear(place), false);
        }
        due("NONE", HopBeams.NONE, -1);
    }

    private static void terms() {
        HopBeams x = new HopBeams();
        due("most", x.terms(4, 1000, 20, 9), 0);
        due("beams", x.count(1), 4);
        due("limit", x.count(2), 1000);
        due("latest", x.count(3), 20);
        due("hand", x.count(4), 9);
        due("least", x.terms(1, 1, 1, 0), 0);
        int[][] bad = {{0, 5, 5, 5}, {5, 5, 5, 5}, {2, 0, 5, 5}, {2, 1001, 5, 5}, {2, 5, 0, 5},
            {2, 5, 21, 5}, {2, 5, 5, -1}, {2, 5, 5, 10}, {BIG, 5, 5, 5}, {2, SMALL, 5, 5}};
        for (int[] t : bad) {
            due("terms", x.terms(t[0], t[1], t[2], t[3]), -2);
        }
        due("beams stay", x.count(1), 1);
        due("limit stays", x.count(2), 1);
        due("latest stays", x.count(3), 1);
        due("hand stays", x.count(4), 0);
    }

    private static void cell() {
        HopBeams x = new HopBeams();
        int[][] bad = {{0, 1, 1, 0}, {101, 1, 1, 0}, {1, 0, 1, 0}, {1, 1001, 1, 0}, {1, 1, 0, 0},
            {1, 1, 10, 0}, {1, 1, 1, -1}, {1, 1, 1, 3}, {SMALL, 1, 1, 0}, {1, BIG, 1, 0}};
        for (int[] b : bad) {
            due("cell", x.cell(b[0], b[1], b[2], b[3]), -2);
        }
        due("least", x.cell(1, 1, 1, 0), 0);
        due("most", x.cell(100, 1000, 9, 2), 1);
        due("power", x.cellOf(1, 0), 100);
        due("rate", x.cellOf(1, 1), 1000);
        due("gateway", x.cellOf(1, 2), 2);
        due("class", x.cellOf(1, 12), 9);
        for (int c = 2; c < 10; c++) {
            due("cell", x.cell(1, 1, 1, 1), c);
        }
        due("eleventh", x.cell(1, 1, 1, 1), -3);
        due("wrong eleventh", x.cell(0, 1, 1, 1), -2);
        due("cells", x.count(0), 10);
    }

    private static void forbid() {
        HopBeams x = withCells(3);
        due("forbid", x.forbid(2, 0, true), true);
        due("again", x.forbid(2, 0, true), false);
        due("turned round", x.forbid(0, 2, true), false);
        due("of 0", x.cellOf(0, 10), 4);
        due("of 2", x.cellOf(2, 10), 1);
        due("of 1", x.cellOf(1, 10), 0);
        due("legal(5)", x.legal(5), 0);
        due("legal(3)", x.legal(3), 1);
        due("itself", x.forbid(1, 1, true), false);
        due("itself allowed", x.forbid(1, 1, false), false);
        due("none such", x.forbid(0, 3, true), false);
        due("none such", x.forbid(-1, 0, true), false);
        due("far", x.forbid(BIG, SMALL, true), false);
        due("not forbidden", x.forbid(0, 1, false), false);
        due("allow", x.forbid(0, 2, false), true);
        due("legal(5)", x.legal(5), 1);
        due("of 2", x.cellOf(2, 10), 0);
    }

    private static void rain() {
        HopBeams x = new HopBeams();
        x.cell(33, 7, 1, 0);
        due("rain", x.rain(0, 1), 0);
        due("power cut", x.cellOf(0, 0), 49);
        due("rate cut", x.cellOf(0, 1), 3);
        due("rain", x.rain(0, 2), 1);
        due("power", x.cellOf(0, 0), 66);
        due("rate", x.cellOf(0, 1), 0);
        due("other rain", x.rain(0, 3), -2);
        due("other rain", x.rain(0, -1), -2);
        due("no cell", x.rain(1, 0), -2);
        due("no cell", x.rain(-1, 0), -2);
        due("stays", x.cellOf(0, 11), 2);
        due("rain", x.rain(0, 0), 2);
        due("power", x.cellOf(0, 0), 33);
        due("rate", x.cellOf(0, 1), 7);
    }

    private static void gateway() {
        HopBeams x = new HopBeams();
        x.cell(1, 1, 1, 0);
        x.cell(1, 1, 1, 0);
        x.cell(1, 1, 1, 2);
        due("room 1", x.gateway(0, 1, true), 0);
        due("two of one", x.legal(3), 0);
        due("one of each", x.legal(5), 1);
        due("down", x.gateway(2, 10, false), 0);
        due("of a down one", x.legal(4), 0);
        due("of an up one", x.legal(2), 1);
        due("none", x.legal(0), 1);
        due("room 0", x.gateway(0, 0, true), 0);
        due("of no room", x.legal(1), 0);
        due("down without cells", x.gateway(1, 0, false), 0);
        due("none", x.legal(0), 1);
        due("no such", x.gateway(3, 1, true), -2);
        due("no such", x.gateway(-1, 1, true), -2);
        due("room", x.gateway(0, 11, true), -2);
        due("room", x.gateway(0, -1, true), -2);
        due("room stays", x.gatewayOf(0, 0), 0);
        due("up again", x.gateway(2, 1, true), 0);
        due("of an up one", x.legal(4), 1);
    }

    private static void swap() {
        HopBeams x = withCells(2);
        due("its own", x.swap(0, 0), -2);
        due("no gateway", x.swap(0, 3), -2);
        due("no gateway", x.swap(0, -1), -2);
        due("no cell", x.swap(2, 1), -2);
        due("no cell", x.swap(-1, 1), -2);
        due("swap", x.swap(0, 1), 0);
        due("new at once", x.cellOf(0, 2), 1);
        due("yet", x.cellOf(0, 3), 2);
        due("not legal", x.legal(1), 0);
        due("other is", x.legal(2), 1);
        due("being handed", x.swap(0, 2), -7);
        due("being handed, to its own", x.swap(0, 1), -2);
        due("hand 5 is for later ones", x.terms(2, 100, 8, 5), 0);
        due("yet", x.cellOf(0, 3), 2);
        due("go", x.go(1), 1);
        due("yet", x.cellOf(0, 3), 1);
        due("not legal", x.legal(1), 0);
        due("being handed in its last slot", x.swap(0, 2), -7);
        due("go", x.go(1), 2);
        due("yet", x.cellOf(0, 3), 0);
        due("legal", x.legal(1), 1);
        due("swap", x.swap(1, 2), 0);
        due("yet", x.cellOf(1, 3), 5);
        due("hand 0", x.terms(2, 100, 8, 0), 0);
        due("swap", x.swap(0, 0), 0);
        due("not at all", x.cellOf(0, 3), 0);
        due("legal", x.legal(1), 1);
        due("swap at once", x.swap(0, 1), 0);
    }

    private static void needs() {
        HopBeams x = withCells(3);
        due("no place", x.needs(-1), -2);
        due("no place", x.needs(4), -2);
        due("nothing", x.needs(1), -5);
        lay(x, 1, 1, 2);
        due("too short", x.needs(1), -6);
        lay(x, 1, 9, 0, 4, 77);
        due("needs; the fourth is no cell's", x.needs(1), 13);
        due("need", x.cellOf(0, 4), 9);
        due("need", x.cellOf(1, 4), 0);
        due("need", x.cellOf(2, 4), 4);
        lay(x, 1, 1, 1, 10);
        due("ten", x.needs(1), -4);
        lay(x, 1, 1, 1, -1);
        due("below 0", x.needs(1), -4);
        lay(x, 1, 1, 1, 1L << 32);
        due("far", x.needs(1), -4);
        due("stays", x.cellOf(0, 4), 9);
        due("stays", x.cellOf(1, 4), 0);
        HopBeams bare = new HopBeams();
        lay(bare, 0);
        due("no cells", bare.needs(0), 0);
    }

    private static void asks() {
        HopBeams x = withCells(2);
        due("no place", x.asks(4), -2);
        due("nothing", x.asks(3), -5);
        lay(x, 3, 1);
        due("too short", x.asks(3), -6);
        lay(x, 3, 1000, 1, 5000);
        due("asks", x.asks(3), 1001);
        lay(x, 3, 3, 1001);
        due("above", x.asks(3), -4);
        lay(x, 3, -1, 3);
        due("below", x.asks(3), -4);
        due("stays", x.cellOf(0, 5), 1000);
        due("stays", x.cellOf(1, 5), 1);
        due("needs are others", x.cellOf(0, 4), 0);
    }

    private static void legal() {
        HopBeams x = new HopBeams();
        due("no cells", x.legal(1), -2);
        x.cell(50, 1, 1, 0);
        x.cell(50, 1, 1, 1);
        x.cell(51, 1, 1, 2);
        due("at the limit", x.legal(3), 1);
        due("above it", x.legal(5), 0);
        due("beams", x.legal(7), 0);
        x.terms(3, 151, 8, 2);
        due("three", x.legal(7), 1);
        x.terms(2, 151, 8, 2);
        due("only the beams", x.legal(7), 0);
        due("others", x.legal(8), -2);
        due("others", x.legal(-1), -2);
        due("others", x.legal(SMALL), -2);
        due("empty", x.legal(0), 1);
        x.terms(1, 50, 8, 2);
        x.rain(0, 1);
        due("power now", x.legal(1), 0);
        due("power now", x.legal(2), 1);
    }

    private static void sets() {
        HopBeams x = withCells(10);
        x.terms(4, 1000, 8, 2);
        due("four of ten", x.sets(), 386);
        x.terms(3, 1000, 8, 2);
        due("three of ten", x.sets(), 176);
        x.terms(4, 20, 8, 2);
        due("power for two", x.sets(), 56);
        x.gateway(0, 1, true);
        due("room for one", x.sets(), 11);
        x.gateway(0, 10, false);
        due("down", x.sets(), 1);
    }

    private static void fewest() {
        HopBeams x = withCells(4);
        lay(x, 0, 1, 1, 1, 1);
        x.frameOf(0);
        due("nothing lacks", x.fewest(), 0);
        due("no frame", x.count(7), 0);
        due("no states", x.count(8), 0);
        x.needs(0);
        // By 3, 5, 6, 9, 10, 12 to six states; of these the first ends it.
        due("fewest", x.fewest(), 2);
        due("frame 0", x.frame(0), 3);
        due("frame 1", x.frame(1), 12);
        due("states", x.count(8), 7);
        // 2 1 0 0 by 3 to 1 0 0 0, by 1 to the end: parts of wider sets are not gone by.
        lay(x, 0, 2, 1, 0, 0);
        x.needs(0);
        due("fewest", x.fewest(), 2);
        due("frame 0", x.frame(0), 3);
        due("frame 1", x.frame(1), 1);
        due("states", x.count(8), 2);
        x.gateway(0, 10, false);
        due("in no legal set", x.fewest(), HopBeams.NONE);
        due("frame stays", x.frame(0), 3);
        due("no states", x.count(8), 0);
        x.gateway(0, 10, true);
        x.swap(3, 1);
        due("what needs nothing may be barred", x.fewest(), 2);
        x.swap(1, 1);
        due("being handed over", x.fewest(), HopBeams.NONE);
        HopBeams y = withCells(2);
        lay(y, 0, 1, 0);
        y.needs(0);
        due("one cell", y.fewest(), 1);
        due("its set", y.frame(0), 1);
        due("states", y.count(8), 1);
        lay(y, 0, 1, 1);
        y.needs(0);
        due("together", y.fewest(), 1);
        due("both", y.frame(0), 3);
        y.forbid(0, 1, true);
        due("one by one", y.fewest(), 2);
        due("the first", y.frame(0), 1);
        due("the second", y.frame(1), 2);
        y.forbid(0, 1, false);
        due("together again", y.fewest(), 1);
        due("both", y.frame(0), 3);
    }

    /** One beam: a state for each row of what may lack; the end is come to last of all. */
    private static void fewestFull() {
        HopBeams x = withCells(4);
        x.terms(1, 100, 8, 2);
        lay(x, 0, 9, 9, 9, 4);
        x.needs(0);
        due("10 * 10 * 10 * 5 - 1 states", x.fewest(), 31);
        due("states", x.count(8), 4999);
        due("frame", x.count(7), 31);
        due("first", x.frame(0), 1);
        due("last", x.frame(30), 8);
        due("behind it", x.frame(31), HopBeams.NONE);
        lay(x, 0, 9, 9, 9, 5);
        x.needs(0);
        due("5999 states", x.fewest(), -4);
        due("states", x.count(8), 5000);
        due("frame stays", x.count(7), 31);
        HopBeams y = withCells(5);
        y.terms(1, 100, 8, 2);
        lay(y, 0, 6, 6, 9, 8, 0);
        y.needs(0);
        due("7 * 7 * 10 * 9 - 1 states", y.fewest(), 29);
        due("states", y.count(8), 4409);
        lay(y, 0, 9, 9, 6, 6, 1);
        y.needs(0);
        due("9799 states", y.fewest(), -4);
        lay(y, 0, 0, 0, 0, 0, 0);
        y.needs(0);
        due("nothing", y.fewest(), 0);
        due("states", y.count(8), 0);
        HopBeams just = withForbidden(5, 1, 0, 4, 0, 4, 1, 4, 2);
        lay(just, 0, 8, 8, 6, 6, 9);
        just.needs(0);
        due("just 5000 states", just.fewest(), 25);
        due("states", just.count(8), 5000);
        due("frame", just.count(7), 25);
        HopBeams over = withForbidden(5, 1, 0, 4, 0, 4, 2);
        lay(over, 0, 6, 8, 7, 5, 6);
        over.needs(0);
        due("one state more than 5000", over.fewest(), -4);
        due("states", over.count(8), 5000);
        due("frame", over.count(7), 0);
    }

    private static void frame() {
        HopBeams x = withCells(2);
        lay(x, 0, 2, 1, 3);
        due("frameOf", x.frameOf(0), 3);
        due("0", x.frame(0), 2);
        due("2", x.frame(2), 3);
        due("3", x.frame(3), HopBeams.NONE);
        due("-1", x.frame(-1), HopBeams.NONE);
        due("far", x.frame(BIG), HopBeams.NONE);
        lay(x, 0, 1);
        x.frameOf(0);
        due("the former one's", x.frame(1), HopBeams.NONE);
    }

    private static void frameOf() {
        HopBeams x = withCells(3);
        due("no place", x.frameOf(-1), -2);
        due("no place", x.frameOf(4), -2);
        due("nothing", x.frameOf(0), -5);
        lay(x, 0);
        due("no numbers", x.frameOf(0), -8);
        lay(x, 0, 0, 7);
        due("need not be legal", x.frameOf(0), 2);
        lay(x, 0, 1, 8);
        due("others", x.frameOf(0), -4);
        lay(x, 0, -1);
        due("others", x.frameOf(0), -4);
        lay(x, 0, 1L << 32);
        due("others", x.frameOf(0), -4);
        due("stays", x.frame(1), 7);
        due("stays", x.count(7), 2);
        lay(x, 0, 1, 2, 3, 4, 5, 6, 7, 6, 5, 4, 3, 2, 1000);
        due("twelve", x.frameOf(0), 12);
        due("the twelfth", x.frame(11), 2);
        due("no more", x.frame(12), HopBeams.NONE);
        lay(x, 0, 1, 2, 3, 4, 5, 6, 7, 6, 5, 4, 3, 8);
        due("the twelfth is looked at", x.frameOf(0), -4);
    }

    private static void proof() {
        HopBeams x = withCells(3);
        due("no place", x.proof(4), -2);
        due("nothing", x.proof(0), -5);
        lay(x, 0, 1, 1);
        due("too short", x.proof(0), -6);
        lay(x, 0, 1, 0, 1000001);
        due("above", x.proof(0), -4);
        lay(x, 0, -1, 0, 1);
        due("below", x.proof(0), -4);
        lay(x, 0, 3, 2, 2);
        x.needs(0);
        lay(x, 0, 1, 1, 1, -9);
        due("7 by 2, up", x.proof(0), 4);
        lay(x, 0, 1000000, 0, 0);
        due("3 by 1", x.proof(0), 3);
        lay(x, 0, 1000000, 500000, 1);
        due("4000002 by 1500000", x.proof(0), 3);
        lay(x, 0, 0, 0, 0);
        due("both 0", x.proof(0), 0);
        x.gateway(0, 0, true);
        due("both 0", x.proof(0), 0);
        lay(x, 0, 0, 0, 1);
        due("no bound", x.proof(0), HopBeams.NONE);
        HopBeams y = withCells(1);
        lay(y, 0, 5);
        due("no needs", y.proof(0), 0);
        HopBeams bare = new HopBeams();
        lay(bare, 0);
        due("no cells", bare.proof(0), 0);
    }

    private static void dueWays(HopBeams x, int slots, String number) {
        due("ways(" + slots + ")", x.ways(slots), number.length());
        for (int i = 0; i < number.length(); i++) {
            due("digit of " + number, x.digit(i), number.charAt(number.length() - 1 - i) - '0');
        }
        due("digit behind", x.digit(number.length()), 0);
    }

    private static void ways() {
        HopBeams x = new HopBeams();
        dueWays(x, 0, "1");
        dueWays(x, 24, "1");
        x.cell(10, 10, 1, 0);
        dueWays(x, 0, "0");
        dueWays(x, 1, "1");
        dueWays(x, 24, "16777215");
        x.cell(10, 10, 1, 0);
        // Two cells, each free of the other: (2^n - 1)^2.
        dueWays(x, 1, "1");
        dueWays(x, 2, "9");
        dueWays(x, 3, "49");
        dueWays(x, 24, "281474943156225");
        x.forbid(0, 1, true);
        // 3^n - 2 * 2^n + 1.
        dueWays(x, 1, "0");
        dueWays(x, 2, "2");
        dueWays(x, 24, "282395982050");
        due("another number", x.ways(-1), -2);
        due("another number", x.ways(25), -2);
        due("far", x.ways(SMALL), -2);
        due("the latest stays", x.digit(0), 0);
        due("the latest stays", x.digit(1), 5);
        x.gateway(0, 0, true);
        dueWays(x, 24, "0");
        HopBeams wide = withCells(10);
        wide.terms(4, 1000, 8, 2);
        dueWays(wide, 2, "0");
        dueWays(wide, 3, "372750");
        dueWays(wide, 24, "119637554742610459402924004122340110438295940125160620979739500");
    }

    private static void digit() {
        HopBeams x = withCells(10);
        due("ahead of any", x.digit(3), 0);
        due("below 0", x.digit(-1), -2);
        due("below 0", x.digit(SMALL), -2);
        x.terms(1, 100, 8, 2);
        dueWays(x, 10, "3628800");
        due("far", x.digit(BIG), 0);
        due("72", x.digit(72), 0);
    }

    private static void rule() {
        HopBeams x = new HopBeams();
        due("by weight", x.rule(1), 0);
        due("again", x.rule(1), 1);
        due("count", x.count(6), 1);
        due("another", x.rule(2), -2);
        due("another", x.rule(-1), -2);
        due("by the frame", x.rule(0), 1);
        due("count", x.count(6), 0);
    }

    private static void goByFrame() {
        HopBeams x = withCells(3);
        due("another number", x.go(0), -2);
        due("another number", x.go(-1), -2);
        due("another number", x.go(201), -2);
        due("without a frame", x.go(1), 1);
        due("dark", x.lit(), 0);
        lay(x, 0, 1, 6, 7);
        x.frameOf(0);
        due("go", x.go(1), 2);
        due("the slot's, not the first", x.lit(), 6);
        due("go", x.go(1), 3);
        due("7 without 2", x.lit(), 3);
        due("go", x.go(1), 4);
        due("again", x.lit(), 1);
        x.forbid(1, 2, true);
        due("go", x.go(1), 5);
        due("6 without 2", x.lit(), 2);
        x.swap(0, 1);
        due("go", x.go(1), 6);
        due("7 without 2, 1, 0", x.lit(), 0);
        due("go", x.go(1), 7);
        due("1 without 0", x.lit(), 0);
        due("go", x.go(2), 9);
        due("it is there", x.lit(), 3);
        x.swap(0, 2);
        due("go", x.go(3), 12);
        due("it came over within", x.lit(), 3);
        due("how often", x.cellOf(0, 9), 4);
        HopBeams y = withCells(1);
        for (int k = 1; k <= 100; k++) {
            due("go", y.go(200), 200 * k);
        }
        due("above 20000", y.go(1), -3);
        due("above 20000", y.go(200), -3);
        due("another number ahead of that", y.go(201), -2);
        due("slot", y.count(5), 20000);
        HopBeams z = withCells(1);
        for (int k = 1; k < 100; k++) {
            z.go(200);
        }
        z.go(1);
        due("above 20000", z.go(200), -3);
        due("stays", z.count(5), 19801);
        due("to the end", z.go(199), 20000);
    }

    private static void goByWeight() {
        HopBeams x = new HopBeams();
        x.cell(60, 10, 1, 0);
        x.cell(40, 5, 3, 0);
        x.cell(40, 20, 1, 0);
        x.rule(1);
        due("no units", x.go(1), 1);
        due("the empty set", x.lit(), 0);
        lay(x, 0, 10, 10, 15);
        x.asks(0);
        // Weights 10, 15, 15: sets 3 and 5 weigh 25, 6 weighs 30.
        x.go(1);
        due("the heaviest", x.lit(), 6);
        due("sent", x.units(1, 1), 5);
        due("sent", x.units(2, 1), 15);
        due("dark", x.units(0, 1), 0);
        x.rain(2, 2);
        x.go(1);
        due("rate 0 weighs nothing", x.lit(), 3);
        x.rain(2, 0);
        x.forbid(1, 2, true);
        lay(x, 0, 0, 0, 0);
        x.asks(0);
        // 10, 10 and 15 wait; weights 10, 15, 15: sets 3 and 5 are even.
        x.go(1);
        due("of even ones the least", x.lit(), 3);
    }

    private static void aging() {
        HopBeams x = withCells(1);
        x.terms(1, 100, 3, 0);
        lay(x, 0, 4);
        x.asks(0);
        x.go(2);
        due("two slots old", x.cellOf(0, 7), 2);
        due("wait", x.cellOf(0, 6), 8);
        due("none lost", x.units(0, 2), 0);
        x.go(1);
        due("lost", x.units(0, 2), 4);
        due("wait", x.cellOf(0, 6), 8);
        due("two slots old", x.cellOf(0, 7), 2);
        // 12 wait; of the newest 2 stay.
        lay(x, 1, 1);
        x.frameOf(1);
        x.go(1);
        due("sent", x.units(0, 1), 10);
        due("wait", x.cellOf(0, 6), 2);
        due("the oldest went", x.cellOf(0, 7), 1);
        due("none lost", x.units(0, 2), 4);
        x.terms(1, 100, 20, 0);
        x.gateway(0, 0, true);
        x.go(18);
        due("none lost", x.units(0, 2), 4);
        due("wait", x.cellOf(0, 6), 74);
        due("nineteen slots old", x.cellOf(0, 7), 19);
        x.go(1);
        due("two lost", x.units(0, 2), 6);
        due("wait", x.cellOf(0, 6), 76);
        x.terms(1, 100, 5, 0);
        due("not at once", x.cellOf(0, 6), 76);
        x.go(1);
        due("all that are older", x.units(0, 2), 70);
        due("wait", x.cellOf(0, 6), 16);
        due("four slots old", x.cellOf(0, 7), 4);
    }

    private static void lit() {
        HopBeams x = withCells(2);
        lay(x, 0, 2);
        x.frameOf(0);
        due("ahead of any", x.lit(), HopBeams.NONE);
        x.go(0);
        due("none went by", x.lit(), HopBeams.NONE);
        x.go(1);
        due("lit", x.lit(), 2);
        lay(x, 0, 0);
        x.frameOf(0);
        due("a new frame lights nothing yet", x.lit(), 2);
        x.go(1);
        due("dark", x.lit(), 0);
    }

    private static void cellOf() {
        HopBeams x = new HopBeams();
        x.cell(20, 30, 4, 1);
        x.cell(1, 1, 1, 0);
        long[] fresh = {20, 30, 1, 0, 0, 0, 0, -1, 0, 0, 0, 0, 4};
        for (int what = 0; what < fresh.length; what++) {
            due("cellOf(0, " + what + ")", x.cellOf(0, what), fresh[what]);
        }
        due("others", x.cellOf(0, 13), -2);
        due("others", x.cellOf(0, -1), -2);
        due("no cell", x.cellOf(2, 0), -2);
        due("no cell", x.cellOf(-1, 0), -2);
        due("far", x.cellOf(BIG, SMALL), -2);
        // Cell 0 is dark 2 slots, lit 1, dark 3, lit 1, dark 2.
        lay(x, 0, 0, 0, 1, 0, 0, 0, 1, 2, 2);
        x.frameOf(0);
        x.go(2);
        due("ahead of the first light", x.cellOf(0, 8), 2);
        x.go(3);
        due("not together", x.cellOf(0, 8), 2);
        x.go(1);
        due("between", x.cellOf(0, 8), 3);
        x.go(3);
        due("the longest", x.cellOf(0, 8), 3);
        due("how often", x.cellOf(0, 9), 2);
        due("how often", x.cellOf(1, 9), 2);
        due("gap of the other", x.cellOf(1, 8), 7);
        due("a new one", x.cell(1, 1, 1, 0), 2);
        due("has no gap", x.cellOf(2, 8), 0);
        x.go(2);
        due("behind the last light", x.cellOf(0, 8), 4);
        due("since it is there", x.cellOf(2, 8), 2);
    }

    private static void units() {
        HopBeams x = withCells(2);
        lay(x, 0, 15, 0);
        x.asks(0);
        lay(x, 0, 1, 0);
        x.frameOf(0);
        x.terms(1, 100, 2, 0);
        x.go(2);
        // Slot 0: 10 of 15 go. Slot 1: 20 wait, 5 of them are lost.
        due("came", x.units(0, 0), 30);
        due("sent", x.units(0, 1), 10);
        due("lost", x.units(0, 2), 5);
        due("wait", x.cellOf(0, 6), 15);
        due("none", x.units(1, 0), 0);
        due("others", x.units(0, 3), -2);
        due("others", x.units(0, -1), -2);
        due("no cell", x.units(2, 0), -2);
        due("no cell", x.units(-1, 0), -2);
        x.rain(0, 1);
        x.go(1);
        due("rate now", x.units(0, 1), 15);
        HopBeams y = withCells(1);
        lay(y, 0, 1);
        y.asks(0);
        y.go(1);
        due("one unit waits", y.cellOf(0, 6), 1);
        due("it is one slot old", y.cellOf(0, 7), 1);
    }

    private static void count() {
        HopBeams x = withCells(2);
        x.terms(3, 44, 5, 6);
        x.rule(1);
        x.go(7);
        lay(x, 0, 1, 2);
        lay(x, 3);
        x.frameOf(0);
        x.needs(0);
        long[] due = {2, 3, 44, 5, 6, 7, 1, 2, 0, 2};
        for (int what = 0; what < due.length; what++) {
            due("count(" + what + ")", x.count(what), due[what]);
        }
        x.fewest();
        due("states", x.count(8), 2);
        due("others", x.count(10), HopBeams.NONE);
        due("others", x.count(-1), HopBeams.NONE);
    }

    private static void gatewayOf() {
        HopBeams x = withCells(3);
        x.swap(1, 2);
        x.gateway(2, 4, false);
        due("room", x.gatewayOf(2, 0), 4);
        due("down", x.gatewayOf(2, 1), 0);
        due("cells, the one being handed too", x.gatewayOf(2, 2), 1);
        due("room", x.gatewayOf(0, 0), 10);
        due("up", x.gatewayOf(0, 1), 1);
        due("cells", x.gatewayOf(0, 2), 2);
        due("others", x.gatewayOf(0, 3), -2);
        due("others", x.gatewayOf(0, -1), -2);
        due("no gateway", x.gatewayOf(3, 0), -2);
        due("no gateway", x.gatewayOf(-1, 0), -2);
    }

    private static void row() {
        HopBeams x = withCells(2);
        due("no place", x.row(4, 0, 1), -2);
        due("no place", x.row(-1, 0, 1), -2);
        due("no width", x.row(0, 4, 1), -2);
        due("no width", x.row(0, -1, 1), -2);
        due("above 60", x.row(0, 0, 61), -2);
        due("below 0", x.row(0, 0, -1), -3);
        due("below 0 without a width", x.row(0, 4, -1), -2);
        due("it has nothing yet", x.needs(0), -5);
        due("60", x.row(0, 3, 60), 0);
        due("the last", x.write(0, 59, 1), 0);
        due("behind it", x.write(0, 60, 1), -6);
        x.write(0, 0, 3);
        due("below 0", x.row(0, 0, SMALL), -3);
        due("above 60", x.row(0, 0, BIG), -2);
        due("the place stays", x.needs(0), 3);
        due("another one", x.row(0, 0, 2), 0);
        due("all 0", x.needs(0), 0);
        due("one place", x.count(9), 1);
        due("shorter", x.row(0, 1, 1), 0);
        due("it is", x.needs(0), -6);
        due("as long again", x.row(0, 0, 60), 0);
        due("all 0", x.needs(0), 0);
    }

    private static void tear() {
        HopBeams x = new HopBeams();
        due("no place", x.tear(4), false);
        due("no place", x.tear(-1), false);
        due("nothing", x.tear(2), false);
        x.row(2, 0, 0);
        due("a row of no numbers", x.tear(2), true);
        due("again", x.tear(2), false);
        due("nothing there", x.frameOf(2), -5);
        due("places", x.count(9), 0);
    }

    private static void write() {
        HopBeams x = withCells(1);
        due("no place", x.write(4, 0, 1), -2);
        due("no place", x.write(-1, 0, 1), -2);
        due("nothing", x.write(0, 0, 1), -5);
        long[] beyond = {1L << 8, 1L << 16, 1L << 32};
        for (int width = 0; width < 3; width++) {
            x.row(0, width, 2);
            due("no number", x.write(0, 2, 1), -6);
            due("no number", x.write(0, -1, 1), -6);
            due("write", x.write(0, 0, beyond[width] + 5 + width), 0);
            due("cut", x.needs(0), 5 + width);
            due("write", x.write(0, 0, beyond[width] / 2 + 5), 0);
            due("its highest bit is its sign", x.proof(0), -4);
            due("write", x.write(0, 0, Long.MIN_VALUE + 3), 0);
            due("cut", x.needs(0), 3);
        }
        x.row(0, 0, 1);
        x.write(0, 0, 127);
        due("127 in a byte", x.asks(0), 127);
        x.write(0, 0, 128);
        due("128 is -128 there", x.asks(0), -4);
        x.row(0, 1, 1);
        x.write(0, 0, 128);
        due("128 in two bytes", x.asks(0), 128);
        x.row(0, 3, 1);
        x.write(0, 0, (1L << 32) + 5);
        due("eight bytes are not cut", x.needs(0), -4);
    }

    private static void dueFrame(HopBeams x, int place, int... sets) {
        due("frameOf", x.frameOf(place), sets.length);
        for (int i = 0; i < sets.length; i++) {
            due("number " + i, x.frame(i), sets[i]);
        }
    }

    private static void paste() {
        HopBeams x = withCells(3);
        lay(x, 0, 1, 2, 3, 4, 5);
        due("no place", x.paste(4, 0, 0, 0, 1), -2);
        due("no place", x.paste(0, 0, -1, 0, 1), -2);
        due("nothing", x.paste(0, 0, 1, 0, 1), -5);
        due("nothing", x.paste(1, 0, 0, 0, 1), -5);
        x.row(1, 2, 5);
        due("other width", x.paste(0, 0, 1, 0, 1), -7);
        due("other width ahead of beyond", x.paste(0, -1, 1, 0, 9), -7);
        x.row(1, 3, 3);
        due("beyond the first", x.paste(0, 3, 1, 0, 3), -6);
        due("beyond the second", x.paste(0, 0, 1, 1, 3), -6);
        due("below 0", x.paste(0, -1, 1, 0, 1), -6);
        due("below 0", x.paste(0, 0, 1, -1, 1), -6);
        due("below 0", x.paste(0, 0, 1, 0, -1), -6);
        due("far", x.paste(0, BIG, 1, BIG, BIG), -6);
        due("far", x.paste(0, 1, 1, 1, BIG), -6);
        due("far", x.paste(0, SMALL, 1, 0, SMALL), -6);
        due("none from the end on", x.paste(0, 5, 1, 3, 0), 0);
        dueFrame(x, 1, 0, 0, 0);
        due("paste", x.paste(0, 3, 1, 1, 2), 0);
        dueFrame(x, 1, 0, 4, 5);
        due("to the first", x.paste(0, 2, 1, 0, 1), 0);
        dueFrame(x, 1, 3, 4, 5);
        due("none from behind the end on", x.paste(0, 6, 1, 0, 0), -6);
        dueFrame(x, 0, 1, 2, 3, 4, 5);
        due("its own, upwards", x.paste(0, 0, 0, 1, 4), 0);
        dueFrame(x, 0, 1, 1, 2, 3, 4);
        due("its own, downwards", x.paste(0, 2, 0, 1, 3), 0);
        dueFrame(x, 0, 1, 2, 3, 4, 4);
    }

    public static void main(String[] args) {
        promise = 1;
        newObject();
        promise = 2;
        terms();
        promise = 3;
        cell();
        promise = 4;
        forbid();
        promise = 5;
        rain();
        promise = 6;
        gateway();
        promise = 7;
        swap();
        promise = 8;
        needs();
        promise = 9;
        asks();
        promise = 10;
        legal();
        promise = 11;
        sets();
        promise = 12;
        fewest();
        fewestFull();
        promise = 13;
        frame();
        promise = 14;
        frameOf();
        promise = 15;
        proof();
        promise = 16;
        ways();
        promise = 17;
        digit();
        promise = 18;
        rule();
        promise = 19;
        goByFrame();
        goByWeight();
        aging();
        promise = 20;
        lit();
        promise = 21;
        cellOf();
        promise = 22;
        units();
        promise = 23;
        count();
        promise = 24;
        gatewayOf();
        promise = 25;
        row();
        promise = 26;
        tear();
        promise = 27;
        write();
        promise = 28;
        paste();
        System.out.println(wrong == 0 ? "all promises are kept" : wrong + " answers are not as due");
        if (wrong != 0) {
            System.exit(1);
        }
    }
}
