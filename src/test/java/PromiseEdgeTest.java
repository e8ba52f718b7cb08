import java.io.IOException;
import java.util.ArrayList;
import java.util.List;
import java.util.function.ToLongBiFunction;

/** The document's promises 1 to 28, sentence by sentence, at their edges. */
public final class PromiseEdgeTest extends Sentences {
    private static void promiseOfNew() {
        says("1", "No CELLS;");
        HopBeams x = new HopBeams();
        due("cells", x.count(0), 0);
        due("sets", x.sets(), 1);
        due("legal(1)", x.legal(1), -2);
        due("cellOf", x.cellOf(0, 0), -2);
        due("units", x.units(0, 0), -2);
        for (int g = 0; g < 3; g++) {
            due("cells of " + g, x.gatewayOf(g, 2), 0);
        }
        says("1", "BEAMS 2, LIMIT 100, LATEST 8, HAND 2, GATEWAYS of ROOM 10, all UP;");
        long[] terms = {2, 100, 8, 2};
        for (int what = 1; what <= 4; what++) {
            due("count(" + what + ")", x.count(what), terms[what - 1]);
        }
        for (int g = 0; g < 3; g++) {
            due("room of " + g, x.gatewayOf(g, 0), 10);
            due("up is " + g, x.gatewayOf(g, 1), 1);
        }
        HopBeams y = cells(3);
        due("two beams", y.legal(3), 1);
        due("not three", y.legal(7), 0);
        y.swap(0, 1);
        due("hand", y.cellOf(0, 3), 2);
        asks(y, 1, 0, 0);
        y.go(7);
        due("none is lost", y.units(0, 2), 0);
        y.go(1);
        due("eight slots old", y.units(0, 2), 1);
        says("1", "SLOT 0, rule 0, no FRAME;");
        for (int what = 5; what <= 8; what++) {
            due("count(" + what + ")", x.count(what), 0);
        }
        due("frame(0)", x.frame(0), NONE);
        due("lit", x.lit(), NONE);
        due("digit(0)", x.digit(0), 0);
        due("rule", x.rule(0), 0);
        says("1", "PLACES have nothing.");
        due("count(9)", x.count(9), 0);
        for (int p = 0; p < 4; p++) {
            due("tear " + p, x.tear(p), false);
            due("needs " + p, x.needs(p), -5);
        }
    }

    private static void promiseOfTerms() {
        says("2", "The TERMS are these: 0.");
        HopBeams x = new HopBeams();
        int[][] good = {{4, 1000, 20, 9}, {1, 1, 1, 0}, {4, 1, 20, 0}, {1, 1000, 1, 9}, {3, 500, 10, 5}};
        for (int[] t : good) {
            due("terms", x.terms(t[0], t[1], t[2], t[3]), 0);
            for (int what = 1; what <= 4; what++) {
                due("count(" + what + ")", x.count(what), t[what - 1]);
            }
        }
        says("2", "-2: BEAMS are not 1 .. 4, LIMIT not 1 .. 1000, LATEST not 1 .. 20, HAND not 0 .. 9.");
        bounds("beams", 1, 4, -2, (o, v) -> o.terms(v, 77, 7, 7));
        bounds("limit", 1, 1000, -2, (o, v) -> o.terms(2, v, 7, 7));
        bounds("latest", 1, 20, -2, (o, v) -> o.terms(2, 77, v, 7));
        bounds("hand", 0, 9, -2, (o, v) -> o.terms(2, 77, 7, v));
    }

    private static void sixMore(HopBeams x) {
        for (int c = 4; c < 10; c++) {
            due("cell", x.cell(1, 1, 1, 0), c);
        }
    }

    private static void promiseOfCell() {
        says("3", "A CELL more: its number.");
        HopBeams x = new HopBeams();
        for (int c = 0; c < 10; c++) {
            due("cell", x.cell(c + 1, 1000 - c, 9 - c % 9, c % 3), c);
            due("cells", x.count(0), c + 1);
        }
        for (int c = 0; c < 10; c++) {
            due("power", x.cellOf(c, 0), c + 1);
            due("rate", x.cellOf(c, 1), 1000 - c);
            due("class", x.cellOf(c, 12), 9 - c % 9);
            due("gateway", x.cellOf(c, 2), c % 3);
        }
        says("3", "-2: POWER is not 1 .. 100, RATE not 1 .. 1000, CLASS not 1 .. 9, no such GATEWAY (0 .. 2);");
        bounds("power", 1, 100, -2, (o, v) -> o.cell(v, 5, 5, 1));
        bounds("rate", 1, 1000, -2, (o, v) -> o.cell(5, v, 5, 1));
        bounds("class", 1, 9, -2, (o, v) -> o.cell(5, 5, v, 1));
        bounds("gateway", 0, 2, -2, (o, v) -> o.cell(5, 5, 5, v));
        refuse("an eleventh without power", -2, PromiseEdgeTest::sixMore, o -> o.cell(0, 5, 5, 1));
        says("3", "-3: there are 10.");
        refuse("an eleventh", -3, PromiseEdgeTest::sixMore, o -> o.cell(5, 5, 5, 1));
    }

    private static void promiseOfForbid() {
        says("4", "Two CELLS are FORBIDDEN together, or not: whether that changed something.");
        HopBeams x = cells(10);
        due("forbid", x.forbid(9, 0, true), true);
        due("again", x.forbid(9, 0, true), false);
        due("turned round", x.forbid(0, 9, true), false);
        due("of 0", x.cellOf(0, 10), 512);
        due("not, turned round", x.forbid(0, 9, false), true);
        due("again", x.forbid(9, 0, false), false);
        due("of 0", x.cellOf(0, 10), 0);
        due("of 9", x.cellOf(9, 10), 0);
        for (int c = 1; c < 10; c++) {
            due("all with 0", x.forbid(0, c, true), true);
        }
        due("of 0", x.cellOf(0, 10), 1022);
        due("of 5", x.cellOf(5, 10), 1);
        refuse("it is so", 0, o -> bit(o.forbid(1, 0, true)));
        refuse("it is not so", 0, o -> bit(o.forbid(2, 3, false)));
        for (boolean are : new boolean[] {true, false}) {
            refuse("with itself", 0, o -> bit(o.forbid(2, 2, are)));
            for (int none : new int[] {-1, 4, 31, 32, 33, BIG, SMALL}) {
                refuse("first " + none, 0, o -> bit(o.forbid(none, 0, are)));
                refuse("second " + none, 0, o -> bit(o.forbid(0, none, are)));
                refuse("both " + none, 0, o -> bit(o.forbid(none, none, are)));
            }
        }
    }

    private static void promiseOfRain() {
        says("5", "RAIN (0 .. 2) at a CELL: what it was;");
        HopBeams x = cells(2);
        int was = 0;
        for (int rain : new int[] {0, 1, 2, 2, 0, 2, 1, 1}) {
            due("rain", x.rain(1, rain), was);
            due("cellOf", x.cellOf(1, 11), rain);
            was = rain;
        }
        due("the other", x.cellOf(0, 11), 0);
        says("5", "-2: there is none such, other RAIN.");
        bounds("cell", 0, 3, -2, (o, v) -> o.rain(v, 2));
        bounds("rain", 0, 2, -2, (o, v) -> o.rain(2, v));
        due("no cells", new HopBeams().rain(0, 0), -2);
    }

    private static void promiseOfGateway() {
        says("6", "A GATEWAY has ROOM for so many CELLS at once (0 .. 10) and is UP or not: 0;");
        HopBeams x = new HopBeams();
        for (int g = 0; g < 3; g++) {
            for (int room = 0; room <= 10; room++) {
                due("gateway", x.gateway(g, room, room % 2 == 0), 0);
                due("room", x.gatewayOf(g, 0), room);
                due("up", x.gatewayOf(g, 1), 1 - room % 2);
            }
            due("the next one is as it was", x.gatewayOf(g + 1, 0), g == 2 ? -2 : 10);
        }
        says("6", "-2: there are none such.");
        bounds("gateway", 0, 2, -2, (o, v) -> o.gateway(v, 1, false));
        bounds("room", 0, 10, -2, (o, v) -> o.gateway(2, v, false));
    }

    private static void promiseOfSwap() {
        says("7", "A CELL is handed to another GATEWAY: 0.");
        HopBeams x = cells(2);
        x.terms(2, 100, 8, 9);
        due("swap", x.swap(1, 2), 0);
        due("gateway", x.cellOf(1, 2), 2);
        due("handed over", x.cellOf(1, 3), 9);
        due("the other is not", x.cellOf(0, 3), 0);
        due("the other's gateway", x.cellOf(0, 2), 0);
        x.terms(2, 100, 8, 0);
        due("what was begun goes on", x.cellOf(1, 3), 9);
        due("to one that is down", x.gateway(1, 0, false), 0);
        due("swap", x.swap(0, 1), 0);
        due("back", x.swap(0, 0), 0);
        says("7", "-2: there are none such, or it is that one's;");
        for (int none : new int[] {-1, 4, BIG, SMALL}) {
            refuse("cell " + none, -2, o -> o.swap(none, 1));
        }
        for (int none : new int[] {-1, 3, BIG, SMALL}) {
            refuse("gateway " + none, -2, o -> o.swap(0, none));
            refuse("gateway " + none + " while being handed over", -2, o -> o.swap(3, none));
        }
        refuse("its own", -2, o -> o.swap(2, 2));
        refuse("its own while being handed over", -2, o -> o.swap(3, 1));
        says("7", "-7: it is being handed over.");
        refuse("two slots yet", -7, o -> o.swap(3, 2));
        refuse("back to the former one", -7, o -> o.swap(3, 0));
        refuse("one slot yet", -7, o -> o.go(1), o -> o.swap(3, 2));
        refuse("one slot yet, hand 0", -7, o -> o.terms(3, 90, 5, 0), o -> o.swap(3, 2));
        HopBeams y = rich();
        y.go(2);
        due("no slot more", y.swap(3, 2), 0);
    }

    /** What needs(), asks() and proof() refuse alike. */
    private static void badPlaces(String minusTwo, String minusFive, String minusSix,
            ToLongBiFunction<HopBeams, Integer> call) {
        sentence = minusTwo;
        for (int none : new int[] {-1, 4, BIG, SMALL}) {
            refuse("place " + none, -2, o -> call.applyAsLong(o, none));
        }
        sentence = minusFive;
        refuse("a place that never had a row", -5, o -> call.applyAsLong(o, 3));
        refuse("a place whose row was torn", -5, o -> o.tear(0), o -> call.applyAsLong(o, 0));
        sentence = minusSix;
        refuse("no numbers", -6, o -> call.applyAsLong(o, 2));
        refuse("three for four", -6, o -> o.row(0, 0, 3), o -> call.applyAsLong(o, 0));
        refuse("three for four, a wrong one among them", -6, o -> lay(o, 0, 3, -1, 0, 0),
                o -> call.applyAsLong(o, 0));
        HopBeams x = rich();
        x.row(0, 0, 4);
        due("four for four", call.applyAsLong(x, 0), 0);
        HopBeams bare = new HopBeams();
        bare.row(3, 0, 0);
        due("none for none", call.applyAsLong(bare, 3), 0);
    }

    private static void badNumbers(long most, ToLongBiFunction<HopBeams, Integer> call) {
        for (long bad : new long[] {-1, most + 1, 1L << 32, Long.MAX_VALUE, Long.MIN_VALUE}) {
            refuse("the first is " + bad, -4, o -> lay(o, 0, 3, bad, 1, 1, 1), o -> call.applyAsLong(o, 0));
            refuse("the last is " + bad, -4, o -> lay(o, 0, 3, 1, 1, 1, bad), o -> call.applyAsLong(o, 0));
            HopBeams x = rich();
            lay(x, 0, 3, 0, 0, 0, 0, bad);
            due("no cell's is " + bad, call.applyAsLong(x, 0), 0);
        }
    }

    private static void promiseOfNeeds() {
        says("8", "NEEDS of all CELLS, by numbers, are those of the row of a PLACE: how many together.");
        HopBeams x = cells(10);
        for (int p = 0; p < 4; p++) {
            lay(x, p, p, 9, 9, 9, 9, 9, 9, 9, 9, 9, 9 - p);
            due("needs", x.needs(p), 90 - p);
            due("the first", x.cellOf(0, 4), 9);
            due("the last", x.cellOf(9, 4), 9 - p);
        }
        lay(x, 0, 0, 0, 1, 2, 3, 4, 5, 6, 7, 8, 9, 5);
        due("ten of eleven", x.needs(0), 45);
        for (int c = 0; c < 10; c++) {
            due("need", x.cellOf(c, 4), c);
        }
        x.write(0, 3, 8);
        due("they are those that the row had", x.cellOf(3, 4), 3);
        says("8", "-2: there is no such PLACE;");
        says("8", "-5: it has nothing;");
        says("8", "-6: its row has fewer numbers than there are CELLS;");
        badPlaces("-2: there is no such PLACE;", "-5: it has nothing;",
                "-6: its row has fewer numbers than there are CELLS;", HopBeams::needs);
        says("8", "-4, and nothing happens: one is not 0 .. 9.");
        badNumbers(9, HopBeams::needs);
    }

    private static void promiseOfAsks() {
        says("9", "ASKS likewise (0 .. 1000).");
        HopBeams x = cells(10);
        lay(x, 3, 1, 1000, 1000, 1000, 1000, 1000, 1000, 1000, 1000, 1000, 1000);
        due("the most", x.asks(3), 10000);
        lay(x, 3, 1, 0, 1, 2, 3, 4, 5, 6, 7, 8, 1000, 5);
        due("ten of eleven", x.asks(3), 1036);
        due("the first", x.cellOf(0, 5), 0);
        due("the last", x.cellOf(9, 5), 1000);
        due("needs are others", x.cellOf(9, 4), 0);
        due("none has come", x.units(9, 0), 0);
        badPlaces(sentence, sentence, sentence, HopBeams::asks);
        badNumbers(1000, HopBeams::asks);
    }

    private static void promiseOfLegal() {
        says("10", "Whether a set of CELLS is LEGAL now (1, 0);");
        HopBeams x = cells(10);
        for (int set = 0; set < 11; set++) {
            due("legal(" + set + ")", x.legal(set), Integer.bitCount(set) <= 2 ? 1 : 0);
        }
        due("legal(768)", x.legal(768), 1);
        due("legal(1023)", x.legal(1023), 0);
        due("no cells", new HopBeams().legal(0), 1);
        says("10", "-2: it has others.");
        for (int other : new int[] {16, 17, 31, 1024, -1, BIG, SMALL}) {
            refuse("legal(" + other + ")", -2, o -> o.legal(other));
        }
        due("legal(1024) of ten", x.legal(1024), -2);
        due("legal(1) of none", new HopBeams().legal(1), -2);
    }

    private static void promiseOfSets() {
        says("11", "How many LEGAL sets there are now, the empty one too.");
        due("no cells", new HopBeams().sets(), 1);
        HopBeams x = cells(10);
        int[] due = {11, 56, 176, 386};
        for (int beams = 1; beams <= 4; beams++) {
            x.terms(beams, 1000, 8, 2);
            due(beams + " of ten", x.sets(), due[beams - 1]);
        }
        x.forbid(0, 9, true);
        due("without 1 + 8 + 28 of the pair", x.sets(), 349);
        x.forbid(0, 9, false);
        due("as before", x.sets(), 386);
        x.terms(4, 30, 8, 2);
        due("power for three", x.sets(), 176);
        x.gateway(0, 1, true);
        due("room for one", x.sets(), 11);
        x.gateway(0, 1, false);
        due("none is up", x.sets(), 1);
    }

    private static void promiseOfFewest() {
        says("12", "FEWEST (II): how many; the FRAME is those sets then.");
        HopBeams x = cells(3);
        frame(x, 7, 7, 7, 7, 7);
        needs(x, 1, 1, 1);
        due("fewest", x.fewest(), 2);
        dueFrame(x, 3, 4);
        x.terms(1, 100, 8, 2);
        needs(x, 9, 9, 9);
        due("more than a row's twelve", x.fewest(), 27);
        due("sets", x.count(7), 27);
        due("the last", x.frame(26), 4);
        due("none", x.frame(27), NONE);
        dueLit(x, 1, 1, 1, 1, 1, 1, 1, 1, 1, 2);
    }

    private static void noFewest() {
        says("12", "NONE: some CELL that needs is in no LEGAL set;");
        HopBeams x = cells(3);
        x.terms(1, 100, 8, 2);
        needs(x, 9, 9, 9);
        due("each is in one", x.fewest(), 27);
        x.swap(2, 1);
        due("handed over", x.fewest(), NONE);
        due("the frame", x.count(7), 27);
        due("states", x.count(8), 0);
        x.go(2);
        due("no more", x.fewest(), 27);
        x.gateway(1, 0, true);
        due("no room", x.fewest(), NONE);
        x.gateway(1, 1, false);
        due("down", x.fewest(), NONE);
        x.gateway(1, 1, true);
        x.terms(1, 19, 8, 2);
        x.rain(2, 2);
        due("power 20 above 19", x.fewest(), NONE);
        x.terms(1, 20, 8, 2);
        due("power 20", x.fewest(), 27);
        x.terms(1, 19, 8, 2);
        needs(x, 1, 1, 0);
        due("what needs nothing may be in none", x.fewest(), 2);
        dueFrame(x, 1, 2);
        for (int barred = 0; barred < 10; barred++) {
            HopBeams ten = cells(10);
            long[] once = new long[10];
            once[barred] = 1;
            needs(ten, once);
            ten.swap(barred, 1);
            due("only " + barred + " needs, once, and is in none", ten.fewest(), NONE);
            ten.go(2);
            due("now it is in one", ten.fewest(), 1);
            dueFrame(ten, 1 << barred);
        }
    }

    private static void fullFewest() {
        says("12", "-4: FULL (the FRAME stays in both).");
        HopBeams y = cells(10);
        frame(y, 5, 6);
        needs(y, 9, 9, 9, 9, 9, 9, 9, 9, 9, 9);
        due("full", y.fewest(), -4);
        dueFrame(y, 5, 6);
        dueLit(y, 5, 6);
        y.gateway(0, 0, true);
        due("none", y.fewest(), NONE);
        dueFrame(y, 5, 6);
        due("states", y.count(8), 0);
    }

    private static void promiseOfFrame() {
        says("13", "The FRAME's set i;");
        HopBeams x = cells(3);
        frame(x, 7, 0, 1, 2, 3, 4, 5, 6, 7, 6, 5, 4);
        dueFrame(x, 7, 0, 1, 2, 3, 4, 5, 6, 7, 6, 5, 4);
        x.terms(1, 1, 8, 2);
        x.go(3);
        due("as it was put, legal or not", x.frame(0), 7);
        says("13", "NONE if there is none such.");
        due("no frame", new HopBeams().frame(0), NONE);
        for (int none : new int[] {-1, 12, 13, 60, 90, BIG, SMALL}) {
            due("frame(" + none + ")", x.frame(none), NONE);
        }
        frame(x, 0);
        due("the only one", x.frame(0), 0);
        due("the former one's", x.frame(1), NONE);
    }

    private static void promiseOfFrameOf() {
        says("14", "The FRAME becomes the sets of the row of a PLACE (12 at most, numbers beyond are not looked at): how many.");
        HopBeams x = cells(10);
        for (int p = 0; p < 4; p++) {
            lay(x, p, p, 127, p);
            dueRow(x, p, 127, p);
        }
        lay(x, 0, 1, 1023);
        dueRow(x, 0, 1023);
        lay(x, 0, 1, 1, 2, 3, 4, 5, 6, 7, 8, 9, 10, 11);
        dueRow(x, 0, 1, 2, 3, 4, 5, 6, 7, 8, 9, 10, 11);
        lay(x, 0, 1, 1, 2, 3, 4, 5, 6, 7, 8, 9, 10, 11, 12);
        dueRow(x, 0, 1, 2, 3, 4, 5, 6, 7, 8, 9, 10, 11, 12);
        lay(x, 0, 1, 1, 2, 3, 4, 5, 6, 7, 8, 9, 10, 11, 12, 13);
        dueRow(x, 0, 1, 2, 3, 4, 5, 6, 7, 8, 9, 10, 11, 12);
        lay(x, 0, 1, 1, 2, 3, 4, 5, 6, 7, 8, 9, 10, 11, 12, -1);
        dueRow(x, 0, 1, 2, 3, 4, 5, 6, 7, 8, 9, 10, 11, 12);
        lay(x, 0, 1, 1, 2, 3, 4, 5, 6, 7, 8, 9, 10, 11, 12, 1024, 5);
        dueRow(x, 0, 1, 2, 3, 4, 5, 6, 7, 8, 9, 10, 11, 12);
        x.write(0, 0, 9);
        due("they are those that the row had", x.frame(0), 1);
        due("60 numbers", x.row(0, 0, 60), 0);
        due("frameOf", x.frameOf(0), 12);
    }

    private static void refusedFrames() {
        says("14", "-2: there is no such PLACE;");
        for (int none : new int[] {-1, 4, BIG, SMALL}) {
            refuse("place " + none, -2, o -> o.frameOf(none));
        }
        says("14", "-5: it has nothing;");
        refuse("it never had a row", -5, o -> o.frameOf(3));
        refuse("its row was torn", -5, o -> o.tear(2), o -> o.frameOf(2));
        says("14", "-8: its row has no numbers;");
        refuse("no numbers", -8, o -> o.frameOf(2));
        HopBeams bare = new HopBeams();
        bare.row(0, 0, 0);
        due("no numbers, no cells", bare.frameOf(0), -8);
        says("14", "-4, and nothing happens: one of them has other CELLS.");
        for (long other : new long[] {16, 31, -1, 1L << 32, (1L << 32) + 1, Long.MAX_VALUE, Long.MIN_VALUE}) {
            refuse("the first is " + other, -4, o -> lay(o, 0, 3, other, 1), o -> o.frameOf(0));
            refuse("the twelfth is " + other, -4, o -> lay(o, 0, 3, 1, 1, 1, 1, 1, 1, 1, 1, 1, 1, 1, other),
                    o -> o.frameOf(0));
        }
        HopBeams y = rich();
        lay(y, 0, 3, 15, 0);
        dueRow(y, 0, 15, 0);
        bare.row(0, 0, 1);
        due("the empty set of no cells", bare.frameOf(0), 1);
        bare.write(0, 0, 1);
        due("no cell 0", bare.frameOf(0), -4);
    }

    private static void promiseOfProof() {
        says("15", "PROOF (II) by prices, those of the row of a PLACE: how many at least.");
        HopBeams x = cells(2);
        needs(x, 5, 4);
        for (int p = 0; p < 4; p++) {
            lay(x, p, p, 1, 1);
            due("9 by 2", x.proof(p), 5);
        }
        due("needs stay", x.cellOf(0, 4), 5);
        says("15", "-2, -5, -6 as needs();");
        badPlaces(sentence, sentence, sentence, HopBeams::proof);
        says("15", "-4: one is not 0 .. 1000000;");
        badNumbers(1000000, HopBeams::proof);
        dueNumber(3, 1000000, 1000000);
        dueNumber(3, 1000001, -4);
        dueNumber(3, 1, 1);
        dueNumber(3, 0, 0);
        says("15", "NONE: there is no bound (it can't be).");
        HopBeams y = reader();
        due("1 by 0", proofBy(y, 0, 1), NONE);
        due("1000000 by 0", proofBy(y, 0, 1000000), NONE);
        due("1000000 by 1", proofBy(y, 1, 1000000), 1000000);
        due("0 by 0", proofBy(y, 0, 0), 0);
    }

    private static void promiseOfWays() {
        says("16", "WAYS (II) in so many SLOTS (0 .. 24): how many digits.");
        HopBeams x = cells(1);
        int[] digits = {1, 1, 1, 1, 2, 2, 2, 3, 3, 3, 4, 4, 4, 4, 5, 5, 5, 6, 6, 6, 7, 7, 7, 7, 8};
        for (int slots = 0; slots <= 24; slots++) {
            due("2^" + slots + " - 1", x.ways(slots), digits[slots]);
        }
        says("16", "-2: another number.");
        for (int other : new int[] {-1, 25, BIG, SMALL}) {
            refuse("ways(" + other + ")", -2, o -> o.ways(other));
        }
    }

    private static void promiseOfDigit() {
        says("17", "Digit i (0 the lowest) of the latest ways() that was not -2;");
        HopBeams x = cells(2);
        dueWays(x, 24, "281474943156225");
        x.forbid(0, 1, true);
        x.go(3);
        x.cell(1, 1, 1, 0);
        due("the land has changed, they have not", x.digit(14), 2);
        due("ways(25)", x.ways(25), -2);
        due("ways(-1)", x.ways(-1), -2);
        due("they have not", x.digit(0), 5);
        dueWays(x, 0, "0");
        due("a digit of the longer one", x.digit(14), 0);
        says("17", "0 if it has not so many, or there was none;");
        HopBeams y = cells(1);
        due("there was none", y.digit(0), 0);
        due("there was none", y.digit(BIG), 0);
        y.ways(25);
        due("only -2", y.digit(0), 0);
        y.ways(24);
        due("the highest of 16777215", y.digit(7), 1);
        for (int beyond : new int[] {8, 9, 62, 63, 71, 72, 73, 512, BIG}) {
            due("digit(" + beyond + ")", y.digit(beyond), 0);
        }
        says("17", "-2 if i is below 0.");
        due("-1", y.digit(-1), -2);
        due("far below", y.digit(SMALL), -2);
        due("ahead of any", new HopBeams().digit(-1), -2);
    }

    private static void promiseOfRule() {
        says("18", "The rule by which it goes on: 0 by the FRAME, 1 by WEIGHT: what it was;");
        HopBeams x = cells(2);
        frame(x, 1);
        asks(x, 0, 1);
        int was = 0;
        for (int rule : new int[] {0, 1, 1, 0, 1, 0}) {
            due("rule", x.rule(rule), was);
            due("count", x.count(6), rule);
            dueLit(x, rule == 0 ? 1 : 2);
            was = rule;
        }
        says("18", "-2: another one.");
        bounds("rule", 0, 1, -2, HopBeams::rule);
    }

    private static void promiseOfGo() {
        says("19", "So many SLOTS (1 .. 200) go by: SLOT;");
        HopBeams x = cells(1);
        due("one", x.go(1), 1);
        due("200", x.go(200), 201);
        due("dark so long", x.cellOf(0, 8), 201);
        HopBeams none = new HopBeams();
        due("no cells", none.go(200), 200);
        due("lit", none.lit(), 0);
        none.rule(1);
        due("no cells, by weight", none.go(1), 201);
        due("lit", none.lit(), 0);
        says("19", "-2: another number;");
        for (int other : new int[] {0, -1, 201, BIG, SMALL}) {
            refuse("go(" + other + ")", -2, o -> o.go(other));
        }
        says("19", "-3: it would be above 20000.");
        // A rich one is at slot 8.
        refuse("go(193)", -3, PromiseEdgeTest::farOn, o -> o.go(193));
        refuse("go(200)", -3, PromiseEdgeTest::farOn, o -> o.go(200));
        refuse("go(201)", -2, PromiseEdgeTest::farOn, o -> o.go(201));
        HopBeams last = rich();
        farOn(last);
        due("just 20000", last.go(192), 20000);
        due("one more", last.go(1), -3);
        due("another number", last.go(0), -2);
        due("slot", last.count(5), 20000);
    }

    private static void farOn(HopBeams x) {
        for (int k = 1; k < 100; k++) {
            due("go(200)", x.go(200), 8 + 200 * k);
        }
    }

    private static void promiseOfLit() {
        says("20", "The set that was lit in the latest SLOT that went by;");
        HopBeams x = cells(10);
        frame(x, 3, 768, 0);
        dueLit(x, 3, 768, 0, 3);
        x.go(2);
        due("the last of two", x.lit(), 0);
        x.go(2);
        x.gateway(0, 0, false);
        frame(x, 1);
        due("it was lit, whatever comes behind", x.lit(), 768);
        due("refused", x.go(0), -2);
        due("no slot went by", x.lit(), 768);
        says("20", "NONE ahead of any.");
        HopBeams y = cells(1);
        frame(y, 1);
        due("a frame is no slot", y.lit(), NONE);
        due("refused", y.go(201), -2);
        due("no slot went by", y.lit(), NONE);
        y.go(1);
        due("lit", y.lit(), 1);
    }

    private static void promiseOfCellOf() {
        says("21", "Of a CELL: 0 POWER now, 1 RATE now, 2 its GATEWAY, 3 SLOTS in which it is handed over yet (0), 4 NEED, 5 ASK, 6 units that wait, 7 how old the oldest of them is (NONE), 8 the longest GAP, 9 how often it was lit, 10 FORBIDDEN ones as a set, 11 RAIN, 12 CLASS.");
        HopBeams x = new HopBeams();
        x.cell(21, 9, 7, 1);
        x.cell(1, 1, 1, 0);
        long[] fresh = {21, 9, 1, 0, 0, 0, 0, NONE, 0, 0, 0, 0, 7};
        for (int what = 0; what < fresh.length; what++) {
            due("a new one: cellOf(0, " + what + ")", x.cellOf(0, what), fresh[what]);
        }
        needs(x, 5, 0);
        asks(x, 6, 0);
        frame(x, 1, 1, 0, 0, 0);
        x.go(5);
        x.forbid(0, 1, true);
        x.rain(0, 1);
        x.swap(0, 2);
        long[] used = {31, 4, 2, 2, 5, 6, 18, 3, 3, 2, 2, 1, 7};
        for (int what = 0; what < used.length; what++) {
            due("cellOf(0, " + what + ")", x.cellOf(0, what), used[what]);
        }
        says("21", "-2 for others.");
        for (int other : new int[] {-1, 13, BIG, SMALL}) {
            refuse("what " + other, -2, o -> o.cellOf(0, other));
        }
        for (int other : new int[] {-1, 4, 10, BIG, SMALL}) {
            refuse("cell " + other, -2, o -> o.cellOf(other, 0));
            refuse("cell " + other + ", who has no units", -2, o -> o.cellOf(other, 7));
        }
    }

    private static void promiseOfUnits() {
        says("22", "Units of a CELL: 0 that came, 1 that were sent, 2 that were lost.");
        HopBeams x = cells(2);
        for (int what = 0; what < 3; what++) {
            due("a new one", x.units(0, what), 0);
        }
        x.terms(1, 100, 2, 0);
        asks(x, 15, 1);
        frame(x, 1, 0);
        x.go(1);
        due("came", x.units(0, 0), 15);
        due("sent", x.units(0, 1), 10);
        due("lost", x.units(0, 2), 0);
        x.go(1);
        due("came", x.units(0, 0), 30);
        due("sent", x.units(0, 1), 10);
        due("lost", x.units(0, 2), 5);
        due("the other's", x.units(1, 0), 2);
        due("the other's", x.units(1, 1), 0);
        due("the other's", x.units(1, 2), 1);
        says("22", "-2 for others.");
        for (int other : new int[] {-1, 3, BIG, SMALL}) {
            refuse("what " + other, -2, o -> o.units(0, other));
        }
        for (int other : new int[] {-1, 4, 10, BIG, SMALL}) {
            refuse("cell " + other, -2, o -> o.units(other, 0));
        }
    }

    private static void promiseOfCount() {
        says("23", "0 CELLS, 1 BEAMS, 2 LIMIT, 3 LATEST, 4 HAND, 5 SLOT, 6 rule, 7 sets of the FRAME, 8 STATES of the latest fewest() (without the one where nothing lacks; FULL: 5000; 0 where some CELL that needs is in no LEGAL set), 9 PLACES that have a row.");
        HopBeams x = cells(3);
        x.terms(1, 44, 5, 6);
        x.rule(1);
        x.go(7);
        needs(x, 1, 1, 1);
        x.row(3, 0, 0);
        // One beam: each of the seven sets of cells may be what lacks.
        due("fewest", x.fewest(), 3);
        long[] counts = {3, 1, 44, 5, 6, 7, 1, 3, 7, 2};
        for (int what = 0; what < counts.length; what++) {
            due("count(" + what + ")", x.count(what), counts[what]);
        }
        frame(x, 1, 2);
        needs(x, 9, 9, 9);
        x.terms(3, 100, 8, 2);
        due("they are those of the latest fewest()", x.count(8), 7);
        due("the frame's are not", x.count(7), 2);
        x.gateway(0, 0, true);
        due("none", x.fewest(), NONE);
        due("0 then", x.count(8), 0);
        x.gateway(0, 10, true);
        due("nine", x.fewest(), 9);
        due("9 .. 1 of all", x.count(8), 9);
        needs(x, 0, 0, 0);
        due("nothing lacks", x.fewest(), 0);
        due("without that one", x.count(8), 0);
        countAtFullAndEmpty();
        says("23", "NONE for others.");
        for (int other : new int[] {-1, 10, BIG, SMALL}) {
            refuse("count(" + other + ")", NONE, o -> o.count(other));
        }
    }

    private static void countAtFullAndEmpty() {
        HopBeams y = cells(10);
        needs(y, 9, 9, 9, 9, 9, 9, 9, 9, 9, 9);
        due("full", y.fewest(), -4);
        due("5000 then", y.count(8), 5000);
        HopBeams z = new HopBeams();
        for (int p = 0; p < 4; p++) {
            z.row(p, 0, 0);
            due("places", z.count(9), p + 1);
        }
        z.row(3, 1, 5);
        due("another row in its place", z.count(9), 4);
        z.row(3, 1, -1);
        due("refused", z.count(9), 4);
        z.tear(0);
        due("torn", z.count(9), 3);
    }

    private static void promiseOfGatewayOf() {
        says("24", "Of a GATEWAY: 0 ROOM, 1 whether it is UP (1, 0), 2 CELLS that are its.");
        HopBeams x = cells(10);
        due("all", x.gatewayOf(0, 2), 10);
        due("none", x.gatewayOf(1, 2), 0);
        x.gateway(1, 0, false);
        due("room", x.gatewayOf(1, 0), 0);
        due("down", x.gatewayOf(1, 1), 0);
        x.swap(9, 1);
        due("one less", x.gatewayOf(0, 2), 9);
        due("one more, beyond its room", x.gatewayOf(1, 2), 1);
        due("another's room", x.gatewayOf(2, 0), 10);
        due("another is up", x.gatewayOf(2, 1), 1);
        says("24", "-2 for others.");
        for (int other : new int[] {-1, 3, BIG, SMALL}) {
            refuse("gateway " + other, -2, o -> o.gatewayOf(other, 0));
            refuse("what " + other, -2, o -> o.gatewayOf(0, other));
        }
    }

    private static void promiseOfRow() {
        says("25", "A PLACE has a row of n numbers of a WIDTH, all 0 (in place of another one): 0.");
        HopBeams x = cells(2);
        for (int p = 0; p < 4; p++) {
            for (int width = 0; width < 4; width++) {
                lay(x, p, width, 1, 2, 3);
                due("shorter", x.row(p, width, 2), 0);
                dueRow(x, p, 0, 0);
                due("behind it", x.write(p, 2, 1), -6);
                due("longer", x.row(p, width, 3), 0);
                dueRow(x, p, 0, 0, 0);
            }
        }
        due("no numbers", x.row(0, 0, 0), 0);
        due("it has a row", x.frameOf(0), -8);
        due("the most", x.row(0, 3, 60), 0);
        due("the last", x.write(0, 59, 1), 0);
        says("25", "-2: there is no such PLACE or WIDTH, or n is above 60;");
        bounds("place", 0, 3, -2, (o, v) -> o.row(v, 2, 3));
        bounds("width", 0, 3, -2, (o, v) -> o.row(1, v, 3));
        for (int above : new int[] {61, BIG}) {
            refuse("n is " + above, -2, o -> o.row(1, 2, above));
            refuse("n is " + above + " where nothing is", -2, o -> o.row(3, 2, above));
        }
        refuse("no place, n below 0", -2, o -> o.row(4, 2, -1));
        refuse("no width, n below 0", -2, o -> o.row(1, 4, -1));
        says("25", "-3, and the PLACE stays: n is below 0.");
        for (int below : new int[] {-1, -60, SMALL}) {
            refuse("n is " + below, -3, o -> o.row(1, 2, below));
            refuse("n is " + below + " where nothing is", -3, o -> o.row(3, 2, below));
        }
        HopBeams y = rich();
        due("n is 0", y.row(1, 2, 0), 0);
    }

    private static void promiseOfTear() {
        says("26", "The PLACE has nothing: true;");
        HopBeams x = cells(1);
        for (int p = 0; p < 4; p++) {
            lay(x, p, 0, 1);
            x.frameOf(p);
            due("tear", x.tear(p), true);
            due("nothing", x.frameOf(p), -5);
            due("write", x.write(p, 0, 1), -5);
            due("what was taken from it stays", x.frame(0), 1);
            x.row(p, 0, 0);
            due("a row of no numbers", x.tear(p), true);
            due("nothing", x.frameOf(p), -5);
            x.row(p, 0, 1);
            dueRow(x, p, 0);
            x.tear(p);
        }
        says("26", "false, if it had nothing, or there is none such.");
        refuse("never a row", 0, o -> bit(o.tear(3)));
        refuse("again", 0, o -> o.tear(0), o -> bit(o.tear(0)));
        for (int none : new int[] {-1, 4, BIG, SMALL}) {
            refuse("place " + none, 0, o -> bit(o.tear(none)));
        }
    }

    private static void promiseOfWrite() {
        says("27", "Number i of the PLACE's row is v, cut to its WIDTH: 0.");
        int[] bits = {8, 16, 32};
        for (int width = 0; width < 3; width++) {
            long wrap = 1L << bits[width];
            dueNumber(width, wrap, 0);
            dueNumber(width, wrap + 9, 9);
            dueNumber(width, -wrap + 9, 9);
            dueNumber(width, 5 * wrap + 100, 100);
            dueNumber(width, Long.MIN_VALUE, 0);
            dueNumber(width, Long.MIN_VALUE + 7, 7);
            dueNumber(width, wrap / 2, -4);
            dueNumber(width, wrap - 1, -4);
            dueNumber(width, -1, -4);
            dueNumber(width, -wrap / 2, -4);
            dueNumber(width, Long.MAX_VALUE, -4);
        }
        dueNumber(0, 127, 127);
        dueNumber(0, -129, 127);
        dueNumber(1, 128, 128);
        dueNumber(1, 32767, 32767);
        dueNumber(1, -32769, 32767);
        dueNumber(2, 32768, 32768);
        dueNumber(2, 65536, 65536);
        dueNumber(3, 1L << 32, -4);
        dueNumber(3, Long.MIN_VALUE, -4);
        HopBeams x = cells(4);
        lay(x, 1, 1, 5, 6, 7);
        due("one alone", x.write(1, 1, 8), 0);
        dueRow(x, 1, 5, 8, 7);
        says("27", "-2: there is no such PLACE;");
        for (int none : new int[] {-1, 4, BIG, SMALL}) {
            refuse("place " + none, -2, o -> o.write(none, 0, 1));
        }
        says("27", "-5: it has nothing;");
        refuse("never a row", -5, o -> o.write(3, 0, 1));
        refuse("never a row, no such number", -5, o -> o.write(3, -1, 1));
        refuse("torn", -5, o -> o.tear(1), o -> o.write(1, 0, 9));
        says("27", "-6: there is no such number.");
        for (int none : new int[] {-1, 7, 8, 60, BIG, SMALL}) {
            refuse("number " + none + " of seven", -6, o -> o.write(1, none, 9));
        }
        refuse("number 0 of none", -6, o -> o.write(2, 0, 9));
        HopBeams y = rich();
        due("number 6 of seven", y.write(1, 6, 9), 0);
    }

    private static void promiseOfPaste() {
        says("28", "So many numbers of a PLACE's row, from one on, are put to another one's (or its own), from one on, as they were: 0.");
        HopBeams x = cells(4);
        for (int width = 0; width < 4; width++) {
            lay(x, 0, width, 1, 2, 3, 4, 5);
            lay(x, 1, width, 9, 8, 7);
            due("one", x.paste(0, 4, 1, 0, 1), 0);
            dueRow(x, 1, 5, 8, 7);
            due("to the end", x.paste(0, 0, 1, 1, 2), 0);
            dueRow(x, 1, 5, 1, 2);
            due("a whole row", x.paste(1, 0, 0, 2, 3), 0);
            dueRow(x, 0, 1, 2, 5, 1, 2);
            dueRow(x, 1, 5, 1, 2);
        }
        lay(x, 0, 1, 1, 2, 3, 4, 5);
        due("its own, upwards", x.paste(0, 0, 0, 1, 4), 0);
        dueRow(x, 0, 1, 1, 2, 3, 4);
        lay(x, 0, 1, 1, 2, 3, 4, 5);
        due("its own, downwards", x.paste(0, 1, 0, 0, 4), 0);
        dueRow(x, 0, 2, 3, 4, 5, 5);
        due("its own, to where they are", x.paste(0, 0, 0, 0, 5), 0);
        dueRow(x, 0, 2, 3, 4, 5, 5);
        due("none", x.paste(0, 2, 0, 3, 0), 0);
        due("none at the end", x.paste(0, 5, 0, 5, 0), 0);
        dueRow(x, 0, 2, 3, 4, 5, 5);
        due("60", x.row(2, 0, 60), 0);
        due("60", x.row(3, 0, 60), 0);
        x.write(2, 59, 7);
        due("all 60", x.paste(2, 0, 3, 0, 60), 0);
        due("the last to the first", x.paste(3, 59, 3, 0, 1), 0);
        x.frameOf(3);
        due("it came over", x.frame(0), 7);
        refusedPastes();
    }

    private static void refusedPastes() {
        says("28", "-2: there is no such PLACE;");
        for (int none : new int[] {-1, 4, BIG, SMALL}) {
            refuse("from " + none, -2, o -> o.paste(none, 0, 0, 0, 1));
            refuse("to " + none, -2, o -> o.paste(0, 0, none, 0, 1));
            refuse("from nothing to " + none, -2, o -> o.paste(3, 0, none, 0, 1));
        }
        says("28", "-5: one has nothing;");
        refuse("from nothing", -5, o -> o.paste(3, 0, 0, 0, 1));
        refuse("to nothing", -5, o -> o.paste(0, 0, 3, 0, 1));
        refuse("from nothing to nothing", -5, o -> o.paste(3, 0, 3, 0, 0));
        refuse("to nothing, below 0", -5, o -> o.paste(0, -1, 3, 0, 1));
        says("28", "-7: they are not of one WIDTH;");
        refuse("1 byte to 8", -7, o -> o.paste(0, 0, 1, 0, 1));
        refuse("8 bytes to 1", -7, o -> o.paste(1, 0, 0, 0, 1));
        refuse("none of them", -7, o -> o.paste(0, 0, 1, 0, 0));
        refuse("beyond the row", -7, o -> o.paste(0, 9, 1, 0, 9));
        for (int a = 0; a < 4; a++) {
            for (int b = 0; b < 4; b++) {
                HopBeams x = new HopBeams();
                x.row(0, a, 1);
                x.row(1, b, 1);
                due("width " + a + " to " + b, x.paste(0, 0, 1, 0, 1), a == b ? 0 : -7);
            }
        }
        says("28", "-6, and nothing happens: some are beyond their rows, or a place or n is below 0.");
        // Rows of five and of three numbers.
        int[][] beyond = {{0, 0, 4}, {3, 0, 3}, {5, 0, 1}, {0, 1, 3}, {0, 3, 1}, {6, 0, 0}, {0, 4, 0}, {-1, 0, 1},
            {0, -1, 1}, {0, 0, -1}, {-1, 0, 0}, {0, -1, 0}, {5, 3, -1}, {BIG, 0, 1}, {0, BIG, 1}, {0, 0, BIG},
            {1, 0, BIG}, {0, 1, BIG}, {BIG, BIG, BIG}, {SMALL, 0, 1}, {0, SMALL, 1}, {0, 0, SMALL},
            {SMALL, SMALL, SMALL}, {BIG, 0, SMALL}, {0, BIG, SMALL}, {SMALL, 0, BIG}, {1, 1, SMALL}};
        for (int[] b : beyond) {
            refuse("paste(0, " + b[0] + ", 2, " + b[1] + ", " + b[2] + ")", -6, o -> lay(o, 2, 0, 1, 3, 5),
                    o -> o.paste(0, b[0], 2, b[1], b[2]));
        }
        refuse("its own", -6, o -> o.paste(0, 0, 0, 1, 5));
        refuse("its own", -6, o -> o.paste(0, 1, 0, 0, 5));
        refuse("one of none", -6, o -> o.paste(2, 0, 2, 0, 1));
    }

    public static void main(String[] args) throws IOException {
        promiseOfNew();
        promiseOfTerms();
        promiseOfCell();
        promiseOfForbid();
        promiseOfRain();
        promiseOfGateway();
        promiseOfSwap();
        promiseOfNeeds();
        promiseOfAsks();
        promiseOfLegal();
        promiseOfSets();
        promiseOfFewest();
        noFewest();
        fullFewest();
        promiseOfFrame();
        promiseOfFrameOf();
        refusedFrames();
        promiseOfProof();
        promiseOfWays();
        promiseOfDigit();
        promiseOfRule();
        promiseOfGo();
        promiseOfLit();
        promiseOfCellOf();
        promiseOfUnits();
        promiseOfCount();
        promiseOfGatewayOf();
        promiseOfRow();
        promiseOfTear();
        promiseOfWrite();
        promiseOfPaste();
        List<String> names = new ArrayList<>();
        for (int promise = 1; promise <= 28; promise++) {
            names.add(Integer.toString(promise));
        }
        end(names);
    }
}
