import java.io.IOException;
import java.util.List;

/** The document's terms I to IV, sentence by sentence, at their edges. */
public final class TermsEdgeTest extends Sentences {
    private static void allCallsOfAnObject() {
        says("What it is", "An object is used for at most 512 calls after it has been made;");
        HopBeams x = new HopBeams();
        for (int c = 0; c < 10; c++) {
            x.cell(1, 1000, 9, c % 3);
        }
        x.terms(4, 1000, 20, 9);
        needs(x, 9, 9, 9, 9, 9, 9, 9, 9, 9, 9);
        asks(x, 9, 9, 9, 9, 9, 9, 9, 9, 9, 9);
        x.rule(1);
        for (int calls = 36; calls < 500; calls += 4) {
            due("fewest", x.fewest(), -4);
            due("ways", x.ways(24), 63);
            due("sets", x.sets(), 386);
            due("proof", x.proof(0), 23);
        }
        for (int k = 1; k <= 12; k++) {
            due("go", x.go(200), 200 * k);
        }
    }

    private static void termsOfCells() {
        says("I", "CELLS 0 .., 10 at most;");
        HopBeams x = cells(10);
        due("count(0)", x.count(0), 10);
        due("an eleventh", x.cell(10, 10, 1, 0), -3);
        due("count(0)", x.count(0), 10);
        due("its power", x.cellOf(10, 0), -2);

        says("I", "a set of CELLS is a number (bit c for CELL c).");
        due("legal(512)", x.legal(512), 1);
        due("legal(1023)", x.legal(1023), 0);
        x.forbid(9, 0, true);
        due("of 0", x.cellOf(0, 10), 512);
        due("of 9", x.cellOf(9, 10), 1);
        due("legal(513)", x.legal(513), 0);
        frame(x, 512, 1);
        dueLit(x, 512);
        due("9 was lit", x.cellOf(9, 9), 1);
        due("0 was not", x.cellOf(0, 9), 0);

        says("I", "Each has a POWER, a RATE, a CLASS, a GATEWAY (0 .. 2), RAIN (0 at first), a NEED and an ASK (0 at first).");
        HopBeams y = cells(1);
        needs(y, 7);
        asks(y, 8);
        y.rain(0, 2);
        due("cell", y.cell(7, 13, 5, 2), 1);
        long[] first = {7, 13, 2, 0, 0, 0, 0, NONE, 0, 0, 0, 0, 5};
        for (int what = 0; what < first.length; what++) {
            due("cellOf(1, " + what + ")", y.cellOf(1, what), first[what]);
        }
    }

    private static void duePower(int power, int rain, int now) {
        HopBeams x = oneCell(power, 1);
        x.rain(0, rain);
        due("power " + power + " in rain " + rain, x.cellOf(0, 0), now);
    }

    private static void dueRate(int rate, int rain, int now) {
        HopBeams x = oneCell(1, rate);
        x.rain(0, rain);
        due("rate " + rate + " in rain " + rain, x.cellOf(0, 1), now);
        asks(x, 1000);
        frame(x, 1);
        dueLit(x, 1);
        due("sent at rate " + rate + " in rain " + rain, x.units(0, 1), now);
    }

    private static void termsOfRain() {
        says("I", "POWER now is POWER * (2 + RAIN) / 2 (cut);");
        duePower(1, 0, 1);
        duePower(1, 1, 1);
        duePower(1, 2, 2);
        duePower(2, 1, 3);
        duePower(99, 1, 148);
        duePower(100, 1, 150);
        duePower(100, 2, 200);

        says("I", "RATE now RATE without RAIN, RATE / 2 (cut) in RAIN 1, 0 in RAIN 2.");
        dueRate(1, 0, 1);
        dueRate(1, 1, 0);
        dueRate(1, 2, 0);
        dueRate(3, 1, 1);
        dueRate(999, 1, 499);
        dueRate(1000, 0, 1000);
        dueRate(1000, 1, 500);
        dueRate(1000, 2, 0);
    }

    private static void legalByTerms() {
        says("I", "A set is LEGAL now if no two of its CELLS are FORBIDDEN together,");
        HopBeams x = cells(3, 0, 2);
        x.terms(3, 100, 8, 2);
        due("the pair", x.legal(5), 0);
        due("the pair and one between", x.legal(7), 0);
        due("one of it", x.legal(1), 1);
        due("the other of it", x.legal(4), 1);
        due("with the one between", x.legal(3), 1);
        due("with the one between", x.legal(6), 1);
        x.forbid(0, 2, false);
        due("no more a pair", x.legal(7), 1);

        says("I", "there are at most so many as BEAMS,");
        HopBeams y = cells(5);
        for (int beams = 1; beams <= 4; beams++) {
            y.terms(beams, 1000, 8, 2);
            due(beams + " cells", y.legal((1 << beams) - 1), 1);
            due(beams + " cells of the greatest numbers", y.legal(31 & ~((1 << 5 - beams) - 1)), 1);
            due((beams + 1) + " cells", y.legal((1 << beams + 1) - 1), 0);
        }

        says("I", "their POWERS now are together not above LIMIT,");
        HopBeams z = new HopBeams();
        z.cell(99, 1, 1, 0);
        z.cell(1, 1, 1, 1);
        due("at the limit", z.legal(3), 1);
        z.rain(1, 1);
        due("at the limit: 1 * 3 / 2 is cut", z.legal(3), 1);
        z.rain(1, 2);
        due("one above it", z.legal(3), 0);
        z.terms(2, 101, 8, 2);
        due("at the limit", z.legal(3), 1);
        z.terms(2, 98, 8, 2);
        due("one cell above it", z.legal(1), 0);
        due("the other below it", z.legal(2), 1);
        z.terms(2, 1, 8, 2);
        due("2 above 1", z.legal(2), 0);
        due("the empty one", z.legal(0), 1);
        z.rain(1, 0);
        due("1 at the limit 1", z.legal(2), 1);
    }

    private static void legalByGateways() {
        says("I", "of no GATEWAY there are more than its ROOM,");
        HopBeams x = cells(3);
        x.cell(10, 10, 1, 1);
        x.terms(4, 1000, 8, 2);
        due("ten for three", x.legal(15), 1);
        x.gateway(0, 3, true);
        due("three for three", x.legal(15), 1);
        x.gateway(0, 2, true);
        due("two for three", x.legal(7), 0);
        due("two for two", x.legal(6), 1);
        due("two for two, and one of another", x.legal(14), 1);
        x.gateway(0, 0, true);
        due("none for one", x.legal(1), 0);
        due("of the other", x.legal(8), 1);
        due("both", x.legal(9), 0);
        due("the empty one", x.legal(0), 1);

        says("I", "all their GATEWAYS are UP,");
        for (int g = 0; g < 3; g++) {
            HopBeams y = new HopBeams();
            for (int c = 0; c < 3; c++) {
                y.cell(1, 1, 1, c);
            }
            y.terms(3, 100, 8, 2);
            y.gateway(g, 10, false);
            for (int set = 0; set < 8; set++) {
                due("gateway " + g + " is down: legal(" + set + ")", y.legal(set), (set >> g & 1) == 1 ? 0 : 1);
            }
            y.gateway(g, 10, true);
            due("up again", y.legal(7), 1);
        }

        says("I", "and none is being handed over.");
        HopBeams z = cells(2);
        z.swap(1, 2);
        due("it alone", z.legal(2), 0);
        due("with another", z.legal(3), 0);
        due("another", z.legal(1), 1);
        due("the empty one", z.legal(0), 1);
        due("sets", z.sets(), 2);
    }

    private static void handedOver() {
        says("I", "Handed over is a CELL for HAND SLOTS that go by (with 0 not at all);");
        for (int hand = 0; hand < 10; hand++) {
            HopBeams x = cells(1);
            x.terms(2, 100, 8, hand);
            frame(x, 1);
            x.swap(0, 1);
            for (int gone = 0; gone < hand; gone++) {
                due("yet", x.cellOf(0, 3), hand - gone);
                due("legal", x.legal(1), 0);
                due("swap", x.swap(0, 2), -7);
                dueLit(x, 0);
            }
            due("no more", x.cellOf(0, 3), 0);
            due("legal", x.legal(1), 1);
            dueLit(x, 1);
            due("not below 0", x.cellOf(0, 3), 0);
            due("swap", x.swap(0, 2), 0);
        }

        says("I", "its GATEWAY is the new one at once.");
        HopBeams y = cells(2);
        y.gateway(0, 1, true);
        due("room for one", y.legal(3), 0);
        y.terms(2, 100, 8, 0);
        y.swap(1, 2);
        due("its gateway", y.cellOf(1, 2), 2);
        due("room for one each", y.legal(3), 1);
        y.terms(2, 100, 8, 9);
        y.swap(1, 1);
        due("its gateway", y.cellOf(1, 2), 1);
        due("cells of the new one", y.gatewayOf(1, 2), 1);
        due("cells of the former one", y.gatewayOf(2, 2), 0);
    }

    private static void fewestRows() {
        says("II", "FEWEST: so few LEGAL sets, one behind the other, that each CELL is in as many as it needs.");
        HopBeams ring = cells(5, 0, 1, 1, 2, 2, 3, 3, 4, 4, 0);
        needs(ring, 1, 1, 1, 1, 1);
        due("a ring of five", ring.fewest(), 3);
        needs(ring, 2, 2, 2, 2, 2);
        due("twice", ring.fewest(), 5);
        int[] lit = new int[5];
        for (int i = 0; i < 5; i++) {
            due("a legal set", ring.legal(ring.frame(i)), 1);
            for (int c = 0; c < 5; c++) {
                lit[c] += ring.frame(i) >> c & 1;
            }
        }
        for (int c = 0; c < 5; c++) {
            due("cell " + c, lit[c], 2);
        }

        says("II", "STATES are what each CELL lacks yet (not below 0), from NEEDS on;");
        HopBeams one = cells(1);
        needs(one, 9);
        due("nine", one.fewest(), 9);
        due("9 .. 1", one.count(8), 9);
        dueFrame(one, 1, 1, 1, 1, 1, 1, 1, 1, 1);
        needs(one, 1);
        due("one", one.fewest(), 1);
        due("only the first", one.count(8), 1);
        HopBeams two = cells(2);
        needs(two, 1, 3);
        due("1 3, 0 2, 0 1", two.fewest(), 3);
        dueFrame(two, 3, 2, 2);
        due("states", two.count(8), 3);
    }

    private static void fewestSteps() {
        says("II", "from a STATE on go the LEGAL sets of CELLS that lack something, those that are no part of another such set, as numbers, rising.");
        HopBeams x = cells(3);
        needs(x, 1, 1, 1);
        due("by 3, 5, 6", x.fewest(), 2);
        due("and not by 1, 2, 4", x.count(8), 4);
        dueFrame(x, 3, 4);
        needs(x, 1, 0, 1);
        due("by 5", x.fewest(), 1);
        due("not by what lacks nothing", x.count(8), 1);
        dueFrame(x, 5);
        HopBeams y = new HopBeams();
        y.terms(3, 100, 8, 2);
        y.cell(60, 1, 1, 0);
        y.cell(60, 1, 1, 0);
        y.cell(40, 1, 1, 0);
        needs(y, 1, 1, 1);
        due("by 5 and 6: a part only of what is not legal", y.fewest(), 2);
        due("states", y.count(8), 3);
        dueFrame(y, 5, 2);

        says("II", "STATES are gone through by how many sets lead to them, then as they were come to;");
        // 3 is the first set, but what it leaves is a forbidden pair; 5 and 10 do.
        HopBeams z = cells(4, 2, 3, 0, 3, 1, 2);
        needs(z, 1, 1, 1, 1);
        due("not the first set on and on", z.fewest(), 2);
        dueFrame(z, 5, 10);
        due("first, by 3, 5, 10, then by 4, 8", z.count(8), 6);

        says("II", "the row that is told first leads to where nothing lacks.");
        HopBeams w = cells(4);
        needs(w, 1, 1, 1, 1);
        due("of 3 12, 5 10, 6 9 and these turned round", w.fewest(), 2);
        dueFrame(w, 3, 12);
        HopBeams v = cells(3, 0, 1);
        needs(v, 2, 1, 3);
        due("of 5 5 6, 5 6 5, 6 5 5", v.fewest(), 3);
        dueFrame(v, 5, 5, 6);
    }

    private static void fewestEdges() {
        says("II", "FULL it is if more than 5000 unlike STATES (with the first) are come to ahead of that one.");
        // Behind 3 and 12 stand 1 and 3 alone, by 5, which would lead to two states more.
        HopBeams ahead = cells(4, 0, 3, 1, 2, 1, 3);
        needs(ahead, 1, 1, 1, 1);
        due("3 12", ahead.fewest(), 2);
        due("what would come behind it is not come to", ahead.count(8), 4);
        HopBeams less = cells(4);
        less.terms(1, 100, 8, 2);
        needs(less, 9, 9, 9, 4);
        due("10 * 10 * 10 * 5 - 1", less.fewest(), 31);
        due("states", less.count(8), 4999);
        HopBeams just = cells(5, 0, 1, 0, 4, 1, 4, 2, 4);
        needs(just, 8, 8, 6, 6, 9);
        due("just 5000", just.fewest(), 25);
        due("states", just.count(8), 5000);
        HopBeams over = cells(5, 0, 1, 0, 4, 2, 4);
        needs(over, 6, 8, 7, 5, 6);
        due("one more", over.fewest(), -4);
        due("states", over.count(8), 5000);
        HopBeams most = cells(10);
        most.terms(4, 1000, 8, 2);
        needs(most, 9, 9, 9, 9, 9, 9, 9, 9, 9, 9);
        due("far more", most.fewest(), -4);
        due("states", most.count(8), 5000);

        says("II", "(Nothing lacks at first: 0.)");
        HopBeams none = new HopBeams();
        due("no cells", none.fewest(), 0);
        due("states", none.count(8), 0);
        dueFrame(none);
        HopBeams barred = cells(2);
        frame(barred, 1, 2);
        barred.gateway(0, 0, false);
        due("no cell can be lit, none needs it", barred.fewest(), 0);
        dueFrame(barred);
        due("states", over.count(8), 5000);
        needs(over, 0, 0, 0, 0, 0);
        due("behind a full one", over.fewest(), 0);
        due("states", over.count(8), 0);
    }

    private static void proofs() {
        says("II", "PROOF: all NEEDS times their prices, together, by the greatest sum of prices of a LEGAL set, rounded up;");
        HopBeams x = cells(3);
        needs(x, 3, 3, 2);
        due("8 by 2", proofBy(x, 1, 1, 1), 4);
        due("9 by 3", proofBy(x, 1, 0, 3), 3);
        due("10 by 4", proofBy(x, 1, 1, 2), 4);
        due("11 by 4", proofBy(x, 2, 1, 1), 4);
        due("8000000 by 2000000", proofBy(x, 1000000, 1000000, 1000000), 4);
        due("7000001 by 2000000", proofBy(x, 1000000, 1000000 - 333333, 1000000), 4);
        x.forbid(0, 1, true);
        x.forbid(1, 2, true);
        x.forbid(0, 2, true);
        due("8 by 1", proofBy(x, 1, 1, 1), 8);
        x.rain(2, 2);
        x.terms(1, 19, 8, 2);
        due("the dearest is in no legal set: 21 by 1", proofBy(x, 1, 0, 9), 21);
        needs(x, 0, 0, 0);
        due("0 by 1", proofBy(x, 1, 1, 1), 0);
        HopBeams most = cells(10);
        most.terms(1, 100, 8, 2);
        needs(most, 9, 9, 9, 9, 9, 9, 9, 9, 9, 9);
        long m = 1000000;
        due("the most", proofBy(most, m, m, m, m, m, m, m, m, m, m), 90);
        due("only the last: 9 by 1", proofBy(most, 0, 0, 0, 0, 0, 0, 0, 0, 0, 1), 9);
        due("108 by 4 of the last", proofBy(most, 1, 1, 1, 1, 1, 1, 1, 1, 0, 4), 27);
        most.gateway(1, 10, false);
        most.terms(1, 100, 8, 0);
        for (int c = 1; c < 10; c++) {
            most.swap(c, 1);
        }
        due("only the first: 9 by 1", proofBy(most, 1, 0, 0, 0, 0, 0, 0, 0, 0, 0), 9);
        due("81000009 by 1", proofBy(most, 1, m, m, m, m, m, m, m, m, m), 81000009);
    }

    private static void proofsByNothing() {
        says("II", "no bound if that sum is 0 and the first is not;");
        HopBeams y = cells(2);
        needs(y, 1, 0);
        y.swap(0, 1);
        due("1 by 0", proofBy(y, 1, 0), NONE);
        due("1 by 1", proofBy(y, 1, 1), 1);
        y.gateway(0, 0, true);
        due("1 by 0: the empty set alone", proofBy(y, 1, 1), NONE);

        says("II", "0 if both are 0.");
        due("all prices are 0", proofBy(y, 0, 0), 0);
        due("what has a price needs nothing", proofBy(y, 0, 5), 0);
        HopBeams none = new HopBeams();
        due("no cells", proofBy(none), 0);
    }

    private static void waysOfRows() {
        says("II", "WAYS: how many rows of so many LEGAL sets (empty ones too, the same one as often as one likes) there are in which each CELL is at least once.");
        HopBeams none = new HopBeams();
        dueWays(none, 0, "1");
        dueWays(none, 1, "1");
        dueWays(none, 24, "1");
        // One cell: 2^n - 1.
        HopBeams one = cells(1);
        dueWays(one, 0, "0");
        dueWays(one, 1, "1");
        dueWays(one, 3, "7");
        dueWays(one, 4, "15");
        dueWays(one, 24, "16777215");
        // Two cells: (2^n - 1)^2.
        HopBeams two = cells(2);
        dueWays(two, 0, "0");
        dueWays(two, 1, "1");
        dueWays(two, 14, "268402689");
        dueWays(two, 15, "1073676289");
        // Never together: 3^n - 2 * 2^n + 1.
        two.forbid(0, 1, true);
        dueWays(two, 1, "0");
        dueWays(two, 2, "2");
        dueWays(two, 3, "12");
        two.swap(1, 1);
        dueWays(two, 24, "0");
        HopBeams many = cells(10);
        many.terms(1, 100, 8, 2);
        dueWays(many, 9, "0");
        dueWays(many, 10, "3628800");
        many.terms(4, 1000, 8, 2);
        dueWays(many, 2, "0");
        dueWays(many, 24, "119637554742610459402924004122340110438295940125160620979739500");
    }

    private static void unitsThatCome() {
        says("III", "A SLOT goes by: (1) of each CELL as many units come as it ASKS.");
        HopBeams x = cells(3);
        asks(x, 0, 1, 1000);
        x.go(1);
        due("none", x.units(0, 0), 0);
        due("one", x.units(1, 0), 1);
        due("the most", x.units(2, 0), 1000);
        x.go(200);
        due("none", x.units(0, 0), 0);
        due("one each", x.units(1, 0), 201);
        due("the most each", x.units(2, 0), 201000);
        HopBeams y = cells(1);
        asks(y, 5);
        frame(y, 1);
        y.go(1);
        due("they come ahead of the light", y.units(0, 1), 5);
        due("none waits", y.cellOf(0, 6), 0);
        HopBeams most = cells(1);
        asks(most, 1000);
        for (int k = 0; k < 100; k++) {
            most.go(200);
        }
        due("all that can come", most.units(0, 0), 20000000);
        due("eight slots old", most.units(0, 2), 20000000 - 7000);
        due("wait", most.cellOf(0, 6), 7000);
    }

    private static void setOfTheFrame() {
        says("III", "(2) The set that is lit: by rule 0 the FRAME's set of the SLOT (modulo how many it has; the empty one without a FRAME), without its CELLS of the greatest numbers, one by one, till it is LEGAL now;");
        HopBeams x = cells(3);
        dueLit(x, 0, 0);
        frame(x, 1, 2, 4);
        dueLit(x, 4, 1, 2, 4, 1);
        x.go(196);
        due("203 modulo 3", x.count(5), 203);
        dueLit(x, 4, 1);
        frame(x, 6, 3);
        dueLit(x, 3, 6, 3);
        frame(x, 5);
        dueLit(x, 5, 5);
        frame(x, 0, 0, 0, 0, 0, 0, 0, 0, 0, 0, 0, 1);
        dueLit(x, 0, 0, 0, 0, 0, 1, 0);
        due("nothing lacks", x.fewest(), 0);
        dueLit(x, 0);
        HopBeams y = cells(4);
        frame(y, 15);
        dueLit(y, 3);
        y.terms(4, 1000, 8, 1);
        dueLit(y, 15);
        y.swap(3, 1);
        dueLit(y, 7, 15);
        y.swap(1, 1);
        dueLit(y, 1, 15);
        y.swap(0, 1);
        dueLit(y, 0, 15);
        y.forbid(1, 2, true);
        dueLit(y, 3);
        y.terms(4, 9, 8, 1);
        dueLit(y, 0);
        HopBeams z = cells(10);
        frame(z, 1023, 768, 513);
        dueLit(z, 3, 768, 513);
        z.swap(9, 1);
        dueLit(z, 3, 256);
    }

    private static void setOfTheWeight() {
        says("III", "by rule 1 of all LEGAL sets the one of the greatest WEIGHT, of several the least as a number:");
        HopBeams x = cells(3);
        x.rule(1);
        dueLit(x, 0);
        asks(x, 0, 1, 0);
        dueLit(x, 2);
        asks(x, 1, 1, 1);
        dueLit(x, 3, 5, 3);
        HopBeams even = cells(3, 0, 1);
        even.rule(1);
        even.terms(1, 100, 1, 0);
        asks(even, 4, 4, 4);
        dueLit(even, 1);
        even.gateway(0, 0, true);
        dueLit(even, 0);
        HopBeams ten = cells(10);
        ten.rule(1);
        asks(ten, 0, 0, 0, 0, 0, 0, 0, 0, 0, 1);
        dueLit(ten, 512);
        asks(ten, 1, 1, 1, 1, 1, 1, 1, 1, 1, 9);
        dueLit(ten, 513);
    }

    private static void weight() {
        says("III", "WEIGHT is the sum over its CELLS of CLASS times the units it could send.");
        HopBeams y = new HopBeams();
        y.terms(1, 100, 1, 0);
        y.cell(10, 10, 1, 0);
        y.cell(10, 2, 4, 0);
        y.rule(1);
        asks(y, 8, 1000);
        dueLit(y, 1);
        asks(y, 7, 1000);
        dueLit(y, 2);
        asks(y, 1000, 1);
        dueLit(y, 1);
        y.rain(0, 1);
        asks(y, 1000, 2);
        dueLit(y, 2);
        y.rain(1, 1);
        dueLit(y, 1);
        y.rain(0, 2);
        dueLit(y, 2);
        y.rain(1, 2);
        dueLit(y, 0);
        // Three that weigh 3 each are more than one that weighs 8.
        HopBeams z = new HopBeams();
        z.terms(3, 100, 1, 0);
        z.cell(100, 10, 8, 0);
        for (int c = 1; c < 4; c++) {
            z.cell(30, 10, 3, 0);
        }
        z.rule(1);
        asks(z, 1, 1, 1, 1);
        dueLit(z, 14);
        z.terms(2, 100, 1, 0);
        dueLit(z, 1);
    }

    private static void sending() {
        says("III", "(3) Each CELL that is lit sends the units that wait, the oldest first, at most RATE now.");
        HopBeams x = cells(2);
        asks(x, 6, 6);
        x.go(2);
        frame(x, 1);
        x.go(1);
        due("the rate of 18", x.units(0, 1), 10);
        due("8 wait", x.cellOf(0, 6), 8);
        due("the oldest went, and four behind them", x.cellOf(0, 7), 2);
        due("what is dark sends nothing", x.units(1, 1), 0);
        due("its oldest", x.cellOf(1, 7), 3);
        asks(x, 2, 0);
        x.go(1);
        due("10 of 10", x.units(0, 1), 20);
        due("none waits", x.cellOf(0, 6), 0);
        due("so none is the oldest", x.cellOf(0, 7), NONE);
        asks(x, 11, 0);
        x.go(1);
        due("10 of 11", x.units(0, 1), 30);
        due("one waits", x.cellOf(0, 6), 1);
        due("one slot old", x.cellOf(0, 7), 1);
        x.rain(0, 1);
        x.go(1);
        due("5 of 12", x.units(0, 1), 35);
        x.rain(0, 2);
        x.go(1);
        due("none of 18", x.units(0, 1), 35);
        due("lit all the same", x.cellOf(0, 9), 5);
    }

    private static void growingOld() {
        says("III", "(4) Units that wait are one SLOT older; those that are LATEST SLOTS old then are lost.");
        for (int latest = 1; latest <= 20; latest++) {
            HopBeams x = cells(1);
            x.terms(1, 100, latest, 0);
            asks(x, 3);
            x.go(1);
            asks(x, 0);
            for (int age = 1; age < latest; age++) {
                due("latest " + latest + ": oldest", x.cellOf(0, 7), age);
                due("latest " + latest + ": lost", x.units(0, 2), 0);
                x.go(1);
            }
            due("latest " + latest + ": none waits", x.cellOf(0, 6), 0);
            due("latest " + latest + ": no oldest", x.cellOf(0, 7), NONE);
            due("latest " + latest + ": all are lost", x.units(0, 2), 3);
        }
        HopBeams y = cells(1);
        y.terms(1, 100, 1, 0);
        asks(y, 12);
        frame(y, 1);
        y.go(1);
        due("they are sent ahead of that", y.units(0, 1), 10);
        due("the rest is lost", y.units(0, 2), 2);

        says("III", "(5) Of each that is handed over a SLOT is gone. The SLOT is one more.");
        HopBeams z = cells(2);
        z.terms(2, 100, 8, 3);
        z.swap(0, 1);
        z.go(1);
        z.swap(1, 1);
        due("two yet", z.cellOf(0, 3), 2);
        due("three yet", z.cellOf(1, 3), 3);
        due("slot", z.count(5), 1);
        z.go(2);
        due("none", z.cellOf(0, 3), 0);
        due("one yet", z.cellOf(1, 3), 1);
        due("slot", z.count(5), 3);
        frame(z, 3);
        dueLit(z, 1, 3);
        z.swap(0, 0);
        z.go(200);
        due("not below 0", z.cellOf(0, 3), 0);
        due("within these 200 they are there", z.lit(), 3);
        due("lit: slots 3, 4, then 197 of 200", z.cellOf(0, 9), 199);
    }

    private static void lessLatest() {
        says("III", "(Units are 0 SLOTS old as they come. If LATEST becomes less, those that are as old or older are lost at the next (4).)");
        HopBeams x = cells(1);
        x.terms(1, 100, 20, 0);
        asks(x, 1);
        x.go(1);
        due("one slot old behind their first", x.cellOf(0, 7), 1);
        x.go(9);
        asks(x, 0);
        due("1 .. 10 slots old", x.cellOf(0, 6), 10);
        due("terms", x.terms(1, 100, 6, 0), 0);
        due("not at once", x.cellOf(0, 6), 10);
        due("the oldest", x.cellOf(0, 7), 10);
        x.go(1);
        due("5 .. 10 were", x.units(0, 2), 6);
        due("2 .. 5 stay", x.cellOf(0, 6), 4);
        due("the oldest", x.cellOf(0, 7), 5);
        x.terms(1, 100, 1, 0);
        x.terms(1, 100, 20, 0);
        x.go(1);
        due("less and more again: none", x.units(0, 2), 6);
        due("the oldest", x.cellOf(0, 7), 6);
        x.terms(1, 100, 1, 0);
        x.go(1);
        due("all", x.units(0, 2), 10);
        HopBeams y = cells(1);
        y.terms(1, 100, 20, 0);
        asks(y, 1);
        y.go(10);
        y.terms(1, 100, 1, 0);
        frame(y, 1);
        y.go(1);
        due("those that are sent ahead of it are not", y.units(0, 1), 10);
        due("one of 11 is", y.units(0, 2), 1);
    }

    private static void dueGap(int gap, long... sets) {
        HopBeams x = cells(1);
        frame(x, sets);
        x.go(sets.length);
        due("gap", x.cellOf(0, 8), gap);
    }

    private static void gaps() {
        says("III", "GAP of a CELL: SLOTS that go by one behind the other in which it is not lit (those ahead of the first light and behind the last one, too).");
        due("no slot", cells(1).cellOf(0, 8), 0);
        dueGap(1, 0);
        dueGap(0, 1);
        dueGap(0, 1, 1, 1);
        dueGap(3, 0, 0, 0, 1);
        dueGap(4, 1, 0, 0, 0, 0);
        dueGap(2, 1, 0, 0, 1, 0);
        dueGap(2, 0, 0, 1, 0, 0);
        dueGap(2, 0, 1, 0, 0, 1, 0);
        dueGap(3, 0, 0, 0, 1, 0, 0);
        HopBeams x = cells(2);
        frame(x, 3);
        x.swap(1, 1);
        x.go(1);
        x.go(1);
        due("what the frame has and is not lit; over two calls", x.cellOf(1, 8), 2);
        due("the other", x.cellOf(0, 8), 0);
        x.go(200);
        due("the longest stays", x.cellOf(1, 8), 2);
        HopBeams dark = cells(1);
        for (int k = 0; k < 100; k++) {
            dark.go(200);
        }
        due("never lit", dark.cellOf(0, 8), 20000);
        due("a new one", dark.cell(1, 1, 1, 0), 1);
        due("has none", dark.cellOf(1, 8), 0);
    }

    private static void places() {
        says("IV", "PLACES 0 .. 3 have rows of numbers of 1, 2, 4 or 8 bytes (WIDTH 0 .. 3), at most 60, or nothing.");
        HopBeams x = cells(1);
        for (int p = 0; p < 4; p++) {
            due("nothing", x.write(p, 0, 1), -5);
            due("60", x.row(p, p, 60), 0);
            due("the first", x.write(p, 0, 1), 0);
            due("the last", x.write(p, 59, 1), 0);
            due("a number more", x.write(p, 60, 1), -6);
            due("61", x.row(p, p, 61), -2);
        }
        due("four", x.count(9), 4);
        due("place 4", x.row(4, 0, 1), -2);
        due("place -1", x.row(-1, 0, 1), -2);
        dueNumber(0, 127, 127);
        dueNumber(1, 32767, 32767);
        dueNumber(2, 1000000, 1000000);
        dueNumber(3, 1000000, 1000000);
    }

    public static void main(String[] args) throws IOException {
        allCallsOfAnObject();
        termsOfCells();
        termsOfRain();
        legalByTerms();
        legalByGateways();
        handedOver();
        fewestRows();
        fewestSteps();
        fewestEdges();
        proofs();
        proofsByNothing();
        waysOfRows();
        unitsThatCome();
        setOfTheFrame();
        setOfTheWeight();
        weight();
        sending();
        growingOld();
        lessLatest();
        gaps();
        places();
        end(List.of("I", "II", "III", "IV"));
    }
}
