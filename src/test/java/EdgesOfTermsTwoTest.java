/** Terms, part 2, and what the document says in doubt of it: each sentence that names an edge, by itself. */
public final class EdgesOfTermsTwoTest {
    public static void main(String[] args) {
        joins();
        needs();
        faults();
        causes();
        speeds();
        cants();
        ends();
        likes();
        Check.done("EdgesOfTermsTwoTest");
    }

    // ---- joins

    private static void joins() {
        Check.holds("JOIN: VERSINES at the last STATION of the one and the first one of the other",
            EdgesOfTermsTwoTest::joinOfEases);
        Check.holds("JOIN: how far apart, whichever is the greater", EdgesOfTermsTwoTest::joinHasNoSign);
        Check.holds("it JUMPS, if the one is above JUMP", EdgesOfTermsTwoTest::jumpsByVersines);
        Check.holds("or the other above RAMP", EdgesOfTermsTwoTest::jumpsByHeights);
        Check.holds("JUMP at its least and its most", EdgesOfTermsTwoTest::jumpsByTheEnds);
        Check.holds("RAMP at its least and its most", EdgesOfTermsTwoTest::rampAtItsEnds);
    }

    private static void joinOfEases() {
        RailOffsets x = Scene.one(2, 2, 10, 20);
        x.piece(2, 3, 4, 5);
        // Versines 5, 10, 8, 6, 4; heights 10, 20, 15, 10, 5.
        Check.due("versines", x.join(0, 0), 2);
        Check.due("heights", x.join(0, 1), 5);
        x.set(1, 0, 1);
        Check.due("versines", x.join(0, 0), 6);
        Check.due("heights", x.join(0, 1), 15);
    }

    private static void joinHasNoSign() {
        RailOffsets x = Scene.one(1, 1, -99, 160);
        x.piece(1, 1, 99, 0);
        Check.due("versines", x.join(0, 0), 198);
        Check.due("heights", x.join(0, 1), 160);
        x.set(0, 1, 99);
        x.set(0, 2, 0);
        x.set(1, 1, -99);
        x.set(1, 2, 160);
        Check.due("versines", x.join(0, 0), 198);
        Check.due("heights", x.join(0, 1), 160);
        x.set(1, 1, 99);
        x.set(1, 2, 0);
        Check.due("versines", x.join(0, 0), 0);
        Check.due("heights", x.join(0, 1), 0);
    }

    private static void jumps(RailOffsets x, int want) {
        Check.due("join(0, 2)", x.join(0, 2), want);
        Check.due("joins", x.joins(), want);
    }

    private static void jumpsByVersines() {
        RailOffsets x = Scene.one(1, 1, 10, 0);
        x.piece(1, 1, 15, 0);
        jumps(x, 0);
        x.set(1, 1, 16);
        jumps(x, 1);
        x.set(1, 1, 5);
        jumps(x, 0);
        x.set(1, 1, 4);
        jumps(x, 1);
        x.rule(4, 6);
        jumps(x, 0);
    }

    private static void jumpsByHeights() {
        RailOffsets x = Scene.one(1, 1, 0, 30);
        x.piece(1, 1, 0, 50);
        jumps(x, 0);
        x.set(1, 2, 51);
        jumps(x, 1);
        x.set(1, 2, 10);
        jumps(x, 0);
        x.set(1, 2, 9);
        jumps(x, 1);
        x.rule(3, 21);
        jumps(x, 0);
    }

    private static void jumpsByTheEnds() {
        RailOffsets x = Scene.one(1, 1, 0, 0);
        x.piece(1, 1, 0, 0);
        x.rule(4, 0);
        jumps(x, 0);
        x.set(1, 1, -1);
        jumps(x, 1);
        x.rule(4, 99);
        x.set(1, 1, -99);
        jumps(x, 0);
        x.set(0, 1, 1);
        jumps(x, 1);
    }

    private static void rampAtItsEnds() {
        RailOffsets x = Scene.one(1, 1, 0, 0);
        x.piece(1, 1, 0, 0);
        x.rule(3, 0);
        jumps(x, 0);
        x.set(1, 2, 1);
        jumps(x, 1);
        x.set(1, 2, 160);
        x.rule(3, 159);
        jumps(x, 1);
        x.rule(3, 160);
        jumps(x, 0);
    }

    // ---- needs

    private static void needs() {
        Check.holds("NEED: s times s times VERSINE (without sign) by 1000 (cut)", EdgesOfTermsTwoTest::needIsCut);
        Check.holds("It LACKS: NEED less HEIGHT is above LACK", EdgesOfTermsTwoTest::lacks);
        Check.holds("it is TOO HIGH: HEIGHT less NEED is above EXCESS", EdgesOfTermsTwoTest::tooHigh);
        Check.holds("it is STEEP: HEIGHT is more than RAMP off that of the STATION ahead", EdgesOfTermsTwoTest::steep);
        Check.holds("(0 ahead of the first)", EdgesOfTermsTwoTest::steepAtTheFirst);
    }

    private static void needIsCut() {
        int[][] needs = {{60, 1, 3}, {60, -1, 3}, {60, 5, 18}, {10, 9, 0}, {10, 10, 1}, {10, -10, 1}, {10, 19, 1},
            {1, 99, 0}, {4, 62, 0}, {4, 63, 1}, {0, 99, 0}, {200, 0, 0}, {200, 99, 3960}, {200, -99, 3960}};
        for (int[] n : needs) {
            RailOffsets x = Scene.one(1, 1, n[1], 0);
            x.rule(5, n[0]);
            Check.due("need by " + n[0] + " of " + n[1], x.need(1, 0), n[2]);
        }
    }

    private static void lacks() {
        // By speed 100 a versine of 10 needs 100.
        int[][] rows = {{25, 75, 0}, {24, 75, 1}, {0, 100, 0}, {0, 99, 1}, {100, 0, 0}, {99, 0, 1}, {160, 0, 0}};
        for (int[] r : rows) {
            for (int bend : new int[] {10, -10}) {
                RailOffsets x = Scene.one(1, 1, bend, r[0]);
                x.rule(5, 100);
                x.rule(1, r[1]);
                Check.due("height " + r[0] + ", LACK " + r[1], x.need(1, 1), r[2]);
            }
        }
    }

    private static void tooHigh() {
        // By speed 100 a versine of 5 needs 50.
        int[][] rows = {{125, 75, 0}, {126, 75, 1}, {150, 100, 0}, {151, 100, 1}, {50, 0, 0}, {51, 0, 1}, {0, 0, 0}};
        for (int[] r : rows) {
            for (int bend : new int[] {5, -5}) {
                RailOffsets x = Scene.one(1, 1, bend, r[0]);
                x.rule(5, 100);
                x.rule(2, r[1]);
                Check.due("height " + r[0] + ", EXCESS " + r[1], x.need(1, 2), r[2]);
            }
        }
    }

    private static void steep() {
        int[][] rows = {{50, 70, 20, 0}, {50, 71, 20, 1}, {50, 30, 20, 0}, {50, 29, 20, 1}, {50, 50, 0, 0},
            {50, 51, 0, 1}, {50, 49, 0, 1}, {0, 160, 160, 0}, {0, 160, 159, 1}, {160, 0, 160, 0}, {160, 0, 159, 1}};
        for (int[] r : rows) {
            RailOffsets x = Scene.one(0, 2, 0, r[0]);
            x.piece(0, 2, 0, r[1]);
            x.rule(3, r[2]);
            Check.due("from " + r[0] + " to " + r[1], x.need(3, 3), r[3]);
            Check.due("within a piece", x.need(2, 3), 0);
            Check.due("within a piece", x.need(4, 3), 0);
        }
    }

    private static void steepAtTheFirst() {
        RailOffsets x = Scene.one(0, 1, 0, 20);
        Check.due("20 of 20", x.need(1, 3), 0);
        x.set(0, 2, 21);
        Check.due("21 of 20", x.need(1, 3), 1);
        x.rule(3, 0);
        x.set(0, 2, 0);
        Check.due("0 of 0", x.need(1, 3), 0);
        x.set(0, 2, 1);
        Check.due("1 of 0", x.need(1, 3), 1);
    }

    // ---- faults

    private static void faults() {
        Check.holds("FAULT: the first STATION of several", EdgesOfTermsTwoTest::firstOfSeveral);
        Check.holds("FAULT: the first STATION of all, and the last one alone", EdgesOfTermsTwoTest::firstAndLast);
        Check.holds("FAULT by SPEED alone", EdgesOfTermsTwoTest::faultBySpeed);
        Check.holds("WHY: 1, 2, 3 (the first of these)", EdgesOfTermsTwoTest::whyIsTheFirst);
    }

    private static void firstOfSeveral() {
        // Station 2 is steep, 4 is too high, 6 lacks: the first counts, not the first of 1, 2, 3.
        RailOffsets x = Scene.one(0, 1, 0, 0);
        x.piece(0, 2, 0, 21);
        x.piece(0, 2, 0, 76);
        x.piece(1, 1, 99, 76);
        Check.fault(x, 2, 3, 2, 4);
        x.set(1, 2, 20);
        Check.fault(x, 4, 2, 2, 3);
        x.set(2, 2, 20);
        Check.fault(x, 6, 1, 2, 2);
        x.set(3, 1, 0);
        x.set(3, 2, 40);
        Check.fault(x, -1, 0, 0, 0);
    }

    private static void firstAndLast() {
        RailOffsets x = Scene.one(1, 20, 99, 0);
        Check.fault(x, 1, 1, 2, 2);
        x.set(0, 1, 0);
        for (int i = 1; i < 10; i++) {
            x.piece(0, 20, 0, 0);
        }
        Check.fault(x, -1, 0, 0, 0);
        x.set(9, 3, 2);
        x.set(9, 1, 21);
        // By speed 60 a versine of 21 needs 75, and 22 needs 79.
        Check.fault(x, -1, 0, 0, 0);
        x.set(9, 1, 22);
        Check.fault(x, 200, 1, 1, 1);
    }

    private static void faultBySpeed() {
        RailOffsets x = Scene.one(1, 1, 22, 0);
        Check.fault(x, 1, 1, 1, 1);
        x.rule(5, 58);
        // 3364 times 22 by 1000 is 74; by 59 it is 76.
        Check.fault(x, -1, 0, 0, 0);
        x.rule(5, 59);
        Check.fault(x, 1, 1, 1, 1);
    }

    private static void whyIsTheFirst() {
        // It lacks and is steep.
        RailOffsets x = Scene.one(1, 1, 40, 21);
        Check.due("it lacks", x.need(1, 1), 1);
        Check.due("it is steep", x.need(1, 3), 1);
        Check.fault(x, 1, 1, 1, 1);
        // It is too high and steep.
        RailOffsets y = Scene.one(1, 1, 0, 76);
        Check.due("it is too high", y.need(1, 2), 1);
        Check.due("it is steep", y.need(1, 3), 1);
        Check.fault(y, 1, 2, 2, 3);
        // It is steep alone.
        RailOffsets z = Scene.one(1, 1, 0, 75);
        Check.fault(z, 1, 3, 1, 1);
    }

    private static void causes() {
        Check.holds("1: if the PIECE's BEND is above 50 without sign, the BEND", EdgesOfTermsTwoTest::causesOfALack);
        Check.holds("1: the PIECE's BEND, not its VERSINE", EdgesOfTermsTwoTest::causesByTheBend);
        Check.holds("2: the CANT of the PIECE", EdgesOfTermsTwoTest::causesOfAnExcess);
        Check.holds("by WHY alone: 2 asks for no BEND, 1 and 2 for no JOIN", EdgesOfTermsTwoTest::causesByWhyAlone);
        Check.holds("3: if the STATION is the first of a PIECE", EdgesOfTermsTwoTest::causesWithinAPiece);
        Check.holds("3: that isn't PIECE 0", EdgesOfTermsTwoTest::causesOfPieceNought);
        Check.holds("3: if VERSINES are more than JUMP apart there, the VERSINES", EdgesOfTermsTwoTest::causesByVersines);
    }

    private static void causesOfALack() {
        int[][] rows = {{50, 1, 1}, {51, 2, 2}, {-50, 1, 1}, {-51, 2, 2}, {99, 2, 2}, {-99, 2, 2}};
        for (int[] r : rows) {
            RailOffsets x = Scene.one(1, 1, r[0], 0);
            Check.fault(x, 1, 1, r[1], r[2]);
        }
    }

    private static void causesByTheBend() {
        // A versine of 49 by a BEND of 99; one of 50 behind 20 stations to 51.
        RailOffsets x = Scene.one(5, 1, 99, 0);
        Check.fault(x, 1, 1, 2, 2);
        RailOffsets y = Scene.one(2, 20, 51, 0);
        y.rule(1, 0);
        Check.fault(y, 1, 1, 2, 2);
        // A BEND of 50 behind one of 99, so that the VERSINE of its first STATION is above 50.
        RailOffsets z = Scene.one(1, 1, 99, 160);
        z.piece(2, 2, 50, 0);
        z.rule(1, 140);
        z.rule(3, 160);
        z.rule(5, 55);
        Check.due("its versine", z.at(2, 0), 75);
        Check.fault(z, 2, 1, 1, 1);
    }

    private static void causesOfAnExcess() {
        RailOffsets x = Scene.one(1, 1, 20, 148);
        // By speed 60 a versine of 20 needs 72.
        Check.fault(x, 1, 2, 2, 3);
        x.set(0, 2, 147);
        x.rule(3, 160);
        Check.fault(x, -1, 0, 0, 0);
    }

    private static void causesByWhyAlone() {
        // Too high by a speed of 0, with a BEND above 50, behind a join that jumps in both.
        RailOffsets x = Scene.one(0, 1, 0, 0);
        x.piece(1, 1, 99, 100);
        x.rule(5, 0);
        Check.fault(x, 2, 2, 2, 3);
        // It lacks behind such a join, with a BEND of 50.
        x.rule(5, 200);
        x.set(1, 1, 50);
        Check.fault(x, 2, 1, 1, 1);
        // Steep alone with a BEND above 50: the JOIN and the VERSINES are asked, no BEND is.
        x.rule(5, 0);
        x.set(1, 1, 99);
        x.set(1, 2, 21);
        Check.fault(x, 2, 3, 3, 5);
    }

    private static void causesWithinAPiece() {
        RailOffsets x = Scene.one(0, 2, 0, 0);
        x.piece(2, 2, 99, 41);
        x.rule(5, 0);
        // Heights 20, 41: its second station is steep, and versines are 50 apart there.
        Check.fault(x, 4, 3, 1, 1);
        x.set(1, 2, 42);
        Check.fault(x, 3, 3, 3, 5);
    }

    private static void causesOfPieceNought() {
        RailOffsets x = Scene.one(1, 2, 99, 21);
        x.rule(5, 0);
        Check.fault(x, 1, 3, 1, 1);
        x.set(0, 2, 20);
        x.piece(1, 1, 99, 41);
        Check.fault(x, 3, 3, 2, 4);
    }

    private static void causesByVersines() {
        RailOffsets x = Scene.one(1, 1, 10, 20);
        x.piece(1, 1, 15, 41);
        Check.fault(x, 2, 3, 2, 4);
        x.set(1, 1, 16);
        Check.fault(x, 2, 3, 3, 5);
        x.set(1, 1, 5);
        Check.fault(x, 2, 3, 2, 4);
        x.set(1, 1, 4);
        Check.fault(x, 2, 3, 3, 5);
        x.rule(4, 6);
        Check.fault(x, 2, 3, 2, 4);
    }

    // ---- speeds

    private static void speeds() {
        Check.holds("MAY: the greatest SPEED 0, 5, .. 200", EdgesOfTermsTwoTest::mayByFives);
        Check.holds("MAY: 200 is the greatest", EdgesOfTermsTwoTest::mayBeTwoHundred);
        Check.holds("MAY: 0 is the least", EdgesOfTermsTwoTest::mayBeNought);
        Check.holds("MAY: it doesn't LACK and isn't TOO HIGH; NONE", EdgesOfTermsTwoTest::mayNot);
        Check.holds("MAY asks neither SPEED nor STEEP", EdgesOfTermsTwoTest::mayAsksNoMore);
        Check.holds("LIMIT: the greatest of these by which no STATION LACKS", EdgesOfTermsTwoTest::limitByLack);
        Check.holds("LIMIT: nor is TOO HIGH; NONE", EdgesOfTermsTwoTest::limitByExcess);
        Check.holds("In doubt: LIMIT asks nothing of STEEP", EdgesOfTermsTwoTest::limitAndSteep);
    }

    private static void mayByFives() {
        // s times s times 10 by 1000 is 75 at most up to 87.
        RailOffsets x = Scene.one(1, 1, 10, 0);
        Check.due("may", x.may(1), 85);
        x.rule(1, 80);
        Check.due("80 by 89", x.may(1), 85);
        x.rule(1, 81);
        Check.due("81 by 90", x.may(1), 90);
    }

    private static void mayBeTwoHundred() {
        RailOffsets x = Scene.one(1, 1, 4, 85);
        // 200 needs 160, 195 needs 152.
        Check.due("just 75 more", x.may(1), 200);
        x.set(0, 2, 84);
        Check.due("76 more", x.may(1), 195);
        x.set(0, 1, 0);
        x.set(0, 2, 75);
        Check.due("just 75 too high, by all", x.may(1), 200);
    }

    private static void mayBeNought() {
        // By 5 a versine of 40 needs 1, one of 39 none yet.
        RailOffsets x = Scene.one(1, 1, 40, 0);
        x.rule(1, 0);
        Check.due("5 lacks", x.may(1), 0);
        x.set(0, 1, -40);
        Check.due("5 lacks", x.may(1), 0);
        x.set(0, 1, 39);
        Check.due("5 does not", x.may(1), 5);
    }

    private static void mayNot() {
        RailOffsets x = Scene.one(0, 1, 0, 76);
        Check.due("too high by all", x.may(1), -1);
        x.rule(2, 76);
        Check.due("just not", x.may(1), 200);
        // Neither LACK nor EXCESS: the NEED is to be just 50, and is so by none of these.
        RailOffsets y = Scene.one(1, 1, 3, 50);
        y.rule(1, 0);
        y.rule(2, 0);
        Check.due("46 by 125, 50 by 130", y.may(1), 130);
        y.set(0, 2, 49);
        Check.due("49 by none", y.may(1), -1);
    }

    private static void mayAsksNoMore() {
        RailOffsets x = Scene.one(1, 1, 10, 70);
        Check.due("may", x.may(1), 120);
        x.rule(5, 3);
        x.rule(3, 0);
        Check.due("may", x.may(1), 120);
    }

    private static void limitByLack() {
        RailOffsets x = Scene.one(1, 1, 0, 0);
        x.piece(1, 1, 10, 0);
        x.piece(1, 1, 0, 0);
        Check.due("the one in the midst", x.limit(), 85);
        x.set(2, 1, 11);
        Check.due("the last", x.limit(), 80);
        x.set(0, 1, 40);
        x.rule(1, 0);
        Check.due("the first", x.limit(), 0);
        x.set(0, 1, 0);
        x.set(1, 1, 0);
        x.set(2, 1, 4);
        x.set(2, 2, 75);
        x.rule(1, 85);
        Check.due("all by 200", x.limit(), 200);
        x.rule(1, 84);
        Check.due("not all by 200", x.limit(), 195);
    }

    private static void limitByExcess() {
        RailOffsets x = Scene.one(1, 1, 10, 0);
        x.piece(1, 1, 10, 150);
        // The second is not too high from 87 on, the first lacks from 88 on.
        Check.due("may of the first", x.may(1), 85);
        Check.due("may of the second", x.may(2), 150);
        Check.due("none suits both", x.limit(), -1);
        x.set(1, 2, 147);
        Check.due("85 needs 72", x.limit(), 85);
        x.set(1, 2, 148);
        Check.due("none suits both", x.limit(), -1);
    }

    private static void limitAndSteep() {
        RailOffsets x = Scene.one(0, 1, 0, 0);
        x.piece(0, 1, 0, 75);
        x.rule(3, 0);
        Check.due("it is steep", x.need(2, 3), 1);
        Check.due("limit", x.limit(), 200);
    }

    // ---- least cants

    private static void cants() {
        Check.holds("LEAST CANT: 0 is the least", EdgesOfTermsTwoTest::leastIsNought);
        Check.holds("LEAST CANT (0 .. 160); NONE", EdgesOfTermsTwoTest::leastIsTheMost);
        Check.holds("LEAST CANT: none of its STATIONS LACKS, by SPEED", EdgesOfTermsTwoTest::leastBySpeed);
        Check.holds("LEAST CANT: LACKS alone, not TOO HIGH nor STEEP", EdgesOfTermsTwoTest::leastAsksNothingElse);
        Check.holds("LEAST CANT of it alone: what it has does not matter", EdgesOfTermsTwoTest::leastOfItAlone);
        Check.holds("In doubt: LEAST CANT looks at the PIECE's own STATIONS alone", EdgesOfTermsTwoTest::leastOfItsOwn);
        Check.holds("LEAST CANT of an EASE: from the HEIGHT ahead", EdgesOfTermsTwoTest::leastOfAnEase);
    }

    private static void leastIsNought() {
        RailOffsets x = Scene.one(1, 3, 20, 160);
        // 60 needs 72 of 20, 75 of 21, 79 of 22.
        Check.due("72", x.least(0), 0);
        x.set(0, 1, -21);
        Check.due("75", x.least(0), 0);
        x.set(0, 1, -22);
        Check.due("79", x.least(0), 4);
    }

    private static void leastIsTheMost() {
        RailOffsets x = Scene.one(1, 3, 16, 0);
        x.rule(5, 100);
        x.rule(1, 0);
        Check.due("160", x.least(0), 160);
        x.set(0, 1, 17);
        Check.due("170", x.least(0), -1);
        x.rule(1, 10);
        Check.due("170 less 10", x.least(0), 160);
        x.rule(1, 9);
        Check.due("170 less 9", x.least(0), -1);
    }

    private static void leastBySpeed() {
        RailOffsets x = Scene.one(1, 1, 99, 0);
        Check.due("356 by 60", x.least(0), -1);
        x.rule(5, 0);
        Check.due("0 by 0", x.least(0), 0);
        x.rule(5, 48);
        Check.due("228 by 48", x.least(0), 153);
    }

    private static void leastAsksNothingElse() {
        RailOffsets x = Scene.one(1, 1, 0, 160);
        x.piece(2, 2, 0, 30);
        x.rule(2, 0);
        x.rule(3, 0);
        // Halfway from 160 down it is TOO HIGH and STEEP by every CANT.
        Check.due("an EASE that is TOO HIGH by all", x.least(1), 0);
        x.rule(5, 120);
        x.set(1, 1, 8);
        // 57 at the first, where it is 80 and more; 115 less 75 at the last.
        Check.due("the last one lacks by less than 40", x.least(1), 40);
    }

    private static void leastOfItAlone() {
        for (int cant : new int[] {0, 33, 160}) {
            RailOffsets x = Scene.one(1, 2, 30, cant);
            x.rule(2, 0);
            x.rule(3, 0);
            // It may be TOO HIGH or STEEP by it.
            Check.due("108 less 75", x.least(0), 33);
            Check.due("it stays", x.of(0, 3), cant);
            Check.due("it stays", x.at(1, 1), cant);
        }
    }

    private static void leastOfItsOwn() {
        RailOffsets x = Scene.one(1, 1, 99, 0);
        x.piece(1, 1, 0, 0);
        // The ease behind it lacks by every height of it but great ones.
        x.piece(2, 2, 44, 0);
        Check.due("the one in the midst", x.least(1), 0);
    }

    private static void leastOfAnEase() {
        RailOffsets x = Scene.one(1, 1, 40, 100);
        x.piece(2, 2, 40, 0);
        // 144 needs 69 at both: 100 + (c - 100) by 2, and c.
        Check.due("the last one asks the most", x.least(1), 69);
        x.set(0, 2, 0);
        Check.due("the first one does: c by 2", x.least(1), 138);
        x.set(1, 3, 4);
        Check.due("a SHARP's versines, heights as an EASE's", x.least(1), 138);
        x.set(0, 1, 0);
        Check.due("10 at the first, 40 at the last", x.least(1), 69);
    }

    // ---- ends

    private static void ends() {
        Check.holds("MISS: OFFSET less END, TURN less LEAN", EdgesOfTermsTwoTest::missBothWays);
        Check.holds("MEETS: BENDS up to 99 without sign", EdgesOfTermsTwoTest::meetsByNinetyNine);
        Check.holds("MEETS: the least BEND without sign", EdgesOfTermsTwoTest::meetsByTheLeast);
        Check.holds("MEETS: (of like ones that above 0)", EdgesOfTermsTwoTest::meetsByThatAbove);
        Check.holds("MEETS: by which both are 0; NONE", EdgesOfTermsTwoTest::meetsInBoth);
        Check.holds("MEETS: that of the PIECE alone; later EASES go by it", EdgesOfTermsTwoTest::meetsByEases);
        Check.holds("In doubt: MEETS may tell the BEND that a PIECE has", EdgesOfTermsTwoTest::meetsAlready);
        Check.holds("MEETS by two: BENDS -30 .. 30 of both", EdgesOfTermsTwoTest::bothByThirty);
        Check.holds("MEETS by two: the first pair, by that of i, then of j, both from -30 on", EdgesOfTermsTwoTest::bothByTheFirst);
        Check.holds("MEETS by two: they may have the pair already", EdgesOfTermsTwoTest::bothAlready);
        Check.holds("MEETS by two that stand side by side, an EASE behind", EdgesOfTermsTwoTest::bothSideBySide);
    }

    private static void missBothWays() {
        RailOffsets x = Scene.one(1, 2, 5, 0);
        x.rule(6, 15);
        x.rule(7, 10);
        Check.due("offset 15", x.miss(0), 0);
        Check.due("turn 10", x.miss(1), 0);
        x.rule(6, 16);
        x.rule(7, 9);
        Check.due("offset 15", x.miss(0), -1);
        Check.due("turn 10", x.miss(1), 1);
    }

    private static void meetsByNinetyNine() {
        for (int bend : new int[] {99, -99}) {
            RailOffsets x = Scene.one(1, 2, 0, 0);
            x.rule(6, 3 * bend);
            x.rule(7, 2 * bend);
            Check.due("by " + bend, x.meets(0), 1000 + bend);
            x.rule(6, bend > 0 ? 300 : -300);
            x.rule(7, bend > 0 ? 200 : -200);
            Check.due("one beyond", x.meets(0), -1);
        }
    }

    private static void meetsByTheLeast() {
        // A FLAT has the versine 2 by 4 and by 5, -2 by -4 and by -5.
        RailOffsets x = Scene.one(5, 1, 0, 0);
        x.rule(6, 2);
        x.rule(7, 2);
        Check.due("2", x.meets(0), 1004);
        x.rule(6, -2);
        x.rule(7, -2);
        Check.due("-2", x.meets(0), 996);
        x.rule(6, 49);
        x.rule(7, 49);
        Check.due("49", x.meets(0), 1098);
        x.rule(6, -49);
        x.rule(7, -49);
        Check.due("-49", x.meets(0), 902);
    }

    private static void meetsByThatAbove() {
        // Turns never fall as a bend rises: where b and -b both meet, all between do, and 0 is the least.
        RailOffsets x = Scene.one(0, 1, 77, 0);
        Check.due("a STRAIGHT by all", x.meets(0), 1000);
        x.set(0, 3, 5);
        Check.due("a FLAT by -1, 0 and 1", x.meets(0), 1000);
        for (int bend = 1; bend <= 99; bend++) {
            RailOffsets y = Scene.one(1, 1, 0, 0);
            y.rule(6, bend);
            y.rule(7, bend);
            Check.due("above 0", y.meets(0), 1000 + bend);
            y.rule(6, -bend);
            y.rule(7, -bend);
            Check.due("below 0", y.meets(0), 1000 - bend);
        }
    }

    private static void meetsInBoth() {
        RailOffsets x = Scene.one(1, 2, 0, 0);
        x.rule(6, 12);
        x.rule(7, 8);
        Check.due("both", x.meets(0), 1004);
        x.rule(6, 11);
        Check.due("the turn alone", x.meets(0), -1);
        x.rule(6, 12);
        x.rule(7, 7);
        Check.due("the offset alone", x.meets(0), -1);
        x.rule(7, -8);
        Check.due("not of the other sign", x.meets(0), -1);
    }

    private static void meetsByEases() {
        RailOffsets x = Scene.one(1, 1, 50, 0);
        x.piece(2, 2, 0, 0);
        x.piece(1, 1, 3, 0);
        // By -7: -7, then -7 + 3 and 0, then 3: offsets -7, -18, -29, -37.
        x.rule(6, -37);
        x.rule(7, -8);
        Check.due("the ease goes by it", x.meets(0), 993);
        Check.due("not the ease itself", x.meets(1), -1);
        Check.due("nor the circle behind", x.meets(2), -1);
        Check.due("its bend stays", x.of(0, 2), 50);
    }

    private static void meetsAlready() {
        RailOffsets x = Scene.one(1, 3, 31, 0);
        x.rule(6, 186);
        x.rule(7, 93);
        Check.due("it has it", x.meets(0), 1031);
        x.set(0, 3, 3);
        Check.due("and now the other", x.meets(0), 969);
    }

    private static void bothByThirty() {
        RailOffsets x = Scene.one(1, 1, 0, 0);
        x.piece(1, 1, 0, 0);
        // Turn a + b, offset 2 a + b.
        int[][] pairs = {{-30, -30}, {30, 30}, {-30, 30}, {30, -30}, {0, 0}, {-30, 0}, {30, 29}};
        for (int[] p : pairs) {
            x.rule(7, p[0] + p[1]);
            x.rule(6, 2 * p[0] + p[1]);
            Check.due(p[0] + " and " + p[1], x.both(0, 1), 61 * (p[0] + 30) + p[1] + 30);
        }
        int[][] beyond = {{-31, 0}, {31, 0}, {0, -31}, {0, 31}, {-31, -31}, {31, 31}, {-31, 30}, {30, 31}};
        for (int[] p : beyond) {
            x.rule(7, p[0] + p[1]);
            x.rule(6, 2 * p[0] + p[1]);
            Check.due(p[0] + " and " + p[1], x.both(0, 1), -1);
        }
    }

    private static void bothByTheFirst() {
        RailOffsets x = Scene.one(0, 1, 0, 0);
        x.piece(0, 1, 0, 0);
        Check.due("all pairs: the first", x.both(0, 1), 0);
        x.set(0, 3, 1);
        Check.due("i is to be 0, j whatever it is", x.both(0, 1), 61 * 30);
        Check.due("j is to be 0, i whatever it is", x.both(1, 0), 30);
        RailOffsets y = Scene.one(5, 1, 0, 0);
        y.piece(5, 1, 0, 0);
        // Versines 3 and -2 by 6 or 7 and -4 or -5.
        y.rule(7, 1);
        y.rule(6, 4);
        Check.due("the least of both", y.both(0, 1), 61 * 36 + 25);
        Check.due("the other way round", y.both(1, 0), 61 * 25 + 36);
    }

    private static void bothAlready() {
        RailOffsets x = Scene.one(1, 1, 12, 0);
        x.piece(1, 1, -5, 0);
        x.rule(7, 7);
        x.rule(6, 19);
        Check.due("they have it", x.both(0, 1), 61 * 42 + 25);
        Check.due("bends stay", x.of(0, 2), 12);
        Check.due("bends stay", x.of(1, 2), -5);
    }

    private static void bothSideBySide() {
        RailOffsets x = Scene.one(1, 1, 0, 0);
        x.piece(2, 2, 0, 0);
        x.piece(2, 2, 0, 0);
        // By 4 and 10: 4, 7, 10, 5, 0: offsets 4, 15, 36, 62, 88.
        x.rule(7, 26);
        x.rule(6, 88);
        int[] versines = {4, 7, 10, 5, 0};
        x.set(0, 1, 4);
        x.set(1, 1, 10);
        for (int s = 1; s <= 5; s++) {
            Check.due("versine", x.at(s, 0), versines[s - 1]);
        }
        Check.due("miss", x.miss(0), 0);
        x.set(0, 1, 0);
        x.set(1, 1, 0);
        Check.due("both", x.both(0, 1), 61 * 34 + 40);
        Check.due("the other way round", x.both(1, 0), 61 * 40 + 34);
    }

    // ---- alike

    private static void likes() {
        Check.holds("ALIKE: PIECES of the same KIND, LENGTH, BEND, CANT", EdgesOfTermsTwoTest::alikeInAll);
        Check.holds("UNLIKE: how many there are that aren't ALIKE to one ahead", EdgesOfTermsTwoTest::unlike);
    }

    private static void alikeInAll() {
        int[][] others = {{2, 2, 3, 4}, {1, 3, 3, 4}, {1, 2, -3, 4}, {1, 2, 3, 5}};
        for (int[] o : others) {
            RailOffsets x = Scene.one(1, 2, 3, 4);
            x.piece(o[0], o[1], o[2], o[3]);
            x.piece(1, 2, 3, 4);
            Check.due("the first and the last", x.alike(0), 5);
            Check.due("the other", x.alike(1), 2);
            Check.due("the first and the last", x.alike(2), 5);
            Check.due("unlike", x.alike(-1), 2);
        }
    }

    private static void unlike() {
        RailOffsets x = new RailOffsets();
        Check.due("none", x.alike(-1), 0);
        for (int i = 0; i < 10; i++) {
            x.piece(1, 1, 1, 1);
            Check.due("all alike", x.alike(-1), 1);
        }
        for (int i = 9; i >= 0; i--) {
            x.set(i, 2, 10 + i);
            Check.due("some", x.alike(-1), Math.min(10, 11 - i));
        }
    }
}
