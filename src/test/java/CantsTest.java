/** Promises 12 to 16. */
public final class CantsTest {
    public static void main(String[] args) {
        need();
        faultByLack();
        faultByExcess();
        faultByRamp();
        noFault();
        may();
        limit();
        least();
        Check.done("CantsTest");
    }

    private static void faults(String which, RailOffsets x, int station, int why, int causes, int root) {
        Check.due(which + ": station", x.fault(0), station);
        Check.due(which + ": why", x.fault(1), why);
        Check.due(which + ": causes", x.fault(2), causes);
        Check.due(which + ": root", x.fault(3), root);
    }

    private static void need() {
        RailOffsets x = new RailOffsets();
        x.piece(1, 1, -30, 33);
        x.piece(1, 1, 29, 32);
        x.piece(0, 1, 0, 76);
        // By speed 60: 3.6 times 30 is 108, 3.6 times 29 is 104.4.
        int[][] want = {{108, 0, 0, 1}, {104, 0, 0, 0}, {0, 0, 1, 1}};
        for (int station = 1; station < 4; station++) {
            for (int what = 0; what < 4; what++) {
                Check.due("need(" + station + ", " + what + ")", x.need(station, what), want[station - 1][what]);
            }
            Check.due("need what", x.need(station, 4), -2);
            Check.due("need what", x.need(station, -1), -2);
        }
        for (int station : new int[] {0, -1, 4, Integer.MIN_VALUE, Integer.MAX_VALUE}) {
            Check.due("need of no station", x.need(station, 0), -2);
        }
        x.set(0, 2, 32);
        Check.due("76 above is a lack", x.need(1, 1), 1);
        x.rule(1, 76);
        Check.due("but not by a greater LACK", x.need(1, 1), 0);
        x.rule(2, 76);
        Check.due("too high no more", x.need(3, 2), 0);
        x.rule(3, 44);
        Check.due("steep no more", x.need(3, 3), 0);
        x.rule(3, 43);
        Check.due("steep", x.need(3, 3), 1);
        x.rule(5, 200);
        x.set(0, 1, -99);
        Check.due("greatest need", x.need(1, 0), 3960);
        x.rule(5, 0);
        Check.due("need of a line that stands", x.need(1, 0), 0);
    }

    private static void faultByLack() {
        RailOffsets x = new RailOffsets();
        x.piece(0, 3, 0, 0);
        x.piece(1, 2, 50, 0);
        faults("bend 50", x, 4, 1, 1, 1);
        x.set(1, 1, -51);
        faults("bend -51", x, 4, 1, 2, 2);
        x.set(1, 1, 51);
        faults("bend 51", x, 4, 1, 2, 2);
        x.set(1, 3, 5);
        faults("its own bend, not its versine", x, 4, 1, 2, 2);
        // An ease may lack ahead of its end.
        x.set(1, 3, 2);
        x.set(1, 0, 10);
        faults("an ease", x, 8, 1, 2, 2);
        // It lacks and is steep: the lack is told.
        x.set(1, 3, 1);
        x.set(1, 2, 21);
        x.rule(1, 0);
        faults("lack ahead of ramp", x, 4, 1, 2, 2);
    }

    private static void faultByExcess() {
        RailOffsets x = new RailOffsets();
        x.piece(1, 1, 2, 20);
        x.piece(2, 8, 2, 160);
        // By speed 60 a versine of 2 needs 7; heights of the ease go up by 17.5.
        faults("too high", x, 5, 2, 2, 3);
        x.rule(2, 20);
        faults("at the second station", x, 2, 2, 2, 3);
        x.rule(2, 12);
        faults("at the first station", x, 1, 2, 2, 3);
        // It is too high and steep: too high is told.
        x.rule(3, 0);
        faults("too high ahead of steep", x, 1, 2, 2, 3);
    }

    private static void faultByRamp() {
        RailOffsets x = new RailOffsets();
        x.piece(1, 2, 6, 21);
        faults("first station of piece 0", x, 1, 3, 1, 1);
        x.set(0, 2, 20);
        x.piece(1, 2, 11, 41);
        faults("a join of like versines", x, 3, 3, 2, 4);
        x.set(1, 1, 12);
        faults("a join of unlike versines", x, 3, 3, 3, 5);
        x.rule(4, 6);
        faults("by a greater jump", x, 3, 3, 2, 4);
        x.set(1, 3, 2);
        x.set(1, 2, 61);
        faults("an ease's first station", x, 4, 3, 1, 1);
        x.set(1, 2, 62);
        faults("41 by two eases: the first rises 21", x, 3, 3, 2, 4);
    }

    private static void noFault() {
        RailOffsets x = new RailOffsets();
        faults("no pieces", x, -1, 0, 0, 0);
        x.piece(1, 5, 10, 20);
        faults("no fault", x, -1, 0, 0, 0);
        Check.due("fault what", x.fault(4), -2);
        Check.due("fault what", x.fault(-1), -2);
        x.rule(5, 200);
        faults("by speed", x, 1, 1, 1, 1);
        Check.due("fault what", x.fault(4), -2);
    }

    private static void may() {
        RailOffsets x = new RailOffsets();
        x.piece(1, 1, 10, 0);
        x.piece(0, 1, 10, 75);
        x.piece(0, 1, 10, 76);
        x.piece(1, 1, -10, 160);
        x.piece(1, 1, 3, 75);
        // s * s * 10 / 1000 <= 75: 85 gives 72, 90 gives 81.
        Check.due("may(1)", x.may(1), 85);
        Check.due("may(2)", x.may(2), 200);
        Check.due("may(3)", x.may(3), -1);
        Check.due("may(4)", x.may(4), 150);
        Check.due("may(5)", x.may(5), 200);
        for (int station : new int[] {0, -1, 6, Integer.MAX_VALUE}) {
            Check.due("may of no station", x.may(station), -2);
        }
        x.rule(2, 0);
        x.rule(1, 0);
        // 22500 * 10 / 1000 is 225: only by 160 just.
        Check.due("may(4) with no lack nor excess", x.may(4), -1);
        x.set(3, 1, 16);
        Check.due("100 needs 160", x.may(4), 100);
        x.rule(5, 7);
        Check.due("may does not ask the speed", x.may(4), 100);
        x.set(0, 1, -99);
        Check.due("5 needs 2 already", x.may(1), 0);
    }

    private static void limit() {
        RailOffsets x = new RailOffsets();
        Check.due("no stations", x.limit(), 200);
        x.piece(1, 1, 10, 0);
        Check.due("limit", x.limit(), 85);
        x.piece(1, 1, 10, 75);
        Check.due("the least of both", x.limit(), 85);
        x.set(1, 2, 160);
        // The second needs 85 at least: 95, where the first lacks.
        Check.due("none suits both", x.limit(), -1);
        x.set(0, 2, 20);
        Check.due("95 suits both", x.limit(), 95);
        x.rule(3, 0);
        Check.due("limit does not ask for steep", x.limit(), 95);
        x.rule(5, 1);
        Check.due("limit does not ask the speed", x.limit(), 95);
        RailOffsets y = new RailOffsets();
        y.piece(1, 1, 99, 0);
        y.rule(1, 0);
        Check.due("5 needs 2 already", y.limit(), 0);
    }

    private static void least() {
        RailOffsets x = new RailOffsets();
        x.piece(1, 3, 30, 5);
        x.piece(2, 4, 40, 0);
        x.piece(1, 1, 99, 0);
        // By speed 60: 108 needs 33 at least.
        Check.due("least(0)", x.least(0), 33);
        // 32, 35, 37, 40 need 115, 126, 133, 144; heights are 5 and then (c - 5) * k / 4.
        Check.due("least(1)", x.least(1), 145);
        Check.due("least(2)", x.least(2), -1);
        x.set(0, 2, 100);
        Check.due("least(1) behind a greater height", x.least(1), 69);
        Check.due("nothing is changed", x.of(1, 3), 0);
        Check.due("nothing is changed", x.at(4, 1), 75);
        Check.due("nothing is changed", x.at(7, 1), 0);
        x.rule(5, 0);
        Check.due("least(2) of a line that stands", x.least(2), 0);
        for (int piece : new int[] {-1, 3, 10, Integer.MIN_VALUE, Integer.MAX_VALUE}) {
            Check.due("least of no piece", x.least(piece), -2);
        }
        // It asks for lacks alone: what is too high or steep does not matter, nor do the others' stations.
        x.rule(5, 60);
        x.rule(2, 0);
        x.rule(3, 0);
        x.rule(1, 0);
        x.set(2, 1, 44);
        Check.due("158 is the need", x.least(2), 158);
        x.set(2, 1, 45);
        Check.due("162 is the need", x.least(2), -1);
        x.rule(5, 100);
        x.set(2, 1, 16);
        Check.due("160 is the need", x.least(2), 160);
        x.set(2, 1, 17);
        x.rule(1, 10);
        Check.due("160 is the need less the lack", x.least(2), 160);
        x.rule(1, 9);
        Check.due("161 is the need less the lack", x.least(2), -1);
    }
}
