/** Promises 8 to 11. */
public final class StationsTest {
    private static final long NO = RailOffsets.NO;

    public static void main(String[] args) {
        kinds();
        easesBehindEachOther();
        at();
        scaled();
        join();
        joinsByHeights();
        Check.done("StationsTest");
    }

    private static void versines(RailOffsets x, int... want) {
        for (int i = 0; i < want.length; i++) {
            Check.due("versine at " + (i + 1), x.at(i + 1, 0), want[i]);
        }
        Check.due("stations", x.count(1), want.length);
    }

    private static void heights(RailOffsets x, int... want) {
        for (int i = 0; i < want.length; i++) {
            Check.due("height at " + (i + 1), x.at(i + 1, 1), want[i]);
        }
    }

    private static void kinds() {
        int[] want = {0, -37, -37, 37, -37, -18};
        for (int kind = 0; kind < 6; kind++) {
            RailOffsets x = new RailOffsets();
            x.piece(kind, 1, -37, 11);
            versines(x, want[kind]);
            heights(x, 11);
        }
        RailOffsets ease = new RailOffsets();
        ease.piece(2, 4, -7, 10);
        versines(ease, -1, -3, -5, -7);
        heights(ease, 2, 5, 7, 10);
        RailOffsets sharp = new RailOffsets();
        sharp.piece(4, 4, -7, 10);
        versines(sharp, 0, -1, -3, -7);
        heights(sharp, 2, 5, 7, 10);
        RailOffsets flat = new RailOffsets();
        flat.piece(5, 2, 99, 3);
        flat.piece(5, 1, -1, 3);
        versines(flat, 49, 49, 0);
    }

    private static void easesBehindEachOther() {
        RailOffsets x = new RailOffsets();
        x.piece(3, 1, 10, 100);
        x.piece(2, 3, 7, 0);
        x.piece(4, 3, -10, 50);
        x.piece(5, 1, 21, 7);
        x.piece(2, 2, 0, 0);
        x.piece(0, 1, 50, 9);
        x.piece(4, 2, 9, 10);
        versines(x, -10, -5, 1, 7, 6, 0, -10, 10, 5, 0, 0, 2, 9);
        heights(x, 100, 67, 34, 0, 16, 33, 50, 7, 4, 0, 9, 9, 10);
        x.set(0, 1, -10);
        versines(x, 10, 9, 8, 7, 6, 0, -10, 10, 5, 0, 0, 2, 9);
    }

    private static void at() {
        RailOffsets x = new RailOffsets();
        for (int what = -1; what < 6; what++) {
            Check.due("at(0) of no line", x.at(0, what), what >= 0 && what < 4 ? 0 : NO);
            Check.due("at(1) of no line", x.at(1, what), NO);
        }
        x.piece(1, 2, 3, 40);
        x.piece(1, 1, -5, 50);
        long[][] want = {{0, 0, 0, 0, NO}, {3, 40, 3, 3, 0}, {3, 40, 6, 9, 0}, {-5, 50, 1, 10, 1}, {NO, NO, NO, NO, NO}};
        for (int station = 0; station < 5; station++) {
            for (int what = 0; what < 5; what++) {
                Check.due("at(" + station + ", " + what + ")", x.at(station, what), want[station][what]);
            }
            Check.due("at what", x.at(station, 5), NO);
            Check.due("at what", x.at(station, -1), NO);
        }
        Check.due("at no station", x.at(-1, 0), NO);
        Check.due("at no station", x.at(Integer.MIN_VALUE, 3), NO);
        Check.due("at no station", x.at(Integer.MAX_VALUE, 3), NO);
        RailOffsets longest = new RailOffsets();
        for (int i = 0; i < 10; i++) {
            longest.piece(1, 20, 99, 160);
        }
        Check.due("greatest turn", longest.at(200, 2), 19800);
        Check.due("greatest offset", longest.at(200, 3), 99L * 20100);
        Check.due("last piece", longest.at(200, 4), 9);
        Check.due("last height", longest.at(200, 1), 160);
        Check.due("behind the last", longest.at(201, 0), NO);
    }

    private static void scaled() {
        RailOffsets x = new RailOffsets();
        Check.due("scaled(0)", x.scaled(0), 0);
        Check.due("scaled(1)", x.scaled(1), NO);
        Check.due("scaled(-1)", x.scaled(-1), NO);
        x.piece(1, 20, 18, 0);
        x.piece(1, 1, -44, 0);
        x.rule(0, 7);
        Check.due("scaled", x.scaled(21), 7 * 4096);
        x.rule(0, 524288);
        Check.due("one above the ints", x.scaled(21), NO);
        Check.due("the station ahead", x.scaled(20), 3780L * 524288);
        x.set(0, 1, -18);
        x.set(1, 1, 44);
        Check.due("the least int", x.scaled(21), Integer.MIN_VALUE);
        x.set(1, 1, 43);
        Check.due("below the ints", x.scaled(21), NO);
        x.rule(0, 1000000);
        Check.due("below the ints", x.scaled(20), NO);
        Check.due("scaled", x.scaled(1), -18000000);
        Check.due("no station", x.scaled(22), NO);
        Check.due("no station", x.scaled(Integer.MIN_VALUE), NO);
    }

    private static void join() {
        RailOffsets x = new RailOffsets();
        x.piece(1, 2, 10, 0);
        Check.due("one piece has no join", x.join(0, 0), -2);
        Check.due("joins of one", x.joins(), 0);
        x.piece(1, 2, 5, 20);
        x.piece(3, 2, 1, 0);
        x.piece(2, 3, 17, 0);
        int[][] want = {{5, 20, 0}, {6, 20, 1}, {6, 0, 1}};
        for (int i = 0; i < 3; i++) {
            for (int what = 0; what < 3; what++) {
                Check.due("join(" + i + ", " + what + ")", x.join(i, what), want[i][what]);
            }
            Check.due("join what", x.join(i, 3), -2);
            Check.due("join what", x.join(i, -1), -2);
        }
        Check.due("joins", x.joins(), 6);
        Check.due("no join", x.join(3, 0), -2);
        Check.due("no join", x.join(-1, 0), -2);
        Check.due("no join", x.join(Integer.MAX_VALUE, 0), -2);
        Check.due("no join", x.join(Integer.MIN_VALUE, 0), -2);
        x.rule(4, 4);
        Check.due("joins by a less jump", x.joins(), 7);
        x.rule(4, 6);
        Check.due("joins by a greater jump", x.joins(), 0);
        x.rule(3, 19);
        Check.due("joins by a less ramp", x.joins(), 3);
    }

    private static void joinsByHeights() {
        RailOffsets x = new RailOffsets();
        for (int i = 0; i < 10; i++) {
            x.piece(0, 1, 0, i % 2 == 0 ? 0 : 21);
        }
        Check.due("all jump", x.joins(), 511);
        Check.due("heights", x.join(8, 1), 21);
        x.drop();
        Check.due("the last is gone", x.joins(), 255);
        Check.due("the last is gone", x.join(8, 2), -2);
        x.piece(0, 1, 0, 21);
        Check.due("and is there again", x.joins(), 511);
        x.set(9, 2, 20);
        Check.due("the last does not", x.joins(), 255);
    }
}
