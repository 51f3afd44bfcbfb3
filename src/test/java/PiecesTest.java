/** Promises 1 to 7. */
public final class PiecesTest {
    private static final int MIN = Integer.MIN_VALUE, MAX = Integer.MAX_VALUE;

    public static void main(String[] args) {
        constants();
        aNewObject();
        piece();
        drop();
        set();
        of();
        made();
        taken();
        rule();
        Check.done("PiecesTest");
    }

    private static void constants() {
        Check.due("NONE", RailOffsets.NONE, -1);
        Check.due("BAD", RailOffsets.BAD, -2);
        Check.due("STATE", RailOffsets.STATE, -3);
        Check.due("FULL", RailOffsets.FULL, -4);
        Check.due("NO", RailOffsets.NO, Long.MIN_VALUE);
    }

    private static void aNewObject() {
        RailOffsets x = new RailOffsets();
        Check.due("count(0)", x.count(0), 0);
        Check.due("count(1)", x.count(1), 0);
        Check.due("count(2)", x.count(2), 0);
        Check.due("drop", x.drop(), -3);
        Check.due("back", x.back(), -3);
        for (int sheet = 0; sheet < 4; sheet++) {
            Check.due("put", x.put(sheet, 0, 0), -11);
        }
        int[] first = {1, 75, 75, 20, 5, 60, 0, 0};
        for (int rule = 0; rule < 8; rule++) {
            Check.due("rule " + rule, x.rule(rule, 1), first[rule]);
        }
        // What one object has been told is not told to the next.
        RailOffsets y = new RailOffsets();
        Check.due("rule of another object", y.rule(5, 3), 60);
    }

    private static void piece() {
        RailOffsets x = new RailOffsets();
        Check.due("least of all", x.piece(0, 1, -99, 0), 0);
        Check.due("most of all", x.piece(5, 20, 99, 160), 1);
        int[][] bad = {{-1, 1, 0, 0}, {6, 1, 0, 0}, {MIN, 1, 0, 0}, {0, 0, 0, 0}, {0, 21, 0, 0}, {0, -1, 0, 0},
            {0, MAX, 0, 0}, {0, 1, -100, 0}, {0, 1, 100, 0}, {0, 1, MIN, 0}, {0, 1, 0, -1}, {0, 1, 0, 161},
            {0, 1, 0, MAX}};
        for (int[] b : bad) {
            Check.due("bad piece", x.piece(b[0], b[1], b[2], b[3]), -2);
        }
        Check.due("count after refusals", x.count(0), 2);
        for (int i = 2; i < 10; i++) {
            Check.due("piece", x.piece(1, 20, i, i), i);
        }
        Check.due("an eleventh", x.piece(0, 1, 0, 0), -4);
        Check.due("a bad eleventh", x.piece(6, 1, 0, 0), -2);
        Check.due("count", x.count(0), 10);
        Check.due("stations", x.count(1), 181);
        Check.due("drop", x.drop(), 9);
        Check.due("room again", x.piece(0, 3, 0, 0), 9);
        Check.due("last station", x.of(9, 6), 164);
    }

    private static void drop() {
        RailOffsets x = new RailOffsets();
        x.piece(1, 2, 3, 4);
        x.piece(1, 5, 6, 7);
        Check.due("drop", x.drop(), 1);
        Check.due("its numbers are gone", x.of(1, 0), -1000);
        Check.due("its stations are gone", x.at(3, 0), RailOffsets.NO);
        Check.due("the other's stand", x.at(2, 3), 9);
        Check.due("drop", x.drop(), 0);
        Check.due("drop of none", x.drop(), -3);
        Check.due("stations", x.count(1), 0);
        Check.due("piece", x.piece(2, 3, 9, 9), 0);
        Check.due("nothing is left of the dropped", x.at(1, 0), 3);
    }

    private static void set() {
        RailOffsets x = new RailOffsets();
        x.piece(1, 2, -3, 4);
        x.piece(2, 4, 8, 40);
        Check.due("length", x.set(0, 0, 20), 2);
        Check.due("bend", x.set(0, 1, 99), -3);
        Check.due("cant", x.set(0, 2, 160), 4);
        Check.due("kind", x.set(0, 3, 5), 1);
        Check.due("bend was", x.set(0, 1, -99), 99);
        Check.due("length is", x.of(0, 1), 20);
        Check.due("bend is", x.of(0, 2), -99);
        Check.due("cant is", x.of(0, 3), 160);
        Check.due("kind is", x.of(0, 0), 5);
        Check.due("first station of the next", x.of(1, 5), 21);
        Check.due("half of the bend", x.at(20, 0), -49);
        Check.due("an ease goes by it", x.at(21, 0), -49 + 57 / 4);
        int[][] bad = {{-1, 0, 1}, {2, 0, 1}, {MAX, 0, 1}, {0, -1, 1}, {0, 4, 1}, {0, 4, 0}, {0, -1, 0}, {0, MIN, 1}, {0, 0, 0}, {0, 0, 21},
            {0, 1, -100}, {0, 1, 100}, {0, 2, -1}, {0, 2, 161}, {0, 3, -1}, {0, 3, 6}};
        for (int[] b : bad) {
            Check.due("bad set", x.set(b[0], b[1], b[2]), -1000);
        }
        Check.due("length stays", x.of(0, 1), 20);
        Check.due("kind stays", x.of(0, 0), 5);
    }

    private static void of() {
        RailOffsets x = new RailOffsets();
        x.piece(3, 7, -12, 55);
        x.piece(4, 1, 13, 0);
        x.piece(0, 20, 1, 2);
        int[][] want = {{3, 7, -12, 55, 1346, 1, 7}, {4, 1, 13, 0, 12357, 8, 8}, {0, 20, 1, 2, 13, 9, 28}};
        for (int piece = 0; piece < 3; piece++) {
            for (int what = 0; what < 7; what++) {
                Check.due("of(" + piece + ", " + what + ")", x.of(piece, what), want[piece][what]);
            }
            Check.due("of what", x.of(piece, 7), -1000);
            Check.due("of what", x.of(piece, -1), -1000);
        }
        Check.due("of no piece", x.of(3, 0), -1000);
        Check.due("of no piece", x.of(-1, 0), -1000);
        Check.due("of no piece", x.of(MIN, MAX), -1000);
    }

    private static void made() {
        int[] longer = {13, 134, 135, 1346, 1357, 1348};
        int[] ofOne = {123, 1234, 1235, 12346, 12357, 12348};
        RailOffsets x = new RailOffsets();
        x.piece(0, 2, 0, 0);
        for (int kind = 0; kind < 6; kind++) {
            x.set(0, 3, kind);
            x.set(0, 0, 2);
            Check.due("made, kind " + kind, x.of(0, 4), longer[kind]);
            x.set(0, 0, 1);
            Check.due("made of length 1, kind " + kind, x.of(0, 4), ofOne[kind]);
        }
    }

    private static void taken() {
        // Row: the piece's kind; column: what it is taken for.
        String[] fits = {"100000", "110000", "101000", "110100", "101010", "110001"};
        RailOffsets x = new RailOffsets();
        for (int kind = 0; kind < 6; kind++) {
            x.piece(kind, kind + 3, 0, 0);
            for (int k = 0; k < 6; k++) {
                Check.due("taken(" + kind + ", " + k + ")", x.taken(kind, k), fits[kind].charAt(k) == '1' ? kind + 3 : -13);
            }
            Check.due("taken for no kind", x.taken(kind, 6), -2);
            Check.due("taken for no kind", x.taken(kind, -1), -2);
        }
        Check.due("taken of none", x.taken(6, 0), -2);
        Check.due("taken of none", x.taken(-1, 0), -2);
        Check.due("taken of none", x.taken(MAX, MAX), -2);
    }

    private static void rule() {
        RailOffsets x = new RailOffsets();
        int[] first = {1, 75, 75, 20, 5, 60, 0, 0};
        int[] least = {1, 0, 0, 0, 0, 0, -1000000, -10000};
        int[] most = {1000000, 160, 160, 160, 99, 200, 1000000, 10000};
        for (int rule = 0; rule < 8; rule++) {
            Check.due("below", x.rule(rule, least[rule] - 1), RailOffsets.NO);
            Check.due("above", x.rule(rule, most[rule] + 1), RailOffsets.NO);
            Check.due("far above", x.rule(rule, MAX), RailOffsets.NO);
            Check.due("far below", x.rule(rule, MIN), RailOffsets.NO);
            Check.due("least", x.rule(rule, least[rule]), first[rule]);
            Check.due("most", x.rule(rule, most[rule]), least[rule]);
            Check.due("again", x.rule(rule, first[rule]), most[rule]);
        }
        Check.due("no rule", x.rule(8, 1), RailOffsets.NO);
        Check.due("no rule", x.rule(8, 0), RailOffsets.NO);
        Check.due("no rule", x.rule(-1, 1), RailOffsets.NO);
        Check.due("no rule", x.rule(-1, 0), RailOffsets.NO);
        Check.due("no rule", x.rule(MIN, 0), RailOffsets.NO);
    }
}
