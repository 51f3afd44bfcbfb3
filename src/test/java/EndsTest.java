/** Promises 17 to 20. */
public final class EndsTest {
    public static void main(String[] args) {
        miss();
        meets();
        meetsOfLikeOnes();
        meetsByEases();
        both();
        bothByEases();
        alike();
        Check.done("EndsTest");
    }

    private static void miss() {
        RailOffsets x = new RailOffsets();
        Check.due("miss of no line", x.miss(0), 0);
        x.rule(6, 7);
        x.rule(7, -8);
        Check.due("miss of no line", x.miss(0), -7);
        Check.due("miss of no line", x.miss(1), 8);
        x.piece(1, 3, 5, 0);
        Check.due("miss(0)", x.miss(0), 23);
        Check.due("miss(1)", x.miss(1), 23);
        x.rule(6, 1000000);
        x.rule(7, 10000);
        Check.due("miss(0)", x.miss(0), 30 - 1000000);
        Check.due("miss(1)", x.miss(1), 15 - 10000);
        Check.due("miss what", x.miss(2), RailOffsets.NO);
        Check.due("miss what", x.miss(-1), RailOffsets.NO);
    }

    private static void meets() {
        RailOffsets x = new RailOffsets();
        x.piece(1, 3, 5, 40);
        Check.due("it lies straight", x.meets(0), 1000);
        x.rule(6, 6 * 99);
        x.rule(7, 3 * 99);
        Check.due("the greatest", x.meets(0), 1099);
        x.rule(6, -6 * 99);
        x.rule(7, -3 * 99);
        Check.due("the least", x.meets(0), 901);
        x.rule(7, -3 * 99 + 1);
        Check.due("the turn is off", x.meets(0), -1);
        x.rule(7, -3 * 99);
        x.rule(6, -6 * 99 + 1);
        Check.due("the offset is off", x.meets(0), -1);
        x.rule(6, 30);
        x.rule(7, 15);
        Check.due("the bend that it has", x.meets(0), 1005);
        x.set(0, 3, 3);
        Check.due("a reverse", x.meets(0), 995);
        x.set(0, 3, 0);
        Check.due("a straight bends nowhere", x.meets(0), -1);
        Check.due("its bend stays", x.of(0, 2), 5);
        x.set(0, 3, 1);
        x.piece(2, 4, 9, 0);
        Check.due("not with an ease behind it", x.meets(0), -1);
        x.drop();
        Check.due("nothing is left of the dropped", x.meets(0), 1005);
        for (int piece : new int[] {-1, 1, 10, Integer.MIN_VALUE, Integer.MAX_VALUE}) {
            Check.due("meets by no piece", x.meets(piece), -2);
        }
    }

    private static void meetsOfLikeOnes() {
        RailOffsets x = new RailOffsets();
        x.piece(5, 1, 9, 0);
        // Of a FLAT, 0, 1, -1 halve to 0; 4, 5 to 2; -4, -5 to -2.
        Check.due("like ones", x.meets(0), 1000);
        x.rule(6, 2);
        x.rule(7, 2);
        Check.due("the least without sign", x.meets(0), 1004);
        x.rule(6, -2);
        x.rule(7, -2);
        Check.due("the least without sign", x.meets(0), 996);
        RailOffsets y = new RailOffsets();
        y.piece(0, 2, 9, 0);
        y.piece(1, 1, 1, 0);
        y.rule(6, 1);
        y.rule(7, 1);
        Check.due("a straight that meets by every bend", y.meets(0), 1000);
    }

    private static void meetsByEases() {
        RailOffsets x = new RailOffsets();
        x.piece(1, 2, 3, 0);
        x.piece(2, 3, 9, 0);
        x.piece(1, 1, 1, 0);
        // With 6: 6, 6, 7, 8, 9, 1.
        x.rule(6, 6 + 12 + 19 + 27 + 36 + 37);
        x.rule(7, 37);
        Check.due("later eases go by it", x.meets(0), 1006);
        Check.due("the ease itself", x.meets(1), -1);
        Check.due("the versine of the ease stands", x.at(3, 0), 5);
        // With 3, 3 and an ease to -6: 3, 3, 0, -3, -6, 1.
        x.rule(6, 3 + 6 + 6 + 3 - 3 - 2);
        x.rule(7, -2);
        Check.due("by the ease", x.meets(1), 994);
    }

    private static void both() {
        RailOffsets x = new RailOffsets();
        x.piece(1, 1, 7, 0);
        x.piece(0, 1, 0, 0);
        x.piece(1, 1, 7, 0);
        // Turn a + b, offset 3 a + b.
        Check.due("both straight", x.both(0, 2), 61 * 30 + 30);
        x.rule(7, 10);
        x.rule(6, 3 * 12 - 2);
        Check.due("12 and -2", x.both(0, 2), 61 * 42 + 28);
        Check.due("the other way round", x.both(2, 0), 61 * 28 + 42);
        x.rule(7, -60);
        x.rule(6, -120);
        Check.due("-30 and -30", x.both(0, 2), 0);
        x.rule(7, 60);
        x.rule(6, 120);
        Check.due("30 and 30", x.both(0, 2), 61 * 60 + 60);
        x.rule(7, 61);
        x.rule(6, 123);
        Check.due("31 and 30", x.both(0, 2), -1);
        x.rule(6, 121);
        Check.due("30 and 31", x.both(0, 2), -1);
        x.rule(7, -61);
        x.rule(6, -121);
        Check.due("-30 and -31", x.both(0, 2), -1);
        Check.due("bends stay", x.of(0, 2), 7);
        Check.due("bends stay", x.of(2, 2), 7);
        int[][] bad = {{0, 0}, {2, 2}, {0, 3}, {3, 0}, {-1, 0}, {0, -1}, {-1, -1}, {Integer.MIN_VALUE, 0},
            {0, Integer.MAX_VALUE}};
        for (int[] b : bad) {
            Check.due("both of none", x.both(b[0], b[1]), -2);
        }
        x.rule(7, 0);
        x.rule(6, 0);
        // The bend of the straight does not matter: the first is -30.
        Check.due("first by that of i", x.both(1, 2), -1);
        x.set(0, 1, 0);
        Check.due("first by that of i", x.both(1, 2), 30);
        Check.due("then by that of j", x.both(2, 1), 61 * 30);
    }

    private static void bothByEases() {
        RailOffsets x = new RailOffsets();
        x.piece(1, 2, 0, 0);
        x.piece(2, 3, 0, 0);
        x.piece(4, 3, 12, 0);
        // With 6 and -3: 6, 6, 3, 0, -3, -2, 3, 12.
        int[] versines = {6, 6, 3, 0, -3, -2, 3, 12};
        int turn = 0;
        int offset = 0;
        for (int v : versines) {
            turn += v;
            offset += turn;
        }
        x.rule(7, turn);
        x.rule(6, offset);
        int found = x.both(0, 1);
        int back = x.both(1, 0);
        Check.due("the same pair, if it is the only one", back, 61 * (found % 61) + found / 61);
        x.set(0, 1, found / 61 - 30);
        x.set(1, 1, found % 61 - 30);
        Check.due("it meets", x.miss(0), 0);
        Check.due("it meets", x.miss(1), 0);
        Check.due("versines", x.at(3, 0), 3);
        Check.due("versines", x.at(7, 0), 3);
    }

    private static void alike() {
        RailOffsets x = new RailOffsets();
        Check.due("none", x.alike(-1), 0);
        Check.due("none", x.alike(0), -2);
        x.piece(1, 2, 3, 4);
        x.piece(3, 2, 3, 4);
        x.piece(1, 3, 3, 4);
        x.piece(1, 2, 4, 4);
        x.piece(1, 2, 3, 5);
        Check.due("all unlike", x.alike(-1), 5);
        for (int i = 0; i < 5; i++) {
            Check.due("itself alone", x.alike(i), 1 << i);
        }
        for (int i = 5; i < 10; i++) {
            x.piece(1, 2, 3, i % 2 == 0 ? 4 : 5);
        }
        Check.due("unlike", x.alike(-1), 5);
        Check.due("alike to 0", x.alike(0), 1 + 64 + 256);
        Check.due("alike to 6", x.alike(6), 1 + 64 + 256);
        Check.due("alike to 9", x.alike(9), 16 + 32 + 128 + 512);
        Check.due("no piece", x.alike(10), -2);
        Check.due("no piece", x.alike(-2), -2);
        Check.due("no piece", x.alike(Integer.MIN_VALUE), -2);
    }
}
