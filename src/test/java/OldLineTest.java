/** Promises 21 to 25. */
public final class OldLineTest {
    private static final long NO = RailOffsets.NO;

    public static void main(String[] args) {
        slew();
        slewsAreTakenFor();
        slews();
        by();
        byGoesByEases();
        errors();
        chance();
        Check.done("OldLineTest");
    }

    private static void slew() {
        RailOffsets x = new RailOffsets();
        Check.ints(x, 1, 4, 5, 6);
        Check.due("no line", x.slew(1, 0), 0);
        Check.due("no line", x.slew(1, 1), NO);
        x.piece(1, 5, 2, 0);
        // Old turns 4, 9, 15, 15, 15, offsets 4, 13, 28, 43, 58; the line's 2, 6, 12, 20, 30.
        long[] want = {0, 2, 7, 16, 23, 28};
        for (int station = 0; station < 6; station++) {
            Check.due("slew at " + station, x.slew(1, station), want[station]);
        }
        Check.due("no station", x.slew(1, 6), NO);
        Check.due("no station", x.slew(1, -1), NO);
        Check.due("no station", x.slew(1, Integer.MAX_VALUE), NO);
        Check.due("no sheet", x.slew(4, 0), NO);
        Check.due("no sheet", x.slew(-1, 0), NO);
        Check.due("no sheet", x.slew(Integer.MIN_VALUE, 0), NO);
        Check.due("missing", x.slew(0, 0), NO);
        Check.ints(x, 2);
        Check.due("a row that tells none", x.slew(2, 5), -30);
    }

    private static void slewsAreTakenFor() {
        RailOffsets x = new RailOffsets();
        x.piece(0, 3, 0, 0);
        Check.ints(x, 0, 1000, -1000, Integer.MIN_VALUE);
        Check.due("999", x.slew(0, 1), 999);
        Check.due("-999", x.slew(0, 2), 999);
        Check.due("the least int", x.slew(0, 3), 0);
        Check.ints(x, 0, 999, -998, Integer.MAX_VALUE);
        Check.due("-998", x.slew(0, 2), 1000);
        Check.due("the greatest int", x.slew(0, 3), 2000);
        Check.due("put", x.sheet(3, 0, 1), 1);
        Check.due("put", x.put(3, 0, 65533), 1);
        Check.due("shorts have a sign", x.slew(3, 1), -3);
        // What stands behind the last station does not count.
        Check.ints(x, 0, 1, 0, 0, 500);
        Check.due("behind the last", x.slews(0, 1), 6);
        Check.due("behind the last", x.slews(0, 2), 3);
        // Numbers of a row that was longer are gone.
        Check.ints(x, 0, 1);
        Check.due("a shorter row", x.slews(0, 2), 3);
    }

    private static void slews() {
        RailOffsets x = new RailOffsets();
        Check.due("missing", x.slews(0, 0), NO);
        Check.ints(x, 0, 1, -1, -3, 0, 5);
        Check.due("no stations", x.slews(0, 0), -1);
        Check.due("no stations", x.slews(0, 1), 0);
        Check.due("no stations", x.slews(0, 2), 0);
        x.piece(0, 2, 0, 0);
        Check.due("like ones: the first", x.slews(0, 0), 1);
        x.piece(0, 4, 0, 0);
        // Turns 1, 0, -3, -3, 2, 2: slews 1, 1, -2, -5, -3, -1.
        Check.due("widest", x.slews(0, 0), 4);
        Check.due("together", x.slews(0, 1), 13);
        Check.due("last", x.slews(0, 2), -1);
        Check.due("what", x.slews(0, 3), NO);
        Check.due("what", x.slews(0, -1), NO);
        Check.due("no sheet", x.slews(4, 0), NO);
        Check.due("no sheet", x.slews(-1, 0), NO);
        Check.ints(x, 0);
        Check.due("all 0: the first", x.slews(0, 0), 1);
        // Slews 4, 2, 2 off a line of versines that are not 0.
        RailOffsets z = new RailOffsets();
        z.piece(1, 2, 6, 0);
        z.piece(1, 1, -2, 0);
        Check.ints(z, 0, 10, 0, 0);
        Check.due("widest", z.slews(0, 0), 1);
        Check.due("together", z.slews(0, 1), 8);
        // Together they go beyond the ints.
        RailOffsets y = new RailOffsets();
        for (int i = 0; i < 10; i++) {
            y.piece(3, 20, 99, 0);
        }
        Check.due("sheet", y.sheet(1, 1, 40), 1);
        long turn = 0;
        long slew = 0;
        long sum = 0;
        for (int s = 1; s <= 200; s++) {
            if (s <= 40) {
                y.put(1, s - 1, 5000);
            }
            turn += (s <= 40 ? 999 : 0) + 99;
            slew += turn;
            sum += slew;
        }
        Check.due("together", y.slews(1, 1), sum);
        Check.due("last", y.slews(1, 2), slew);
        Check.due("widest", y.slews(1, 0), 200);
    }

    private static void by() {
        RailOffsets x = new RailOffsets();
        x.piece(1, 3, 0, 0);
        x.piece(0, 2, 0, 0);
        Check.ints(x, 0, 7, 7, 7);
        Check.due("the old line's bend", x.by(0, 0), 1007);
        Check.due("by a straight all are like", x.by(0, 1), 901);
        Check.due("its bend stays", x.of(0, 2), 0);
        Check.due("its versine stays", x.at(1, 0), 0);
        x.set(0, 3, 3);
        Check.due("a reverse", x.by(0, 0), 993);
        x.set(0, 3, 5);
        Check.due("the least of like ones", x.by(0, 0), 1014);
        Check.ints(x, 0, -7, -7, -7);
        Check.due("the least of like ones", x.by(0, 0), 985);
        Check.ints(x, 0, 999, 999, 999);
        x.set(0, 3, 1);
        Check.due("99 at most", x.by(0, 0), 1099);
        Check.ints(x, 0, -999, -999, -999);
        Check.due("-99 at least", x.by(0, 0), 901);
        Check.due("no sheet", x.by(-1, 0), -2);
        Check.due("no sheet", x.by(4, 0), -2);
        Check.due("no piece", x.by(0, 2), -2);
        Check.due("no piece", x.by(0, -1), -2);
        Check.due("no piece, and missing", x.by(2, 2), -2);
        Check.due("missing", x.by(2, 0), -11);
    }

    private static void byGoesByEases() {
        RailOffsets x = new RailOffsets();
        x.piece(1, 1, 0, 0);
        x.piece(2, 3, 0, 0);
        x.piece(1, 1, 5, 0);
        Check.ints(x, 0, 30, 20, 10, 0, 5);
        Check.due("30 eases to 0", x.by(0, 0), 1030);
        Check.due("the ease's versines stay", x.at(2, 0), 0);
        Check.due("slew stays", x.slew(0, 5), 30 + 50 + 60 + 60 + 60);
    }

    private static void errors() {
        RailOffsets x = new RailOffsets();
        Check.due("no stations", x.errors(7, 9), 0);
        x.piece(2, 20, 99, 0);
        x.piece(1, 3, -4, 0);
        for (int seed : new int[] {0, 1, -1, 5, Integer.MIN_VALUE, Integer.MAX_VALUE, 123456789}) {
            for (int n = 0; n < 10; n++) {
                Check.due("errors(" + seed + ", " + n + ")", x.errors(seed, n), greatest(seed, n, 23));
            }
        }
        Check.due("no error", x.errors(3, 0), 0);
        RailOffsets longest = new RailOffsets();
        for (int i = 0; i < 10; i++) {
            longest.piece(1, 20, 9 * i, 0);
        }
        for (int seed = 0; seed < 9; seed++) {
            Check.due("errors(" + seed + ", 4) of 200", longest.errors(seed, 4), greatest(seed, 4, 200));
        }
        Check.due("n", x.errors(3, -1), NO);
        Check.due("n", x.errors(3, 10), NO);
        Check.due("n", x.errors(3, Integer.MIN_VALUE), NO);
        Check.due("the line stays", x.at(20, 0), 99);
    }

    /** The greatest slew of errors alone: the line's own versines take themselves away. */
    private static long greatest(int seed, int n, int stations) {
        int[] error = new int[stations];
        int z = seed;
        for (int i = 0; i < stations; i++) {
            z = (int) (z * 1103515245L + 12345L);
            long plain = z < 0 ? z + 4294967296L : z;
            error[i] = (int) (plain / 512 % (2 * n + 1)) - n;
        }
        long most = 0;
        for (int s = 1; s <= stations; s++) {
            long slew = 0;
            for (int i = 0; i < s; i++) {
                slew += (long) error[i] * (s - i);
            }
            most = Math.max(most, Math.abs(slew));
        }
        return most;
    }

    private static void chance() {
        RailOffsets x = new RailOffsets();
        Check.due("no stations", x.chance(9, 20, 9, 0, 0), 1);
        Check.due("no stations", x.chance(9, 20, 9, 0, 1), 1);
        x.piece(1, 12, 5, 0);
        for (int seed : new int[] {0, 77, Integer.MAX_VALUE - 3, Integer.MIN_VALUE}) {
            for (int m : new int[] {1, 2, 6, 12, 20}) {
                for (int w : new int[] {0, 10, 25, 60, 100000, Integer.MAX_VALUE}) {
                    int good = 0;
                    for (int i = 0; i < m; i++) {
                        good += greatest(seed + i, 3, 12) <= w ? 1 : 0;
                    }
                    int common = m;
                    while (good % common != 0 || m % common != 0) {
                        common--;
                    }
                    Check.due("chance above", x.chance(seed, m, 3, w, 0), good / common);
                    Check.due("chance below", x.chance(seed, m, 3, w, 1), m / common);
                }
            }
        }
        long edge = greatest(77, 3, 12);
        Check.due("w or less", x.chance(77, 1, 3, (int) edge, 0), 1);
        Check.due("above w", x.chance(77, 1, 3, (int) edge - 1, 0), 0);
        Check.due("no error", x.chance(77, 20, 0, 0, 0), 1);
        Check.due("none is 0 by 1", x.chance(77, 1, 3, (int) edge - 1, 1), 1);
        int[][] bad = {{0, 3, 5, 0}, {21, 3, 5, 0}, {-1, 3, 5, 0}, {2, -1, 5, 0}, {2, 10, 5, 0}, {2, 3, -1, 0},
            {2, 3, Integer.MIN_VALUE, 0}, {2, 3, 5, -1}, {2, 3, 5, 2}};
        for (int[] b : bad) {
            Check.due("bad chance", x.chance(1, b[0], b[1], b[2], b[3]), -2);
        }
    }
}
