/** Promises 30 to 36. */
public final class HostTest {
    private static final int MIN = Integer.MIN_VALUE, MAX = Integer.MAX_VALUE;

    public static void main(String[] args) {
        imageAndBack();
        load();
        loadLeavesOut();
        loadOutside();
        count();
        sheet();
        put();
        copy();
        copyOfItself();
        Check.done("HostTest");
    }

    private static void imageAndBack() {
        RailOffsets x = new RailOffsets();
        Check.due("none yet", x.back(), -3);
        Check.due("image of no pieces", x.image(), 0);
        x.piece(1, 3, 7, 10);
        Check.due("back", x.back(), 0);
        Check.due("no stations", x.count(1), 0);
        x.piece(1, 3, 7, 10);
        x.piece(2, 2, 1, 20);
        x.rule(5, 33);
        x.rule(6, -5);
        Check.due("image", x.image(), 2);
        x.set(0, 0, 9);
        x.set(1, 3, 0);
        x.rule(5, 1);
        x.rule(0, 9);
        Check.ints(x, 2, 5);
        Check.feed(x, "drop");
        x.piece(0, 20, 0, 0);
        Check.due("back", x.back(), 2);
        Check.due("length", x.of(0, 1), 3);
        Check.due("kind", x.of(1, 0), 2);
        Check.due("stations", x.count(1), 5);
        Check.due("offset", x.at(5, 3), 7 * 3 + 7 * 2 + 7 + 21 + 4 + 21 + 5);
        Check.due("speed", x.rule(5, 33), 33);
        Check.due("scale", x.rule(0, 1), 1);
        Check.due("end", x.rule(6, 0), -5);
        Check.due("sheets stay", x.put(2, 0, 5), 1);
        Check.due("the tape stays", x.count(2), 4);
        Check.due("it is done", x.text(), 1);
        Check.due("back again", x.back(), 2);
        Check.due("back again", x.rule(6, 0), -5);
        x.drop();
        Check.due("a later image", x.image(), 1);
        x.drop();
        Check.due("back", x.back(), 1);
    }

    private static void load() {
        RailOffsets x = new RailOffsets();
        Check.ints(x, 0, 9, 1, 2, 3, 4, 5, 20, -99, 160, 0);
        Check.due("two", x.load(0, 1, 1, 2), 2);
        int[][] want = {{1, 2, 3, 4}, {5, 20, -99, 160}};
        for (int piece = 0; piece < 2; piece++) {
            for (int what = 0; what < 4; what++) {
                Check.due("of", x.of(piece, what), want[piece][what]);
            }
        }
        Check.due("none", x.load(0, 1, 1, 0), 0);
        Check.due("they come behind", x.load(0, 1, 1, 1), 1);
        Check.due("count", x.count(0), 3);
        Check.due("stations", x.count(1), 24);
        x.sheet(1, 0, 4);
        x.put(1, 0, 1 + 65536);
        x.put(1, 1, 1);
        x.put(1, 2, -5);
        Check.due("by shorts", x.load(1, 0, 0, 1), 1);
        Check.due("of", x.of(3, 0), 1);
        Check.due("of", x.of(3, 2), -5);
        int[][] bad = {{-1, 1, 1}, {4, 1, 1}, {0, -1, 1}, {0, 2, 1}, {0, 1, -1}, {0, 1, 11}, {2, 2, 1}, {2, 0, 11},
            {MAX, 1, 1}, {0, MIN, 1}};
        for (int[] b : bad) {
            Check.due("bad load", x.load(b[0], b[1], 0, b[2]), -2);
        }
        Check.due("ints", x.load(0, 0, 0, 1), -13);
        Check.due("shorts", x.load(1, 1, 0, 1), -13);
        Check.due("of another sort ahead of outside", x.load(1, 1, -1, 1), -13);
        Check.due("missing", x.load(2, 0, 0, 1), -11);
        Check.due("missing", x.load(2, 1, -1, 1), -11);
        Check.due("count", x.count(0), 4);
    }

    private static void loadLeavesOut() {
        RailOffsets x = new RailOffsets();
        x.sheet(0, 0, 40);
        for (int i = 0; i < 40; i++) {
            x.put(0, i, i % 4 == 1 ? i / 4 : 0);
        }
        // Lengths 0 .. 9: the first is none such.
        Check.due("nine of ten", x.load(0, 0, 0, 10), 9);
        Check.due("stations", x.count(1), 45);
        Check.due("one more has room", x.load(0, 0, 0, 10), 1);
        Check.due("last", x.of(9, 1), 1);
        Check.due("full", x.load(0, 0, 0, 10), 0);
        Check.due("full, but outside", x.load(0, 0, 1, 10), -12);
    }

    private static void loadOutside() {
        RailOffsets x = new RailOffsets();
        Check.ints(x, 3, 1, 2, 3, 4, 1, 2, 3);
        Check.due("below 0", x.load(3, 1, -1, 1), -12);
        Check.due("count", x.count(0), 0);
        Check.due("the second isn't whole", x.load(3, 1, 0, 2), -12);
        Check.due("what stood ahead came", x.count(0), 1);
        Check.due("just whole", x.load(3, 1, 3, 1), 1);
        Check.due("not whole", x.load(3, 1, 4, 1), -12);
        for (int from : new int[] {7, 40, MAX, MAX - 3, MIN, MIN + 3}) {
            Check.due("far outside", x.load(3, 1, from, 10), -12);
        }
        Check.due("count", x.count(0), 2);
    }

    private static void count() {
        RailOffsets x = new RailOffsets();
        for (int what = 0; what < 5; what++) {
            Check.due("count of none", x.count(what), 0);
        }
        x.piece(3, 4, 1, 0);
        x.piece(1, 3, 1, 1);
        x.piece(3, 20, 1, 0);
        x.piece(2, 5, 1, 4);
        Check.feed(x, "abcdefg");
        int[] want = {4, 32, 7, 24, 7};
        for (int what = 0; what < 5; what++) {
            // Heights above 0: 3 of the circle; of the ease 4 * k / 5 from k = 2 on.
            Check.due("count(" + what + ")", x.count(what), want[what]);
        }
        for (int what : new int[] {-1, 5, MIN, MAX}) {
            Check.due("count what", x.count(what), -2);
        }
        x.set(0, 3, 1);
        Check.due("a circle is no reverse", x.count(3), 20);
        x.set(3, 3, 3);
        Check.due("but this is", x.count(3), 25);
        x.set(0, 2, 1);
        Check.due("from the first station on", x.count(4), 4 + 3 + 5);
    }

    private static void sheet() {
        RailOffsets x = new RailOffsets();
        Check.due("shorts", x.sheet(0, 0, 40), 1);
        Check.due("ints", x.sheet(3, 1, 0), 1);
        Check.due("its end", x.put(0, 39, 5), 1);
        Check.due("its end", x.put(3, 0, 5), -12);
        Check.due("anew", x.sheet(0, 1, 40), 1);
        x.piece(0, 20, 0, 0);
        x.piece(0, 20, 0, 0);
        Check.due("all 0", x.slews(0, 1), 0);
        int[][] bad = {{-1, 0, 1}, {4, 0, 1}, {0, -2, 1}, {0, 2, 1}, {0, 0, 41}, {0, 1, MAX}, {4, 0, -1}, {0, 2, -1},
            {-1, -1, 0}, {4, -1, 0}};
        for (int[] b : bad) {
            Check.due("bad sheet", x.sheet(b[0], b[1], b[2]), -2);
        }
        Check.due("below 0", x.sheet(0, 0, -1), -14);
        Check.due("below 0", x.sheet(1, 1, MIN), -14);
        Check.due("it stays", x.put(0, 39, 5), 1);
        Check.due("missing", x.sheet(0, -1, 41), 1);
        Check.due("missing", x.put(0, 39, 5), -11);
        Check.due("missing", x.sheet(0, -1, -1), 1);
        Check.due("missing", x.slews(0, 1), RailOffsets.NO);
        Check.due("missing", x.sheet(1, -1, MIN), 1);
    }

    private static void put() {
        RailOffsets x = new RailOffsets();
        x.piece(0, 3, 0, 0);
        x.sheet(0, 0, 3);
        Check.due("put", x.put(0, 0, 32768 + 65536 * 7), 1);
        Check.due("taken for -999 of -32768", x.slew(0, 1), -999);
        Check.due("put", x.put(0, 0, -65530), 1);
        Check.due("lowest 16 bits", x.slew(0, 1), 6);
        x.sheet(1, 1, 3);
        Check.due("put", x.put(1, 2, -65530), 1);
        Check.due("ints are whole", x.slew(1, 3), -999);
        Check.due("outside", x.put(0, 3, 0), -12);
        Check.due("outside", x.put(0, -1, 0), -12);
        Check.due("outside", x.put(0, MIN, 0), -12);
        Check.due("outside", x.put(0, MAX, 0), -12);
        Check.due("missing", x.put(2, 0, 0), -11);
        Check.due("missing", x.put(2, -1, 0), -11);
        Check.due("no sheet", x.put(4, 0, 0), -2);
        Check.due("no sheet", x.put(-1, 0, 0), -2);
        Check.due("no sheet", x.put(MIN, 0, 0), -2);
    }

    private static void copy() {
        RailOffsets x = new RailOffsets();
        x.piece(0, 6, 0, 0);
        Check.ints(x, 0, 100000, 2, 3);
        Check.ints(x, 1, 0, 0, 0, 0, 7);
        Check.due("copy", x.copy(0, 0, 1, 2, 3), 3);
        Check.due("behind it", x.slew(1, 2), 0);
        Check.due("first", x.slew(1, 3), 999);
        Check.due("last", x.slew(1, 5), 999 * 3 + 2 * 2 + 3);
        Check.due("the whole number came", x.tells(1, 1, -1), 2);
        Check.due("none", x.copy(0, 3, 1, 5, 0), 0);
        int[][] outside = {{0, 0, 4}, {1, 0, 3}, {0, 3, 3}, {-1, 0, 1}, {0, -1, 1}, {0, 0, -1}, {3, 0, 1}, {0, 5, 1},
            {4, 0, 0}, {0, 6, 0}, {-1, 0, 0}, {0, -1, 0}, {MAX, 0, 1}, {0, MAX, 1}, {1, 1, MAX}, {0, 0, MIN},
            {MIN, 0, 1}, {MAX, MAX, MAX}};
        for (int[] o : outside) {
            Check.due("outside", x.copy(0, o[0], 1, o[1], o[2]), -12);
        }
        x.sheet(2, 0, 3);
        Check.due("unlike sorts", x.copy(0, 0, 2, 0, 1), -13);
        Check.due("unlike sorts", x.copy(2, 0, 0, 0, 1), -13);
        Check.due("unlike sorts ahead of outside", x.copy(2, 0, 0, 0, -1), -13);
        Check.due("missing", x.copy(3, 0, 0, 0, 1), -11);
        Check.due("missing", x.copy(2, 0, 3, -1, 1), -11);
        Check.due("missing", x.copy(3, 0, 3, 0, 0), -11);
        Check.due("no sheet", x.copy(4, 0, 3, 0, 1), -2);
        Check.due("no sheet", x.copy(0, 0, 4, 0, 1), -2);
        Check.due("no sheet", x.copy(-1, 0, 0, 0, 1), -2);
        Check.due("no sheet", x.copy(3, 0, -1, 0, 1), -2);
        x.sheet(3, 0, 4);
        x.put(2, 1, -3);
        Check.due("shorts", x.copy(2, 1, 3, 3, 1), 1);
        Check.due("shorts", x.slew(3, 4), -3);
    }

    private static void copyOfItself() {
        RailOffsets x = new RailOffsets();
        x.piece(0, 5, 0, 0);
        Check.ints(x, 0, 1, 2, 3, 4, 5);
        Check.due("forth", x.copy(0, 0, 0, 1, 4), 4);
        // 1, 1, 2, 3, 4: as they were.
        Check.due("as they were", x.slew(0, 5), 5 + 4 + 6 + 6 + 4);
        Check.due("back", x.copy(0, 1, 0, 0, 4), 4);
        // 1, 2, 3, 4, 4.
        Check.due("as they were", x.slew(0, 5), 5 + 8 + 9 + 8 + 4);
    }
}
