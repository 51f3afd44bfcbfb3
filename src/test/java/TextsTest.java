/** Promises 26 to 29. */
public final class TextsTest {
    public static void main(String[] args) {
        tells();
        tellsKinds();
        film();
        feed();
        textsThatAreDone();
        textsThatAreRefusedInPart();
        faults();
        Check.done("TextsTest");
    }

    private static void tells() {
        RailOffsets x = new RailOffsets();
        x.piece(1, 3, 7, 0);
        x.piece(1, 2, -2, 0);
        Check.ints(x, 0, 7, 7, 7, -2, -2);
        Check.due("all so", x.tells(0, 1, -1), -1);
        Check.due("from 2 on", x.tells(0, 2, -1), 2);
        Check.ints(x, 0, -2, -2, 0);
        Check.due("a station that isn't there", x.tells(0, 4, -1), 2);
        Check.due("also told by no kind", x.tells(0, 4, 1), 0);
        Check.ints(x, 0);
        Check.due("tells none", x.tells(0, 1, -1), -1);
        Check.due("tells none, behind all", x.tells(0, 200, -1), -1);
        Check.due("by every kind", x.tells(0, 200, 1), 63);
        Check.ints(x, 0, 7 + 65536);
        Check.due("numbers as they are", x.tells(0, 1, -1), 0);
        x.sheet(1, 0, 1);
        x.put(1, 0, 7 + 65536);
        Check.due("shorts as they are", x.tells(1, 1, -1), -1);
        x.sheet(1, 0, 8);
        Check.due("eight", x.tells(1, 1, -1), 0);
        x.sheet(1, 0, 9);
        Check.due("nine", x.tells(1, 1, -1), -2);
        Check.due("nine", x.tells(1, 1, 0), -2);
        int[][] bad = {{-1, 1, -1}, {4, 1, -1}, {0, 0, -1}, {0, 201, -1}, {0, -1, -1}, {0, 1, 2}, {0, 1, -2},
            {2, 0, -1}, {2, 1, 2}, {Integer.MAX_VALUE, 1, -1}};
        for (int[] b : bad) {
            Check.due("bad tells", x.tells(b[0], b[1], b[2]), -2);
        }
        Check.due("missing", x.tells(2, 1, -1), -11);
        Check.due("missing", x.tells(2, 200, 1), -11);
    }

    private static void tellsKinds() {
        RailOffsets x = new RailOffsets();
        x.piece(1, 1, 4, 0);
        x.piece(2, 4, 12, 0);
        x.piece(2, 2, 0, 0);
        int[][] told = {{0, 0, 0, 0}, {12, 12, 12, 12}, {6, 8, 10, 12}, {-12, -12, -12, -12}, {4, 6, 8, 12}, {6, 6, 6, 6}};
        for (int kind = 0; kind < 6; kind++) {
            Check.ints(x, 0, told[kind]);
            Check.due("kind " + kind, x.tells(0, 2, 1), 1 << kind);
            Check.due("kind " + kind, x.tells(0, 2, -1), kind == 2 ? -1 : kind == 5 ? 1 : 0);
        }
        // Piece 2 eases from 12, 0, -12 or 6: by which kinds of piece 1 does it?
        Check.ints(x, 1, 6, 0);
        Check.due("circle, ease, sharp", x.tells(1, 6, 1), 2 + 4 + 16);
        Check.ints(x, 1, 3);
        Check.due("flat", x.tells(1, 6, 1), 32);
        Check.ints(x, 1, 0);
        Check.due("straight", x.tells(1, 6, 1), 1);
        Check.ints(x, 1, -6);
        Check.due("reverse", x.tells(1, 6, 1), 8);
        Check.due("its kind stays", x.of(1, 0), 2);
        Check.due("versines stay", x.at(6, 0), 6);
        Check.due("made stays", x.of(1, 4), 135);
    }

    private static void film() {
        RailOffsets x = new RailOffsets();
        x.piece(2, 3, 9, 0);
        Check.due("film", x.film(1, 2, 4), 4);
        Check.due("it tells them", x.tells(1, 2, -1), 2);
        Check.due("size is 4", x.put(1, 4, 0), -12);
        // What stands in a sheet can be seen by its slew from a straight line.
        RailOffsets y = new RailOffsets();
        y.piece(2, 3, 9, 0);
        y.film(0, 2, 4);
        y.set(0, 3, 0);
        y.set(0, 0, 6);
        long[] slews = {6, 21, 36, 51, 66, 81};
        for (int s = 1; s <= 6; s++) {
            Check.due("slew", y.slew(0, s), slews[s - 1]);
        }
        Check.due("shorts", y.load(0, 1, 0, 0), -13);
        Check.due("shorts", y.load(0, 0, 0, 0), 0);
        y.sheet(1, 1, 40);
        Check.due("whatever it was", y.film(1, 1, 0), 0);
        Check.due("none is in it", y.put(1, 0, 1), -12);
        Check.due("forty", y.film(1, 200, 40), 40);
        Check.due("the last", y.put(1, 39, 1), 1);
        Check.due("a film begins with 0", y.film(1, 200, 40), 40);
        y.set(0, 0, 20);
        Check.due("all 0", y.slews(1, 1), 0);
        y.piece(1, 5, 9, 0);
        y.drop();
        y.film(2, 19, 8);
        Check.due("nothing is left of the dropped", y.slews(2, 1), 0);
        y.piece(0, 20, 0, 0);
        Check.due("nothing is left of the dropped", y.slews(2, 1), 0);
        int[][] bad = {{-1, 1, 1}, {4, 1, 1}, {1, 0, 1}, {1, 201, 1}, {1, 1, -1}, {1, 1, 41}, {1, Integer.MAX_VALUE, 1}};
        for (int[] b : bad) {
            Check.due("bad film", y.film(b[0], b[1], b[2]), -2);
        }
        Check.due("it stays", y.put(1, 39, 0), 1);
    }

    private static void feed() {
        RailOffsets x = new RailOffsets();
        Check.due("one", x.feed(1, 0, 255, 0, 0, 255), 1);
        Check.due("five", x.feed(5, 1, 2, 3, 4, 5), 6);
        Check.due("n", x.feed(0, 1, 1, 1, 1, 1), -2);
        Check.due("n", x.feed(6, 1, 1, 1, 1, 1), -2);
        Check.due("n", x.feed(-1, 1, 1, 1, 1, 1), -2);
        for (int bad : new int[] {-1, 256, Integer.MIN_VALUE, Integer.MAX_VALUE}) {
            Check.due("a", x.feed(1, bad, 1, 1, 1, 1), -2);
            Check.due("b", x.feed(1, 1, bad, 1, 1, 1), -2);
            Check.due("c", x.feed(1, 1, 1, bad, 1, 1), -2);
            Check.due("d", x.feed(1, 1, 1, 1, bad, 1), -2);
            Check.due("e", x.feed(1, 1, 1, 1, 1, bad), -2);
        }
        Check.due("count", x.count(2), 6);
        for (int i = 11; i <= 56; i += 5) {
            Check.due("five", x.feed(5, 59, 59, 59, 59, 59), i);
        }
        Check.due("no room", x.feed(5, 59, 59, 59, 59, 59), -4);
        Check.due("bad ahead of full", x.feed(5, 59, 59, 59, 59, 256), -2);
        Check.due("just room", x.feed(4, 59, 59, 59, 59, 59), 60);
        Check.due("no room", x.feed(1, 59, 59, 59, 59, 59), -4);
        Check.due("count", x.count(2), 60);
        Check.due("text", x.text(), -100);
        Check.due("it is empty", x.count(2), 0);
        Check.due("room", x.feed(1, 59, 0, 0, 0, 0), 1);
    }

    private static void textsThatAreDone() {
        RailOffsets x = new RailOffsets();
        Check.due("piece", Check.told(x, "piece 1 2 -3 4"), 1);
        int[] want = {1, 2, -3, 4};
        for (int what = 0; what < 4; what++) {
            Check.due("of", x.of(0, what), want[what]);
        }
        Check.due("bend", Check.told(x, "bend 0 -99"), 1);
        Check.due("bend", x.of(0, 2), -99);
        Check.due("cant", Check.told(x, "cant 0 160"), 1);
        Check.due("cant", x.of(0, 3), 160);
        Check.due("speed", Check.told(x, "speed 007"), 1);
        Check.due("speed", x.rule(5, 1), 7);
        Check.due("drop", Check.told(x, "drop"), 1);
        Check.due("count", x.count(0), 0);
        Check.due("as long as can be", Check.told(x, "piece-0 001-1-0"), 1);
        Check.due("no blank is asked", Check.told(x, "piece1 20-99 0;speed-0"), 2);
        Check.due("of", x.of(0, 2), -1);
        Check.due("of", x.of(1, 2), -99);
        Check.due("speed", x.rule(5, 60), 0);
        Check.due("blanks", Check.told(x, " \n drop \n\n ;\ndrop ; speed\n9 "), 3);
        Check.due("speed", x.rule(5, 60), 9);
        Check.due("the order is kept", Check.told(x, "drop;piece 0 1 0 0;drop;drop;drop"), 2);
        Check.due("twelve", Check.told(x, "drop;drop;drop;drop;drop;drop;drop;drop;drop;drop;drop;drop"), 0);
        for (int i = 0; i < 10; i++) {
            x.piece(0, 1, 0, 0);
        }
        Check.due("twelve", Check.told(x, "drop;drop;drop;drop;drop;drop;drop;drop;drop;drop;drop;drop"), 10);
        Check.due("sixty bytes", Check.told(x, "piece 0 1 0 0;piece 0 1 0 0;piece 0 1 0 0;piece 0 1 0 0;drop"), 5);
        Check.due("count", x.count(0), 3);
    }

    private static void textsThatAreRefusedInPart() {
        RailOffsets x = new RailOffsets();
        Check.due("bad ones", Check.told(x, "piece 6 1 0 0;piece 5 1 0 0;bend 1 0;bend 0 100;cant 0 -1"), 1);
        Check.due("speed", Check.told(x, "speed 201;speed 200;cant 0 161;cant-1 0;bend 0 -99"), 2);
        // What it was may be below 0, and that is no refusal.
        Check.due("bend was -99", Check.told(x, "bend 0 -98;bend 0 -2"), 2);
        for (int i = 1; i < 10; i++) {
            x.piece(0, 1, 0, 0);
        }
        Check.due("full", Check.told(x, "piece 0 1 0 0;drop;piece 0 1 0 0"), 2);
        Check.due("count", x.count(0), 10);
    }

    private static void fault(String text, int place) {
        RailOffsets x = new RailOffsets();
        x.piece(1, 1, 1, 1);
        Check.due("text '" + text + "'", Check.told(x, text), -100 - place);
        Check.due("the tape is empty", x.count(2), 0);
        Check.due("none is done", x.count(0), 1);
        Check.due("none is done", x.of(0, 2), 1);
        Check.due("none is done", x.rule(5, 0), 60);
    }

    private static void faults() {
        fault("", 0);
        fault("   ", 3);
        fault(" \n", 2);
        fault("drop;", 5);
        fault("drop; ", 6);
        fault(";drop", 0);
        fault("drop;;drop", 5);
        fault("drop drop", 5);
        fault("drop 1", 5);
        fault("dro", 0);
        fault(" drops", 1);
        fault("Drop", 0);
        fault("dRop", 0);
        fault("dropX", 4);
        fault("drop\t", 4);
        fault("drop,", 4);
        fault("drop\0", 4);
        fault("drop\u00e9", 4);
        fault("dropdrop", 0);
        fault("speed", 5);
        fault("speed ", 6);
        fault("speed;", 5);
        fault("speed x", 6);
        fault("speed drop", 6);
        fault("speed 1 2", 8);
        fault("speed 1-2", 7);
        fault("speed 1x", 7);
        fault("speed 1000", 6);
        fault("speed 0000", 6);
        fault("speed -1000", 6);
        fault("speed -", 6);
        fault("speed - 1", 6);
        fault("speed --1", 6);
        fault("speed 1-", 7);
        fault("speed +1", 6);
        fault("speed 1 1000", 8);
        fault("speed 1.5", 7);
        fault("bend 0", 6);
        fault("bend 0 1 2", 9);
        fault("bend 0 5;bend 0 6;bend 0 7;xend 0 8", 27);
        fault("cant 0 1 ; cant 0", 17);
        fault("piece 1 1 1", 11);
        fault("piece 1 1 1 1 1", 14);
        fault("piece 1 1 1;drop", 11);
        fault("piece1-1-1-", 10);
        fault("5", 0);
        fault("-", 0);
        fault("1000", 0);
        fault("drop 1000", 5);
        fault("speed 12345678901234567890", 6);
        fault("drop;drop;drop;drop;drop;drop;drop;drop;drop;drop;drop;drop;", 60);
        RailOffsets x = new RailOffsets();
        Check.due("ends behind a word", Check.told(x, "drop drop"), -105);
        Check.due("and the next begins anew", Check.told(x, "x"), -100);
        Check.due("ends behind a number", Check.told(x, "speed 1 2"), -108);
        Check.due("and the next begins anew", Check.told(x, "speed -"), -106);
        fault("abcdefghijklmnopqrstuvwxyzabcdefghijklmnopqrstuvwxyzabcdefgh", 0);
    }
}
