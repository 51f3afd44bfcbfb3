import java.util.function.Supplier;

/**
 * "Refusals, the first that the call's words name; they change nothing (but THE TAPE, where told)": each refused
 * call on an object in three states, which is then looked at as a whole. Calls that only ask change nothing either.
 */
public final class RefusalsTest {
    private static final int MIN = Integer.MIN_VALUE, MAX = Integer.MAX_VALUE;
    private static final long NO = RailOffsets.NO;
    private static final int BAD = -2, STATE = -3, FULL = -4, MISSING = -11, OUTSIDE = -12, OTHER = -13, BELOW = -14;

    public static void main(String[] args) {
        pieces();
        stations();
        ends();
        oldLines();
        texts();
        host();
        Check.holds("What is asked changes nothing", RefusalsTest::whatIsAsked);
        Check.holds("What is asked of no line changes nothing", RefusalsTest::whatIsAskedOfNone);
        Check.done("RefusalsTest");
    }

    /** Rows of a call's numbers, each of them refused so in an object like the scene's. */
    private static void refused(String sentence, Supplier<RailOffsets> scene, long want, String name, int[]... rows) {
        Check.holds("Refused: " + sentence, () -> {
            for (int[] row : rows) {
                Scene.unchanged(scene, want, name, row);
            }
        });
    }

    private static int[] row(int... numbers) {
        return numbers;
    }

    // ---- promises 2 to 7

    private static void pieces() {
        int[][] bad = {{-1, 1, 0, 0}, {6, 1, 0, 0}, {0, 0, 0, 0}, {0, 21, 0, 0}, {0, 1, -100, 0}, {0, 1, 100, 0},
            {0, 1, 0, -1}, {0, 1, 0, 161}, {MIN, MIN, MIN, MIN}, {MAX, MAX, MAX, MAX}};
        refused("2. BAD", Scene::ordinary, BAD, "piece", bad);
        refused("2. BAD of no line", Scene::empty, BAD, "piece", bad);
        refused("2. BAD ahead of FULL", Scene::full, BAD, "piece", bad);
        refused("2. FULL", Scene::full, FULL, "piece", row(0, 1, 0, 0), row(5, 20, 99, 160), row(2, 20, -99, 0));
        refused("3. STATE", Scene::empty, STATE, "drop", row());
        refused("4. -1000", Scene::ordinary, -1000, "set", row(-1, 0, 1), row(4, 0, 1), row(MAX, 0, 1), row(MIN, 0, 1),
            row(0, -1, 1), row(0, 4, 1), row(0, MAX, 1), row(0, MIN, 1), row(1, 0, 0), row(1, 0, 21), row(1, 1, -100),
            row(1, 1, 100), row(1, 2, -1), row(1, 2, 161), row(1, 3, -1), row(1, 3, 6), row(3, 0, MAX), row(3, 1, MIN));
        refused("4. -1000 of no line", Scene::empty, -1000, "set", row(0, 0, 1), row(0, 1, 1), row(0, 2, 1), row(0, 3, 1));
        refused("4. -1000 of ten", Scene::full, -1000, "set", row(10, 0, 1), row(9, 0, 21), row(9, 3, 6), row(0, 1, 100));
        refused("5. -1000", Scene::ordinary, -1000, "of", row(-1, 0), row(4, 0), row(0, -1), row(0, 7), row(MIN, MAX));
        refused("6. BAD", Scene::ordinary, BAD, "taken", row(-1, 0), row(4, 0), row(0, -1), row(0, 6), row(4, 6));
        refused("6. -13", Scene::ordinary, OTHER, "taken", row(0, 2), row(1, 4), row(2, 5), row(3, 3));
        refused("7. NO", Scene::ordinary, NO, "rule", row(-1, 1), row(8, 1), row(MIN, 0), row(MAX, 0), row(0, 0),
            row(0, 1000001), row(1, -1), row(1, 161), row(2, -1), row(2, 161), row(3, -1), row(3, 161), row(4, -1),
            row(4, 100), row(5, -1), row(5, 201), row(6, -1000001), row(6, 1000001), row(7, -10001), row(7, 10001));
    }

    // ---- promises 8 to 16

    private static void stations() {
        refused("8. NO", Scene::ordinary, NO, "at", row(-1, 0), row(9, 0), row(0, 4), row(0, 5), row(1, -1), row(1, 5));
        refused("9. NO", Scene::ordinary, NO, "scaled", row(-1), row(9), row(MIN), row(MAX));
        refused("10. BAD", Scene::ordinary, BAD, "join", row(-1, 0), row(3, 0), row(0, -1), row(0, 3), row(MAX, 0));
        refused("12. BAD", Scene::ordinary, BAD, "need", row(0, 0), row(-1, 0), row(9, 0), row(1, -1), row(1, 4));
        refused("13. BAD", Scene::ordinary, BAD, "fault", row(-1), row(4), row(MIN), row(MAX));
        refused("14. BAD", Scene::ordinary, BAD, "may", row(0), row(-1), row(9), row(MIN), row(MAX));
        refused("16. BAD", Scene::ordinary, BAD, "least", row(-1), row(4), row(MIN), row(MAX));
        refused("16. BAD of ten", Scene::full, BAD, "least", row(-1), row(10));
    }

    // ---- promises 17 to 20

    private static void ends() {
        refused("17. NO", Scene::ordinary, NO, "miss", row(-1), row(2), row(MIN), row(MAX));
        refused("18. BAD", Scene::ordinary, BAD, "meets", row(-1), row(4), row(MIN), row(MAX));
        refused("18. BAD of ten", Scene::full, BAD, "meets", row(-1), row(10));
        refused("19. BAD", Scene::ordinary, BAD, "both", row(0, 0), row(3, 3), row(-1, 0), row(0, -1), row(4, 0),
            row(0, 4), row(4, 4), row(-1, -1), row(MIN, MAX));
        refused("19. BAD of ten", Scene::full, BAD, "both", row(9, 9), row(10, 9), row(9, 10));
        refused("20. BAD", Scene::ordinary, BAD, "alike", row(-2), row(4), row(MIN), row(MAX));
    }

    // ---- promises 21 to 25

    private static void oldLines() {
        refused("21. NO", Scene::ordinary, NO, "slew", row(-1, 0), row(4, 0), row(2, 0), row(0, -1), row(0, 9), row(2, 9));
        refused("22. NO", Scene::ordinary, NO, "slews", row(-1, 0), row(4, 0), row(2, 0), row(0, -1), row(0, 3));
        refused("23. BAD", Scene::ordinary, BAD, "by", row(-1, 0), row(4, 0), row(0, -1), row(0, 4), row(2, 4), row(2, -1));
        refused("23. -11", Scene::ordinary, MISSING, "by", row(2, 0), row(2, 3));
        refused("24. NO", Scene::ordinary, NO, "errors", row(0, -1), row(0, 10), row(0, MIN), row(0, MAX));
        refused("25. BAD", Scene::ordinary, BAD, "chance", row(0, 0, 1, 1, 0), row(0, 21, 1, 1, 0), row(0, 1, -1, 1, 0),
            row(0, 1, 10, 1, 0), row(0, 1, 1, -1, 0), row(0, 1, 1, 1, -1), row(0, 1, 1, 1, 2));
    }

    // ---- promises 26 to 29

    private static void texts() {
        refused("26. BAD", Scene::ordinary, BAD, "tells", row(-1, 1, -1), row(4, 1, -1), row(0, 0, -1), row(0, 201, -1),
            row(0, 1, -2), row(0, 1, 4), row(2, 0, -1), row(2, 1, 4));
        refused("26. -11", Scene::ordinary, MISSING, "tells", row(2, 1, -1), row(2, 200, 3));
        refused("26. BAD: more than 8", Scene::full, BAD, "tells", row(0, 1, -1), row(2, 1, 0), row(2, 200, 9));
        refused("27. BAD", Scene::ordinary, BAD, "film", row(-1, 1, 1), row(4, 1, 1), row(0, 0, 1), row(0, 201, 1),
            row(0, 1, -1), row(0, 1, 41), row(1, 1, -1), row(1, 0, 5), row(2, 0, 1), row(3, 1, 41), row(1, MAX, MAX));
        refused("28. BAD", Scene::ordinary, BAD, "feed", row(0, 1, 1, 1, 1, 1), row(6, 1, 1, 1, 1, 1),
            row(-1, 1, 1, 1, 1, 1), row(1, -1, 1, 1, 1, 1), row(1, 256, 1, 1, 1, 1), row(1, 1, -1, 1, 1, 1),
            row(1, 1, 256, 1, 1, 1), row(1, 1, 1, -1, 1, 1), row(1, 1, 1, 256, 1, 1), row(1, 1, 1, 1, -1, 1),
            row(1, 1, 1, 1, 256, 1), row(1, 1, 1, 1, 1, -1), row(1, 1, 1, 1, 1, 256), row(5, 59, 59, 59, 59, 256));
        refused("28. FULL", Scene::full, FULL, "feed", row(1, 1, 1, 1, 1, 1), row(5, 1, 1, 1, 1, 1), row(1, 0, 0, 0, 0, 0));
        refused("28. BAD ahead of FULL", Scene::full, BAD, "feed", row(0, 1, 1, 1, 1, 1), row(1, 1, 1, 1, 1, 256));
        Check.holds("29. (but THE TAPE, where told): a FAULT empties it and changes nothing else", RefusalsTest::textFaults);
        Check.holds("29. clauses that are refused change nothing", RefusalsTest::clausesRefused);
    }

    /** By a text with a FAULT the object is as one whose tape had never been fed. */
    private static void textFaults() {
        String[] faults = {"drop;", "bend 0 9;drop;x", "speed 1;speed 1000", "cant 0 9 drop", "piece 0 1 0 0;piece 0 1 0"};
        for (String text : faults) {
            RailOffsets x = pieces(new RailOffsets());
            Check.feed(x, text);
            Check.due("'" + text + "' has a fault", x.text() <= -100 ? 1 : 0, 1);
            Check.same("'" + text + "' changed something:", Scene.whole(x), Scene.whole(pieces(new RailOffsets())));
        }
    }

    private static void clausesRefused() {
        String[] texts = {"piece 6 1 0 0", "bend 3 1;bend 0 100;bend -1 1", "cant 0 161;cant 2 0;cant 0 -1", "speed 201;speed -1"};
        for (String text : texts) {
            RailOffsets x = pieces(new RailOffsets());
            Check.due("'" + text + "'", Check.told(x, text), 0);
            Check.same("'" + text + "' changed something:", Scene.whole(x), Scene.whole(pieces(new RailOffsets())));
        }
        RailOffsets y = new RailOffsets();
        Check.due("drop of none", Check.told(y, "drop;drop"), 0);
        Check.same("drop of none", Scene.whole(y), Scene.whole(new RailOffsets()));
    }

    private static RailOffsets pieces(RailOffsets x) {
        x.piece(1, 2, 5, 10);
        x.piece(2, 3, -7, 20);
        x.rule(5, 44);
        Check.ints(x, 0, 5, 5, 1);
        x.image();
        x.set(0, 1, 6);
        return x;
    }

    // ---- promises 31 to 36

    private static void host() {
        refused("31. STATE", Scene::empty, STATE, "back", row());
        refused("31. STATE of ten", Scene::full, STATE, "back", row());
        refused("32. BAD", Scene::ordinary, BAD, "load", row(-1, 1, 0, 1), row(4, 1, 0, 1), row(1, -1, 0, 1),
            row(1, 2, 0, 1), row(1, 1, 0, -1), row(1, 1, 0, 11), row(2, 2, 0, 1), row(0, 1, 0, 11));
        refused("32. -13", Scene::ordinary, OTHER, "load", row(0, 1, 0, 1), row(1, 0, 0, 1), row(0, 1, -1, 1), row(1, 0, 99, 1));
        refused("32. -11", Scene::ordinary, MISSING, "load", row(2, 0, 0, 1), row(2, 1, 0, 1), row(2, 0, -1, 1));
        refused("32. -12, nothing ahead", Scene::ordinary, OUTSIDE, "load", row(0, 0, -1, 1), row(0, 0, 2, 1),
            row(1, 1, 5, 1), row(1, 1, 8, 1), row(3, 1, 0, 1), row(1, 1, MAX, 10), row(1, 1, MIN, 10), row(1, 1, -4, 2));
        refused("33. BAD", Scene::ordinary, BAD, "count", row(-1), row(5), row(MIN), row(MAX));
        refused("34. BAD", Scene::ordinary, BAD, "sheet", row(-1, 0, 1), row(4, 0, 1), row(-1, -1, 0), row(4, -1, 0),
            row(0, -2, 1), row(0, 2, 1), row(0, 0, 41), row(1, 1, 41), row(2, 1, MAX), row(0, 2, -1), row(4, 0, -1));
        refused("34. -14", Scene::ordinary, BELOW, "sheet", row(0, 0, -1), row(1, 1, -1), row(2, 0, MIN), row(3, 0, -1));
        refused("35. BAD", Scene::ordinary, BAD, "put", row(-1, 0, 1), row(4, 0, 1), row(4, -1, 1), row(MAX, 0, 1));
        refused("35. -11", Scene::ordinary, MISSING, "put", row(2, 0, 1), row(2, -1, 1), row(2, 40, 1));
        refused("35. -12", Scene::ordinary, OUTSIDE, "put", row(0, -1, 1), row(0, 5, 1), row(1, 8, 1), row(3, 0, 1),
            row(1, MAX, 1), row(1, MIN, 1));
        refused("36. BAD", Scene::ordinary, BAD, "copy", row(-1, 0, 1, 0, 1), row(4, 0, 1, 0, 1), row(1, 0, -1, 0, 1),
            row(1, 0, 4, 0, 1), row(2, 0, 4, 0, 1), row(4, 0, 2, -1, -1));
        refused("36. -11", Scene::ordinary, MISSING, "copy", row(2, 0, 1, 0, 1), row(1, 0, 2, 0, 1), row(2, -1, 1, 0, 1),
            row(0, 0, 2, 0, -1), row(2, 0, 2, 0, 0));
        refused("36. -13", Scene::ordinary, OTHER, "copy", row(0, 0, 1, 0, 1), row(1, 0, 0, 0, 1), row(0, -1, 1, 0, 1),
            row(0, 0, 3, 0, -1));
        refused("36. -12", Scene::ordinary, OUTSIDE, "copy", row(1, 0, 1, 1, 8), row(1, 1, 1, 0, 8), row(0, 0, 0, 2, 4),
            row(0, 2, 0, 0, 4), row(1, 0, 3, 0, 1), row(3, 0, 1, 0, 1), row(1, 0, 1, 1, -1), row(1, -1, 1, 0, 2),
            row(1, 0, 1, -1, 2), row(1, 0, 1, 1, MAX), row(1, MAX, 1, 0, 1));
    }

    // ---- what only asks

    private static void asked(Supplier<RailOffsets> scene, String name, int... numbers) {
        Scene.unchanged(scene, new Call(name, numbers).on(scene.get()), name, numbers);
    }

    private static void whatIsAsked() {
        for (int p = 0; p < 4; p++) {
            asked(Scene::ordinary, "of", p, 4);
            asked(Scene::ordinary, "taken", p, 0);
            asked(Scene::ordinary, "least", p);
            asked(Scene::ordinary, "meets", p);
            asked(Scene::ordinary, "alike", p);
            asked(Scene::ordinary, "by", 0, p);
            asked(Scene::ordinary, "by", 1, p);
            asked(Scene::ordinary, "tells", 0, 3, p);
            asked(Scene::ordinary, "tells", 3, 3, p);
            for (int q = 0; q < 4; q++) {
                if (p != q) {
                    asked(Scene::ordinary, "both", p, q);
                }
            }
        }
        for (int s = 1; s < 9; s++) {
            asked(Scene::ordinary, "at", s, 3);
            asked(Scene::ordinary, "scaled", s);
            asked(Scene::ordinary, "need", s, 0);
            asked(Scene::ordinary, "may", s);
            asked(Scene::ordinary, "slew", 1, s);
            asked(Scene::ordinary, "tells", 1, s, -1);
        }
        for (int what = 0; what < 3; what++) {
            asked(Scene::ordinary, "join", 0, what);
            asked(Scene::ordinary, "fault", what);
            asked(Scene::ordinary, "slews", 0, what);
            asked(Scene::ordinary, "count", what);
        }
        asked(Scene::ordinary, "joins");
        asked(Scene::ordinary, "limit");
        asked(Scene::ordinary, "miss", 0);
        asked(Scene::ordinary, "alike", -1);
        asked(Scene::ordinary, "errors", MAX, 9);
        asked(Scene::ordinary, "chance", MAX, 20, 9, 50, 0);
        asked(Scene::ordinary, "load", 1, 1, 0, 0);
        asked(Scene::ordinary, "copy", 1, 0, 1, 0, 8);
        asked(Scene::ordinary, "copy", 1, 3, 3, 0, 0);
    }

    private static void whatIsAskedOfNone() {
        asked(Scene::empty, "at", 0, 3);
        asked(Scene::empty, "scaled", 0);
        asked(Scene::empty, "joins");
        asked(Scene::empty, "fault", 0);
        asked(Scene::empty, "limit");
        asked(Scene::empty, "miss", 1);
        asked(Scene::empty, "alike", -1);
        asked(Scene::empty, "errors", 1, 9);
        asked(Scene::empty, "chance", 1, 20, 9, 0, 1);
        asked(Scene::empty, "text");
        asked(Scene::empty, "count", 4);
        asked(Scene::empty, "sheet", 0, -1, 5);
    }
}
