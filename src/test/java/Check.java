/** Compares answers with those that are due; each test's main ends with done(). */
final class Check {
    private static int asked = 0;
    private static int wrong = 0;

    private Check() {
    }

    static void due(String call, long got, long want) {
        asked++;
        if (got != want) {
            wrong++;
            System.out.println(call + " answered " + got + ", due is " + want);
        }
    }

    /** Feeds a text to the tape, five bytes a call. */
    static void feed(RailOffsets x, String text) {
        for (int i = 0; i < text.length(); i += 5) {
            int[] b = new int[5];
            int n = Math.min(5, text.length() - i);
            for (int k = 0; k < n; k++) {
                b[k] = text.charAt(i + k);
            }
            due("feed of " + text + " at " + i, x.feed(n, b[0], b[1], b[2], b[3], b[4]), i + n);
        }
    }

    static long told(RailOffsets x, String text) {
        feed(x, text);
        return x.text();
    }

    /** A sheet of ints that holds just these numbers. */
    static void ints(RailOffsets x, int sheet, int... numbers) {
        due("sheet", x.sheet(sheet, 1, numbers.length), 1);
        for (int i = 0; i < numbers.length; i++) {
            due("put", x.put(sheet, i, numbers[i]), 1);
        }
    }

    static void done(String name) {
        System.out.println(name + ": " + asked + " answers, " + wrong + " not as due");
        if (wrong != 0) {
            System.exit(1);
        }
    }
}
