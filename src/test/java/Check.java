/** Compares answers with those that are due; each test's main ends with done(). */
final class Check {
    private static int asked = 0;
    private static int wrong = 0;
    private static int held = 0;
    private static String sentence = "";

    private Check() {
    }

    /** One test for one sentence of the document: what is wrong in it is told with the sentence. */
    static void holds(String words, Runnable test) {
        int before = wrong;
        int asks = asked;
        sentence = words;
        test.run();
        if (asked == asks) {
            wrong++;
            System.out.println("[" + words + "] asks nothing");
        }
        held++;
        if (wrong != before) {
            System.out.println("does not hold: " + words);
        }
        sentence = "";
    }

    static void due(String call, long got, long want) {
        asked++;
        if (got != want) {
            wrong++;
            System.out.println(where(call) + " answered " + told(got) + ", due is " + told(want));
        }
    }

    static void same(String what, String got, String want) {
        asked++;
        if (!got.equals(want)) {
            wrong++;
            System.out.println(where(what) + "\n  is  " + got + "\n  due " + want);
        }
    }

    /** All four answers of fault(). */
    static void fault(RailOffsets x, int station, int why, int causes, int root) {
        due("fault(0)", x.fault(0), station);
        due("fault(1)", x.fault(1), why);
        due("fault(2)", x.fault(2), causes);
        due("fault(3)", x.fault(3), root);
    }

    private static String where(String call) {
        return sentence.isEmpty() ? call : "[" + sentence + "] " + call;
    }

    private static String told(long answer) {
        return answer == RailOffsets.NO ? "NO" : String.valueOf(answer);
    }

    /** Feeds a text to the tape, five bytes a call. */
    static void feed(RailOffsets x, String text) {
        int had = x.count(2);
        for (int i = 0; i < text.length(); i += 5) {
            int[] b = new int[5];
            int n = Math.min(5, text.length() - i);
            for (int k = 0; k < n; k++) {
                b[k] = text.charAt(i + k);
            }
            due("feed of " + text + " at " + i, x.feed(n, b[0], b[1], b[2], b[3], b[4]), had + i + n);
        }
    }

    static long told(RailOffsets x, String text) {
        feed(x, text);
        return x.text();
    }

    /** A sheet of ints that holds just these numbers. */
    static void ints(RailOffsets x, int sheet, int... numbers) {
        due("sheet", x.sheet(sheet, 1, numbers.length), 1);
        for (int i = 0; i < numbers.length; i++) {
            due("put", x.put(sheet, i, numbers[i]), 1);
        }
    }

    /** A sheet of shorts that holds just these numbers. */
    static void shorts(RailOffsets x, int sheet, int... numbers) {
        due("sheet", x.sheet(sheet, 0, numbers.length), 1);
        for (int i = 0; i < numbers.length; i++) {
            due("put", x.put(sheet, i, numbers[i]), 1);
        }
    }

    static void done(String name) {
        String sentences = held == 0 ? "" : held + " sentences, ";
        System.out.println(name + ": " + sentences + asked + " answers, " + wrong + " not as due");
        if (wrong != 0) {
            System.exit(1);
        }
    }
}
