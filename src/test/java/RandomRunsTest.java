import java.util.Random;

/** Long runs of calls, the same each time, on the class and on PlainRail: all answers must be alike. */
public final class RandomRunsTest {
    private static final int RUNS = 400, CALLS = 512;
    private static final String[] WORDS = {"piece", "bend", "cant", "speed", "drop", "drop", "pieces", "x"};

    private final Random dice;
    private final RailOffsets x = new RailOffsets();
    private final PlainRail plain = new PlainRail();

    private RandomRunsTest(int seed) {
        dice = new Random(seed);
    }

    public static void main(String[] args) {
        for (int run = 0; run < RUNS; run++) {
            new RandomRunsTest(run).run(run);
        }
        Check.done("RandomRunsTest");
    }

    private void run(int run) {
        for (int call = 0; call < CALLS; call++) {
            String where = "run " + run + ", call " + call + ": ";
            int sort = dice.nextInt(100);
            if (sort < 25) {
                change(where);
            } else if (sort < 60) {
                ask(where);
            } else if (sort < 75) {
                host(where);
            } else if (sort < 98) {
                tape(where);
            } else {
                wide(where, call);
            }
        }
        whole("run " + run + ", at its end: ");
    }

    /** Mostly from least to most, seldom one beyond, more seldom anything. */
    private int roll(int least, int most) {
        int sort = dice.nextInt(60);
        if (sort == 0) {
            return least - 1;
        }
        if (sort == 1) {
            return most + 1;
        }
        if (sort == 2) {
            return dice.nextInt(4) == 0 ? dice.nextInt() : most;
        }
        if (sort == 3) {
            return least;
        }
        return least + dice.nextInt(most - least + 1);
    }

    private int rollPiece() {
        return roll(0, Math.max(0, plain.count(0) - 1));
    }

    private int rollStation() {
        return roll(0, Math.max(1, plain.count(1)));
    }

    private int rollBend() {
        return dice.nextInt(3) == 0 ? roll(-99, 99) : roll(-12, 12);
    }

    private int rollCant() {
        return dice.nextInt(3) == 0 ? roll(0, 160) : roll(0, 30);
    }

    private void change(String where) {
        switch (dice.nextInt(8)) {
            case 0:
            case 1:
            case 2: {
                int k = roll(0, 5);
                int n = dice.nextBoolean() ? roll(1, 20) : roll(1, 4);
                int b = rollBend();
                int c = rollCant();
                Check.due(where + "piece", x.piece(k, n, b, c), plain.piece(k, n, b, c));
                break;
            }
            case 3:
                Check.due(where + "drop", x.drop(), plain.drop());
                break;
            case 4:
            case 5: {
                int p = rollPiece();
                int what = roll(0, 3);
                int v = what == 1 ? rollBend() : what == 2 ? rollCant() : what == 3 ? roll(0, 5) : roll(1, 20);
                Check.due(where + "set", x.set(p, what, v), plain.set(p, what, v));
                break;
            }
            case 6: {
                int r = roll(0, 5);
                int v = new int[] {roll(1, 1000000), roll(0, 160), roll(0, 160), roll(0, 60), roll(0, 30), roll(0, 200)}[
                    r < 0 || r > 5 ? 0 : r];
                Check.due(where + "rule", x.rule(r, v), plain.rule(r, v));
                break;
            }
            default:
                aim(where);
                break;
        }
    }

    /** END and LEAN are put where some bends of the line truly lead, or else hardly any line would meet. */
    private void aim(String where) {
        int n = plain.count(0);
        if (n == 0) {
            return;
        }
        int i = dice.nextInt(n);
        int j = dice.nextInt(n);
        int a = dice.nextInt(61) - 30;
        int b = dice.nextInt(61) - 30;
        int wasI = x.set(i, 1, a);
        int wasJ = x.set(j, 1, b);
        plain.set(i, 1, a);
        plain.set(j, 1, b);
        int end = (int) plain.at(plain.count(1), 3);
        int lean = (int) plain.at(plain.count(1), 2);
        Check.due(where + "rule 6", x.rule(6, end), plain.rule(6, end));
        Check.due(where + "rule 7", x.rule(7, lean), plain.rule(7, lean));
        if (dice.nextInt(5) != 0) {
            Check.due(where + "set", x.set(j, 1, wasJ), plain.set(j, 1, wasJ));
            Check.due(where + "set", x.set(i, 1, wasI), plain.set(i, 1, wasI));
        }
        if (i != j && dice.nextInt(12) == 0) {
            Check.due(where + "both", x.both(i, j), plain.both(i, j));
        }
        Check.due(where + "meets", x.meets(i), plain.meets(i));
    }

    private void ask(String where) {
        int p = rollPiece();
        int s = rollStation();
        int what = roll(0, 4);
        switch (dice.nextInt(18)) {
            case 0:
                what = roll(0, 6);
                Check.due(where + "of", x.of(p, what), plain.of(p, what));
                break;
            case 1:
                Check.due(where + "taken", x.taken(p, what), plain.taken(p, what));
                break;
            case 2:
            case 3:
                Check.due(where + "at", x.at(s, what), plain.at(s, what));
                break;
            case 4:
                Check.due(where + "scaled", x.scaled(s), plain.scaled(s));
                break;
            case 5:
                Check.due(where + "join", x.join(p, what), plain.join(p, what));
                break;
            case 6:
                Check.due(where + "joins", x.joins(), plain.joins());
                break;
            case 7:
                Check.due(where + "need", x.need(s, what), plain.need(s, what));
                break;
            case 8:
                Check.due(where + "fault", x.fault(what), plain.fault(what));
                break;
            case 9:
                Check.due(where + "may", x.may(s), plain.may(s));
                break;
            case 10:
                Check.due(where + "limit", x.limit(), plain.limit());
                break;
            case 11:
                Check.due(where + "least", x.least(p), plain.least(p));
                break;
            case 12:
                what = roll(0, 1);
                Check.due(where + "miss", x.miss(what), plain.miss(what));
                break;
            case 13:
                Check.due(where + "meets", x.meets(p), plain.meets(p));
                break;
            case 14: {
                int q = roll(-1, 9);
                Check.due(where + "alike", x.alike(q), plain.alike(q));
                break;
            }
            case 15:
                Check.due(where + "count", x.count(what), plain.count(what));
                break;
            case 16: {
                int seed = dice.nextInt();
                int n = roll(0, 9);
                Check.due(where + "errors", x.errors(seed, n), plain.errors(seed, n));
                break;
            }
            default: {
                int seed = dice.nextInt();
                int m = roll(1, 20);
                int n = roll(0, 9);
                int w = roll(0, 900);
                int part = roll(0, 1);
                if (dice.nextInt(4) == 0) {
                    Check.due(where + "chance", x.chance(seed, m, n, w, part), plain.chance(seed, m, n, w, part));
                }
                break;
            }
        }
    }

    private void host(String where) {
        int sheet = roll(0, 3);
        switch (dice.nextInt(14)) {
            case 0: {
                int sort = dice.nextInt(6) == 0 ? roll(-1, 1) : roll(0, 1);
                int n = dice.nextBoolean() ? roll(0, 40) : roll(0, 8);
                Check.due(where + "sheet", x.sheet(sheet, sort, n), plain.sheet(sheet, sort, n));
                break;
            }
            case 1:
            case 2:
            case 3: {
                int i = roll(0, 20);
                int v = dice.nextInt(10) == 0 ? dice.nextInt() : rollBend();
                Check.due(where + "put", x.put(sheet, i, v), plain.put(sheet, i, v));
                break;
            }
            case 4: {
                int other = roll(0, 3);
                int i = roll(0, 20);
                int j = roll(0, 20);
                int n = roll(0, 20);
                Check.due(where + "copy", x.copy(sheet, i, other, j, n), plain.copy(sheet, i, other, j, n));
                break;
            }
            case 5:
                Check.due(where + "image", x.image(), plain.image());
                break;
            case 6:
                Check.due(where + "back", x.back(), plain.back());
                break;
            case 7:
                loadWritten(where, sheet);
                break;
            case 8: {
                int f = dice.nextBoolean() ? Math.max(1, rollStation()) : roll(1, 200);
                int n = dice.nextBoolean() ? roll(0, 8) : roll(0, 40);
                Check.due(where + "film", x.film(sheet, f, n), plain.film(sheet, f, n));
                int p = roll(-1, 9);
                Check.due(where + "tells", x.tells(sheet, f, p), plain.tells(sheet, f, p));
                break;
            }
            case 9: {
                int f = dice.nextBoolean() ? Math.max(1, rollStation()) : roll(1, 200);
                int p = roll(-1, 9);
                Check.due(where + "tells", x.tells(sheet, f, p), plain.tells(sheet, f, p));
                break;
            }
            case 10: {
                int s = rollStation();
                Check.due(where + "slew", x.slew(sheet, s), plain.slew(sheet, s));
                break;
            }
            case 11: {
                int what = roll(0, 2);
                Check.due(where + "slews", x.slews(sheet, what), plain.slews(sheet, what));
                break;
            }
            default: {
                int p = rollPiece();
                if (dice.nextInt(8) == 0) {
                    Check.due(where + "by", x.by(sheet, p), plain.by(sheet, p));
                }
                break;
            }
        }
    }

    private void loadWritten(String where, int sheet) {
        int from = roll(0, 12);
        for (int i = from; i < from + 12; i += 4) {
            int[] q = {roll(0, 5), roll(1, 5), rollBend(), rollCant()};
            for (int k = 0; k < 4; k++) {
                Check.due(where + "put", x.put(sheet, i + k, q[k]), plain.put(sheet, i + k, q[k]));
            }
        }
        int sort = roll(0, 1);
        int n = roll(0, 4);
        Check.due(where + "load", x.load(sheet, sort, from, n), plain.load(sheet, sort, from, n));
    }

    private void tape(String where) {
        if (dice.nextInt(3) == 0) {
            Check.due(where + "text", x.text(), plain.text());
            return;
        }
        String text = dice.nextInt(4) == 0 ? noise() : clause();
        for (int i = 0; i < text.length(); i += 5) {
            int[] b = new int[5];
            int n = Math.min(5, text.length() - i);
            for (int k = 0; k < n; k++) {
                b[k] = text.charAt(i + k);
            }
            Check.due(where + "feed", x.feed(n, b[0], b[1], b[2], b[3], b[4]), plain.feed(n, b));
        }
    }

    private String noise() {
        String signs = "ab;;  -0 1 \n9\tA";
        StringBuilder text = new StringBuilder();
        int n = dice.nextInt(6);
        for (int i = 0; i < n; i++) {
            text.append(signs.charAt(dice.nextInt(signs.length())));
        }
        return text.toString();
    }

    private String clause() {
        int w = dice.nextInt(dice.nextInt(6) == 0 ? WORDS.length : 5);
        int asked = new int[] {4, 2, 2, 1, 0, 0, 4, 1}[w];
        StringBuilder text = new StringBuilder(plain.count(2) == 0 ? "" : ";").append(WORDS[w]);
        if (dice.nextInt(25) == 0) {
            asked += dice.nextInt(3) - 1;
        }
        for (int i = 0; i < asked; i++) {
            int v = i == 1 && w == 0 ? roll(1, 20) : i == 0 ? roll(0, 5) : rollCant();
            v = dice.nextInt(4) == 0 ? -v : v;
            text.append(v < 0 && dice.nextBoolean() ? "" : " ").append(v);
        }
        return text.toString();
    }

    /** Any numbers at all, which change nothing but where they happen to be good. */
    private void wide(String where, int call) {
        int[] r = new int[6];
        for (int i = 0; i < 6; i++) {
            r[i] = new int[] {dice.nextInt(), Integer.MIN_VALUE, Integer.MAX_VALUE, -1, 0, 1, 2}[dice.nextInt(7)];
        }
        Check.due(where + "piece", x.piece(r[0], r[1], r[2], r[3]), plain.piece(r[0], r[1], r[2], r[3]));
        Check.due(where + "set", x.set(r[0], r[1], r[2]), plain.set(r[0], r[1], r[2]));
        Check.due(where + "rule", x.rule(r[0], r[1]), plain.rule(r[0], r[1]));
        Check.due(where + "load", x.load(r[0], r[1], r[2], r[3]), plain.load(r[0], r[1], r[2], r[3]));
        Check.due(where + "copy", x.copy(r[0], r[1], r[2], r[3], r[4]), plain.copy(r[0], r[1], r[2], r[3], r[4]));
        Check.due(where + "chance", x.chance(r[0], r[1], r[2], r[3], r[4]), plain.chance(r[0], r[1], r[2], r[3], r[4]));
        Check.due(where + "feed", x.feed(r[0], r[1], r[2], r[3], r[4], r[5]),
            plain.feed(r[0], r[1], r[2], r[3], r[4], r[5]));
        Check.due(where + "film", x.film(r[0], r[1], r[2]), plain.film(r[0], r[1], r[2]));
        Check.due(where + "tells", x.tells(r[0], r[1], r[2]), plain.tells(r[0], r[1], r[2]));
        Check.due(where + "sheet", x.sheet(r[0], r[1], r[2]), plain.sheet(r[0], r[1], r[2]));
        Check.due(where + "put", x.put(r[0], r[1], r[2]), plain.put(r[0], r[1], r[2]));
        Check.due(where + "slew", x.slew(r[0], r[1]), plain.slew(r[0], r[1]));
        Check.due(where + "slews", x.slews(r[0], r[1]), plain.slews(r[0], r[1]));
        Check.due(where + "errors", x.errors(r[0], r[1]), plain.errors(r[0], r[1]));
        Check.due(where + "at", x.at(r[0], r[1]), plain.at(r[0], r[1]));
        Check.due(where + "need", x.need(r[0], r[1]), plain.need(r[0], r[1]));
        Check.due(where + "join", x.join(r[0], r[1]), plain.join(r[0], r[1]));
        Check.due(where + "of", x.of(r[0], r[1]), plain.of(r[0], r[1]));
        Check.due(where + "taken", x.taken(r[0], r[1]), plain.taken(r[0], r[1]));
    }

    private void whole(String where) {
        for (int s = 0; s <= plain.count(1) + 1; s++) {
            for (int what = 0; what < 5; what++) {
                Check.due(where + "at(" + s + ", " + what + ")", x.at(s, what), plain.at(s, what));
            }
            Check.due(where + "may(" + s + ")", x.may(s), plain.may(s));
        }
        for (int p = 0; p < 10; p++) {
            for (int what = 0; what < 7; what++) {
                Check.due(where + "of(" + p + ", " + what + ")", x.of(p, what), plain.of(p, what));
            }
        }
        for (int sheet = 0; sheet < 4; sheet++) {
            for (int what = 0; what < 3; what++) {
                Check.due(where + "slews(" + sheet + ", " + what + ")", x.slews(sheet, what), plain.slews(sheet, what));
            }
            Check.due(where + "by(" + sheet + ", 0)", x.by(sheet, 0), plain.by(sheet, 0));
        }
    }
}
