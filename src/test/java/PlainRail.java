import java.util.ArrayList;
import java.util.Arrays;
import java.util.List;
import java.util.TreeMap;
import java.util.regex.Matcher;
import java.util.regex.Pattern;

/**
 * The document once more, word by word and without a thought for its cost: each answer is worked out anew from the
 * pieces, each trial lays a whole line. RandomRunsTest holds the class against it.
 */
final class PlainRail {
    static final long NO = Long.MIN_VALUE;
    private static final int[][] UNDER = {{0}, {1, 0}, {2, 0}, {3, 1, 0}, {4, 2, 0}, {5, 1, 0}};
    private static final int[][] LIMITS = {{0, 5}, {1, 20}, {-99, 99}, {0, 160}};
    private static final int[][] RULES = {{1, 1000000}, {0, 160}, {0, 160}, {0, 160}, {0, 99}, {0, 200},
        {-1000000, 1000000}, {-10000, 10000}};

    private List<int[]> pieces = new ArrayList<>();
    private int[] rules = {1, 75, 75, 20, 5, 60, 0, 0};
    private List<int[]> keptPieces = null;
    private int[] keptRules = null;
    private final Object[] sheets = new Object[4];
    private String tape = "";

    // ---- the line

    private static List<int[]> copyOf(List<int[]> list) {
        List<int[]> copy = new ArrayList<>();
        for (int[] p : list) {
            copy.add(p.clone());
        }
        return copy;
    }

    private static boolean isUnder(int kind, int k) {
        return Arrays.stream(UNDER[kind]).anyMatch(u -> u == k);
    }

    /** Rows of VERSINE, HEIGHT, PIECE, place in the PIECE; one a station, station 1 first. */
    private static List<int[]> lay(List<int[]> list) {
        List<int[]> line = new ArrayList<>();
        for (int p = 0; p < list.size(); p++) {
            int[] q = list.get(p);
            int v = line.isEmpty() ? 0 : line.get(line.size() - 1)[0];
            int h = line.isEmpty() ? 0 : line.get(line.size() - 1)[1];
            int n = q[1];
            for (int k = 1; k <= n; k++) {
                int versine = 0;
                int height = q[3];
                if (q[0] == 1) {
                    versine = q[2];
                } else if (q[0] == 2) {
                    versine = v + (q[2] - v) * k / n;
                } else if (q[0] == 3) {
                    versine = -q[2];
                } else if (q[0] == 4) {
                    versine = v + (q[2] - v) * k * k / (n * n);
                } else if (q[0] == 5) {
                    versine = q[2] / 2;
                }
                if (isUnder(q[0], 2)) {
                    height = h + (q[3] - h) * k / n;
                }
                line.add(new int[] {versine, height, p, k});
            }
        }
        return line;
    }

    private static long[] sums(List<int[]> line, int station) {
        long turn = 0;
        long offset = 0;
        for (int s = 0; s < station; s++) {
            turn += line.get(s)[0];
            offset += turn;
        }
        return new long[] {turn, offset};
    }

    private boolean has(int piece) {
        return piece >= 0 && piece < pieces.size();
    }

    private boolean hasStation(int station) {
        return station >= 1 && station <= lay(pieces).size();
    }

    private List<int[]> with(int piece, int field, int v) {
        List<int[]> other = copyOf(pieces);
        other.get(piece)[field] = v;
        return other;
    }

    // ---- pieces

    int piece(int kind, int length, int bend, int cant) {
        int[] q = {kind, length, bend, cant};
        for (int i = 0; i < 4; i++) {
            if (q[i] < LIMITS[i][0] || q[i] > LIMITS[i][1]) {
                return -2;
            }
        }
        if (pieces.size() == 10) {
            return -4;
        }
        pieces.add(q);
        return pieces.size() - 1;
    }

    int drop() {
        if (pieces.isEmpty()) {
            return -3;
        }
        pieces.remove(pieces.size() - 1);
        return pieces.size();
    }

    int set(int piece, int what, int v) {
        if (!has(piece) || what < 0 || what > 3) {
            return -1000;
        }
        int field = new int[] {1, 2, 3, 0}[what];
        if (v < LIMITS[field][0] || v > LIMITS[field][1]) {
            return -1000;
        }
        int was = pieces.get(piece)[field];
        pieces.get(piece)[field] = v;
        return was;
    }

    int of(int piece, int what) {
        if (!has(piece) || what < 0 || what > 6) {
            return -1000;
        }
        int[] q = pieces.get(piece);
        if (what < 4) {
            return q[what];
        }
        if (what == 4) {
            String digits = q[1] == 1 ? "123" : "13";
            digits += isUnder(q[0], 1) ? "4" : "";
            digits += isUnder(q[0], 2) ? "5" : "";
            digits += q[0] > 2 ? q[0] + 3 : "";
            return Integer.parseInt(digits);
        }
        int first = 1;
        for (int p = 0; p < piece; p++) {
            first += pieces.get(p)[1];
        }
        return what == 5 ? first : first + q[1] - 1;
    }

    int taken(int piece, int k) {
        if (!has(piece) || k < 0 || k > 5) {
            return -2;
        }
        return isUnder(pieces.get(piece)[0], k) ? pieces.get(piece)[1] : -13;
    }

    long rule(int rule, int v) {
        if (rule < 0 || rule > 7 || v < RULES[rule][0] || v > RULES[rule][1]) {
            return NO;
        }
        int was = rules[rule];
        rules[rule] = v;
        return was;
    }

    // ---- stations

    long at(int station, int what) {
        if (what < 0 || what > 4 || station != 0 && !hasStation(station) || station == 0 && what == 4) {
            return NO;
        }
        if (station == 0) {
            return 0;
        }
        int[] row = lay(pieces).get(station - 1);
        long[] sums = sums(lay(pieces), station);
        return new long[] {row[0], row[1], sums[0], sums[1], row[2]}[what];
    }

    long scaled(int station) {
        long offset = at(station, 3);
        if (offset == NO) {
            return NO;
        }
        long product = offset * rules[0];
        return product == (int) product ? product : NO;
    }

    int join(int i, int what) {
        if (i < 0 || i >= pieces.size() - 1 || what < 0 || what > 2) {
            return -2;
        }
        int s = of(i, 6);
        int v = (int) Math.abs(at(s, 0) - at(s + 1, 0));
        int h = (int) Math.abs(at(s, 1) - at(s + 1, 1));
        return what == 0 ? v : what == 1 ? h : v > rules[4] || h > rules[3] ? 1 : 0;
    }

    int joins() {
        int bits = 0;
        for (int i = 0; i < 9; i++) {
            bits += join(i, 2) == 1 ? 1 << i : 0;
        }
        return bits;
    }

    // ---- cants, speeds

    private boolean lacks(List<int[]> line, int station, int speed) {
        return needOf(line, station, speed) - line.get(station - 1)[1] > rules[1];
    }

    private boolean tooHigh(List<int[]> line, int station, int speed) {
        return line.get(station - 1)[1] - needOf(line, station, speed) > rules[2];
    }

    private static int needOf(List<int[]> line, int station, int speed) {
        return speed * speed * Math.abs(line.get(station - 1)[0]) / 1000;
    }

    private boolean steep(List<int[]> line, int station) {
        int ahead = station == 1 ? 0 : line.get(station - 2)[1];
        return Math.abs(line.get(station - 1)[1] - ahead) > rules[3];
    }

    int need(int station, int what) {
        if (!hasStation(station) || what < 0 || what > 3) {
            return -2;
        }
        List<int[]> line = lay(pieces);
        if (what == 0) {
            return needOf(line, station, rules[5]);
        }
        boolean so = what == 1 ? lacks(line, station, rules[5])
            : what == 2 ? tooHigh(line, station, rules[5]) : steep(line, station);
        return so ? 1 : 0;
    }

    int fault(int what) {
        if (what < 0 || what > 3) {
            return -2;
        }
        List<int[]> line = lay(pieces);
        for (int s = 1; s <= line.size(); s++) {
            int why = lacks(line, s, rules[5]) ? 1 : tooHigh(line, s, rules[5]) ? 2 : steep(line, s) ? 3 : 0;
            if (why > 0) {
                List<Integer> causes = causes(line, s, why);
                return new int[] {s, why, causes.size(), causes.get(causes.size() - 1)}[what];
            }
        }
        return what == 0 ? -1 : 0;
    }

    private List<Integer> causes(List<int[]> line, int s, int why) {
        int[] row = line.get(s - 1);
        List<Integer> causes = new ArrayList<>(List.of(1));
        if (why == 1 && Math.abs(pieces.get(row[2])[2]) > 50) {
            causes.add(2);
        }
        if (why == 2) {
            causes.add(3);
        }
        if (why == 3 && row[3] == 1 && row[2] != 0) {
            causes.add(4);
            if (Math.abs(row[0] - line.get(s - 2)[0]) > rules[4]) {
                causes.add(5);
            }
        }
        return causes;
    }

    int may(int station) {
        if (!hasStation(station)) {
            return -2;
        }
        List<int[]> line = lay(pieces);
        int best = -1;
        for (int v = 0; v <= 200; v += 5) {
            best = lacks(line, station, v) || tooHigh(line, station, v) ? best : v;
        }
        return best;
    }

    int limit() {
        List<int[]> line = lay(pieces);
        int best = -1;
        for (int v = 0; v <= 200; v += 5) {
            boolean all = true;
            for (int s = 1; s <= line.size(); s++) {
                all &= !lacks(line, s, v) && !tooHigh(line, s, v);
            }
            best = all ? v : best;
        }
        return best;
    }

    int least(int piece) {
        if (!has(piece)) {
            return -2;
        }
        for (int cant = 0; cant <= 160; cant++) {
            List<int[]> line = lay(with(piece, 3, cant));
            boolean none = true;
            for (int s = 1; s <= line.size(); s++) {
                none &= line.get(s - 1)[2] != piece || !lacks(line, s, rules[5]);
            }
            if (none) {
                return cant;
            }
        }
        return -1;
    }

    // ---- ends that meet

    private long[] missOf(List<int[]> list) {
        List<int[]> line = lay(list);
        long[] sums = sums(line, line.size());
        return new long[] {sums[1] - rules[6], sums[0] - rules[7]};
    }

    long miss(int what) {
        return what < 0 || what > 1 ? NO : missOf(pieces)[what];
    }

    private boolean meetsSo(List<int[]> list) {
        long[] miss = missOf(list);
        return miss[0] == 0 && miss[1] == 0;
    }

    int meets(int piece) {
        if (!has(piece)) {
            return -2;
        }
        TreeMap<Integer, Integer> found = new TreeMap<>();
        for (int bend = -99; bend <= 99; bend++) {
            if (meetsSo(with(piece, 2, bend))) {
                found.put(Math.abs(bend) * 2 - (bend > 0 ? 1 : 0), bend);
            }
        }
        return found.isEmpty() ? -1 : 1000 + found.firstEntry().getValue();
    }

    int both(int i, int j) {
        if (!has(i) || !has(j) || i == j) {
            return -2;
        }
        for (int b = -30; b <= 30; b++) {
            for (int c = -30; c <= 30; c++) {
                List<int[]> other = with(i, 2, b);
                other.get(j)[2] = c;
                if (meetsSo(other)) {
                    return (b + 30) * 61 + c + 30;
                }
            }
        }
        return -1;
    }

    int alike(int piece) {
        if (piece == -1) {
            return (int) pieces.stream().map(Arrays::toString).distinct().count();
        }
        if (!has(piece)) {
            return -2;
        }
        int bits = 0;
        for (int p = 0; p < pieces.size(); p++) {
            bits += Arrays.equals(pieces.get(p), pieces.get(piece)) ? 1 << p : 0;
        }
        return bits;
    }

    // ---- an old line

    private boolean isSheet(int sheet) {
        return sheet >= 0 && sheet < 4;
    }

    private boolean isMissing(int sheet) {
        return sheets[sheet] == null;
    }

    private int sizeOf(int sheet) {
        return sheets[sheet] instanceof short[] s ? s.length : ((int[]) sheets[sheet]).length;
    }

    private int itemOf(int sheet, int i) {
        return sheets[sheet] instanceof short[] s ? s[i] : ((int[]) sheets[sheet])[i];
    }

    /** Slews at stations 0, 1, .. */
    private long[] slewsOff(List<int[]> line, int[] old) {
        long[] slews = new long[line.size() + 1];
        for (int s = 1; s <= line.size(); s++) {
            long offset = 0;
            for (int i = 0; i < s; i++) {
                offset += (long) (s - i) * ((i < old.length ? old[i] : 0) - line.get(i)[0]);
            }
            slews[s] = offset;
        }
        return slews;
    }

    private int[] oldLine(int sheet) {
        int[] old = new int[sizeOf(sheet)];
        for (int i = 0; i < old.length; i++) {
            old[i] = Math.max(-999, Math.min(999, itemOf(sheet, i)));
        }
        return old;
    }

    private static long greatest(long[] slews) {
        return Arrays.stream(slews).map(Math::abs).max().orElse(0);
    }

    long slew(int sheet, int station) {
        if (!isSheet(sheet) || isMissing(sheet) || station != 0 && !hasStation(station)) {
            return NO;
        }
        return slewsOff(lay(pieces), oldLine(sheet))[station];
    }

    long slews(int sheet, int what) {
        if (!isSheet(sheet) || isMissing(sheet) || what < 0 || what > 2) {
            return NO;
        }
        long[] slews = slewsOff(lay(pieces), oldLine(sheet));
        if (what == 1) {
            return Arrays.stream(slews).map(Math::abs).sum();
        }
        if (what == 2) {
            return slews[slews.length - 1];
        }
        for (int s = 1; s < slews.length; s++) {
            if (Math.abs(slews[s]) == greatest(slews)) {
                return s;
            }
        }
        return -1;
    }

    int by(int sheet, int piece) {
        if (!isSheet(sheet) || !has(piece)) {
            return -2;
        }
        if (isMissing(sheet)) {
            return -11;
        }
        int best = 99;
        long least = Long.MAX_VALUE;
        for (int bend = 99; bend >= -99; bend--) {
            long greatest = greatest(slewsOff(lay(with(piece, 2, bend)), oldLine(sheet)));
            if (greatest <= least) {
                least = greatest;
                best = bend;
            }
        }
        return 1000 + best;
    }

    long errors(int seed, int n) {
        if (n < 0 || n > 9) {
            return NO;
        }
        List<int[]> line = lay(pieces);
        int[] old = new int[line.size()];
        int z = seed;
        for (int i = 0; i < old.length; i++) {
            z = z * 1103515245 + 12345;
            old[i] = line.get(i)[0] + (z >>> 9) % (2 * n + 1) - n;
        }
        return greatest(slewsOff(line, old));
    }

    int chance(int seed, int m, int n, int w, int part) {
        if (m < 1 || m > 20 || n < 0 || n > 9 || w < 0 || part < 0 || part > 1) {
            return -2;
        }
        int above = 0;
        for (int i = 0; i < m; i++) {
            above += errors(seed + i, n) <= w ? 1 : 0;
        }
        int below = m;
        for (int d = m; d > 1; d--) {
            if (above % d == 0 && below % d == 0) {
                above /= d;
                below /= d;
            }
        }
        return part == 0 ? above : below;
    }

    // ---- what was told, texts

    private int firstOtherwise(List<int[]> line, int sheet, int f) {
        for (int i = 0; i < sizeOf(sheet); i++) {
            if (f + i > line.size() || line.get(f + i - 1)[0] != itemOf(sheet, i)) {
                return i;
            }
        }
        return -1;
    }

    int tells(int sheet, int f, int piece) {
        if (!isSheet(sheet) || f < 1 || f > 200 || piece != -1 && !has(piece)) {
            return -2;
        }
        if (isMissing(sheet)) {
            return -11;
        }
        if (sizeOf(sheet) > 8) {
            return -2;
        }
        if (piece == -1) {
            return firstOtherwise(lay(pieces), sheet, f);
        }
        int bits = 0;
        for (int kind = 0; kind < 6; kind++) {
            bits += firstOtherwise(lay(with(piece, 0, kind)), sheet, f) == -1 ? 1 << kind : 0;
        }
        return bits;
    }

    int film(int sheet, int f, int n) {
        if (!isSheet(sheet) || f < 1 || f > 200 || n < 0 || n > 40) {
            return -2;
        }
        List<int[]> line = lay(pieces);
        short[] film = new short[n];
        for (int i = 0; i < n; i++) {
            film[i] = f + i <= line.size() ? (short) line.get(f + i - 1)[0] : 0;
        }
        sheets[sheet] = film;
        return n;
    }

    int feed(int n, int... bytes) {
        for (int b : bytes) {
            if (b < 0 || b > 255) {
                return -2;
            }
        }
        if (n < 1 || n > 5) {
            return -2;
        }
        if (tape.length() + n > 60) {
            return -4;
        }
        for (int i = 0; i < n; i++) {
            tape += (char) bytes[i];
        }
        return tape.length();
    }

    /** Tokens are matched one by one; a clause is asked for as a string of their sorts. */
    int text() {
        String text = tape;
        tape = "";
        Matcher token = Pattern.compile("[ \n]*(?:([a-z]+)|(-?[0-9]+)|(;)|($)|.)", Pattern.DOTALL).matcher(text);
        List<List<String>> clauses = new ArrayList<>();
        List<String> clause = new ArrayList<>();
        int asked = -1;
        while (token.find()) {
            String word = token.group(1);
            String number = token.group(2);
            if (asked == -1) {
                int w = word == null ? -1 : List.of("piece", "bend", "cant", "speed", "drop").indexOf(word);
                if (w < 0) {
                    return -100 - begin(text, token.start());
                }
                asked = new int[] {4, 2, 2, 1, 0}[w];
                clause.add(word);
            } else if (asked > 0) {
                if (number == null || number.replace("-", "").length() > 3) {
                    return -100 - begin(text, token.start());
                }
                asked--;
                clause.add(number);
            } else {
                clauses.add(clause);
                if (token.group(4) != null) {
                    return carryOut(clauses);
                }
                if (token.group(3) == null) {
                    return -100 - begin(text, token.start());
                }
                clause = new ArrayList<>();
                asked = -1;
            }
        }
        return -999;
    }

    private static int begin(String text, int from) {
        int i = from;
        while (i < text.length() && (text.charAt(i) == ' ' || text.charAt(i) == '\n')) {
            i++;
        }
        return i;
    }

    private int carryOut(List<List<String>> clauses) {
        int done = 0;
        for (List<String> clause : clauses) {
            int[] a = clause.stream().skip(1).mapToInt(Integer::parseInt).toArray();
            boolean good;
            if (clause.get(0).equals("piece")) {
                good = piece(a[0], a[1], a[2], a[3]) >= 0;
            } else if (clause.get(0).equals("bend")) {
                good = set(a[0], 1, a[1]) != -1000;
            } else if (clause.get(0).equals("cant")) {
                good = set(a[0], 2, a[1]) != -1000;
            } else if (clause.get(0).equals("speed")) {
                good = rule(5, a[0]) != NO;
            } else {
                good = drop() != -3;
            }
            done += good ? 1 : 0;
        }
        return done;
    }

    // ---- the image, the host

    int image() {
        keptPieces = copyOf(pieces);
        keptRules = rules.clone();
        return pieces.size();
    }

    int back() {
        if (keptPieces == null) {
            return -3;
        }
        pieces = copyOf(keptPieces);
        rules = keptRules.clone();
        return pieces.size();
    }

    int load(int sheet, int sort, int from, int n) {
        if (!isSheet(sheet) || sort < 0 || sort > 1 || n < 0 || n > 10) {
            return -2;
        }
        if (!isMissing(sheet) && sheets[sheet] instanceof short[] != (sort == 0)) {
            return -13;
        }
        if (isMissing(sheet)) {
            return -11;
        }
        int came = 0;
        for (long i = from; i < from + 4L * n; i += 4) {
            if (i < 0 || i + 3 >= sizeOf(sheet)) {
                return -12;
            }
            int k = (int) i;
            came += piece(itemOf(sheet, k), itemOf(sheet, k + 1), itemOf(sheet, k + 2), itemOf(sheet, k + 3)) >= 0 ? 1 : 0;
        }
        return came;
    }

    int count(int what) {
        switch (what) {
            case 0:
                return pieces.size();
            case 1:
                return lay(pieces).size();
            case 2:
                return tape.length();
            case 3:
                return pieces.stream().filter(q -> q[0] == 3).mapToInt(q -> q[1]).sum();
            case 4:
                return (int) lay(pieces).stream().filter(row -> row[1] > 0).count();
            default:
                return -2;
        }
    }

    int sheet(int sheet, int sort, int n) {
        if (!isSheet(sheet) || sort < -1 || sort > 1 || sort != -1 && n > 40) {
            return -2;
        }
        if (sort != -1 && n < 0) {
            return -14;
        }
        sheets[sheet] = sort == -1 ? null : sort == 0 ? new short[n] : (Object) new int[n];
        return 1;
    }

    int put(int sheet, int i, int v) {
        if (!isSheet(sheet)) {
            return -2;
        }
        if (isMissing(sheet)) {
            return -11;
        }
        if (i < 0 || i >= sizeOf(sheet)) {
            return -12;
        }
        if (sheets[sheet] instanceof short[] s) {
            s[i] = (short) v;
        } else {
            ((int[]) sheets[sheet])[i] = v;
        }
        return 1;
    }

    int copy(int sheet, int i, int other, int j, int n) {
        if (!isSheet(sheet) || !isSheet(other)) {
            return -2;
        }
        if (isMissing(sheet) || isMissing(other)) {
            return -11;
        }
        if (sheets[sheet].getClass() != sheets[other].getClass()) {
            return -13;
        }
        if (i < 0 || j < 0 || n < 0 || (long) i + n > sizeOf(sheet) || (long) j + n > sizeOf(other)) {
            return -12;
        }
        System.arraycopy(sheets[sheet], i, sheets[other], j, n);
        return n;
    }
}
