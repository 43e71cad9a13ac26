import java.util.ArrayList;
import java.util.Arrays;
import java.util.List;
import java.util.TreeMap;

/**
 * The document once more, as plainly as can be and by other ways than the class goes: it tries things out where the
 * class counts. Only for tests: it makes objects as it likes.
 */
final class Model {
    private static final int NONE = -1;

    /** A SUM (null: BROKEN) or a TEST (1, 0, null) of a TEXT that was read. */
    interface Tree { Long tell(int[] values); }

    static final class Clause {
        String kind;
        int state = -2;
        int cue = -2;
        Tree sum;
        Tree go;
        Tree test;
    }

    static final class Fault extends Exception {
        final int place;
        Fault(int place) { this.place = place; }
    }

    /** What an IMAGE keeps. */
    static final class Town {
        List<int[]> parts = new ArrayList<>();          // from, till
        List<int[][][]> scripts = new ArrayList<>();    // [state][cue] {word, next}, null a HOLE
        List<int[]> people = new ArrayList<>();         // born, dead, memory
        List<int[]> versions = new ArrayList<>();       // part, holder, teacher
        List<int[][][]> played = new ArrayList<>();
        List<Integer> cues = new ArrayList<>();
        List<int[]> deeds = new ArrayList<>();          // row, cue, word
        int[] terms = {0, 0, 10};
        List<List<Clause>> laws = new ArrayList<>();
        int force = NONE;

        Town copy() {
            Town t = new Town();
            for (int[] p : parts) t.parts.add(p.clone());
            for (int[][][] s : scripts) t.scripts.add(copyScript(s));
            for (int[] p : people) t.people.add(p.clone());
            for (int[] v : versions) t.versions.add(v.clone());
            for (int[][][] s : played) t.played.add(copyScript(s));
            t.cues.addAll(cues);
            for (int[] d : deeds) t.deeds.add(d.clone());
            t.terms = terms.clone();
            t.laws.addAll(laws);
            t.force = force;
            return t;
        }
    }

    Town t = new Town();
    Town[] images = new Town[2];
    StringBuilder tape = new StringBuilder();
    int fault = NONE;
    int prattle = 0;
    int status = 0;
    int[] refused = new int[12];
    int[][][] century;
    int[] pupils;
    int peopleThen = 0;

    static int[][][] copyScript(int[][][] s) {
        int[][][] c = new int[6][6][];
        for (int i = 0; i < 6; i++) for (int j = 0; j < 6; j++) if (s[i][j] != null) c[i][j] = s[i][j].clone();
        return c;
    }

    private int refuse(int why) {
        status = why;
        refused[-why]++;
        return why;
    }

    private int accept(int answer) {
        status = 0;
        return answer;
    }

    private static boolean in(int value, int low, int high) { return value >= low && value <= high; }
    private boolean isPart(int p) { return in(p, 0, t.parts.size() - 1); }
    private boolean isPerson(int p) { return in(p, 0, t.people.size() - 1); }
    private boolean isVersion(int v) { return in(v, 0, t.versions.size() - 1); }
    private boolean alive(int p, int year) { return t.people.get(p)[0] <= year && year < t.people.get(p)[1]; }

    long call(String name, int... a) {
        switch (name) {
            case "part":
                if (!in(a[0], 0, 23) || !in(a[1], 0, 24) || a[1] <= a[0]) return refuse(-1);
                if (t.parts.size() == 6) return refuse(-5);
                t.parts.add(new int[] {a[0], a[1]});
                t.scripts.add(new int[6][6][]);
                return accept(t.parts.size() - 1);
            case "rule": {
                if (!in(a[1], 0, 5) || !in(a[2], 0, 5) || !in(a[3], 0, 9) || !in(a[4], 0, 5)) return refuse(-1);
                if (!isPart(a[0])) return refuse(-2);
                int[] had = t.scripts.get(a[0])[a[1]][a[2]];
                t.scripts.get(a[0])[a[1]][a[2]] = new int[] {a[3], a[4]};
                return accept(had == null ? NONE : had[0]);
            }
            case "hush": {
                if (!in(a[1], 0, 5) || !in(a[2], 0, 5)) return refuse(-1);
                if (!isPart(a[0])) return refuse(-2);
                int[] had = t.scripts.get(a[0])[a[1]][a[2]];
                t.scripts.get(a[0])[a[1]][a[2]] = null;
                return accept(had == null ? NONE : had[0]);
            }
            case "of": return isPart(a[0]) ? ruleOf(t.scripts.get(a[0]), a[1], a[2], a[3]) : NONE;
            case "stage":
                if (!isPart(a[0])) return NONE;
                if (in(a[1], 0, 1)) return t.parts.get(a[0])[a[1]];
                if (a[1] == 2) return filled(t.scripts.get(a[0]));
                return a[1] == 3 ? t.versions.stream().filter(v -> v[0] == a[0]).count() : NONE;
            case "person":
                if (!in(a[0], 0, 200) || a[1] <= a[0] || a[1] > 300 || !in(a[2], 1, 9)) return refuse(-1);
                if (t.people.size() == 8) return refuse(-5);
                t.people.add(new int[] {a[0], a[1], a[2]});
                return accept(t.people.size() - 1);
            case "put": {
                if (!in(a[1], 0, 1) || !in(a[2], a[1], a[1] == 0 ? 300 : 9)) return refuse(-1);
                if (!isPerson(a[0])) return refuse(-2);
                if (a[1] == 0 && a[2] <= t.people.get(a[0])[0]) return refuse(-1);
                int was = t.people.get(a[0])[a[1] + 1];
                t.people.get(a[0])[a[1] + 1] = a[2];
                return accept(was);
            }
            case "fact":
                if (!isPerson(a[0]) || !in(a[1], 0, 3)) return NONE;
                return a[1] < 3 ? t.people.get(a[0])[a[1]] : alive(a[0], t.terms[0]) ? 1 : 0;
            case "terms": {
                if (!in(a[0], 0, 2) || !in(a[1], 0, new int[] {300, 9, 100}[a[0]])) return refuse(-1);
                int was = t.terms[a[0]];
                t.terms[a[0]] = a[1];
                return accept(was);
            }
            default: return callTexts(name, a);
        }
    }

    private long callTexts(String name, int[] a) {
        switch (name) {
            case "feed":
                if (tape.length() + 20 > 400) return NONE;
                for (int number : a) for (int i = 3; i >= 0; i--) tape.append((char) (number >> 8 * i & 255));
                return tape.length();
            case "end":
                if (!in(a[0], 0, tape.length())) return NONE;
                tape.setLength(a[0]);
                return a[0];
            case "row": {
                if (!isPart(a[0])) return refuse(-2);
                if (tape.length() == 0) return refuse(-6);
                int came = 0;
                prattle = 0;
                String bytes = tape.toString();
                for (int i = 0; i < bytes.length(); i += 4) {
                    boolean fits = i + 4 <= bytes.length() && bytes.charAt(i) < 6 && bytes.charAt(i + 1) < 6
                        && bytes.charAt(i + 2) < 10 && bytes.charAt(i + 3) < 6;
                    if (fits) {
                        t.scripts.get(a[0])[bytes.charAt(i)][bytes.charAt(i + 1)] =
                            new int[] {bytes.charAt(i + 2), bytes.charAt(i + 3)};
                        came++;
                    } else {
                        prattle++;
                    }
                }
                tape.setLength(0);
                return accept(came);
            }
            case "prattle": return prattle;
            case "play": {
                if (!isPart(a[0])) return refuse(-2);
                List<Clause> text = readTape("play");
                return text == null ? refuse(-6) : accept(run(text, a[0]));
            }
            case "law": {
                if (t.laws.size() == 6) {
                    tape.setLength(0);
                    return refuse(-5);
                }
                List<Clause> text = readTape("law");
                if (text == null) return refuse(-6);
                t.laws.add(text);
                return accept(t.laws.size() - 1);
            }
            case "fault": return fault;
            case "force": {
                if (a[0] != NONE && !in(a[0], 0, t.laws.size() - 1)) return refuse(-2);
                int was = t.force;
                t.force = a[0];
                return accept(was);
            }
            case "asks":
                if (!isPerson(a[0]) || !isPart(a[1]) || a[2] != NONE && !isPerson(a[2]) || !in(a[3], 0, 2)) return NONE;
                return ask(a[0], a[1], a[2], t.terms[0])[a[3]];
            default: return callVersions(name, a);
        }
    }

    private long callVersions(String name, int[] a) {
        switch (name) {
            case "cue":
                if (!in(a[0], 0, 5)) return refuse(-1);
                if (t.cues.size() == 12) return refuse(-5);
                t.cues.add(a[0]);
                return accept(t.cues.size());
            case "still": {
                int were = t.cues.size();
                t.cues.clear();
                return were;
            }
            case "begin":
                if (!isPart(a[0]) || !isPerson(a[1])) return refuse(-2);
                if (!alive(a[1], t.terms[0]) || ask(a[1], a[0], NONE, t.terms[0])[2] == 1) return refuse(-3);
                if (t.versions.size() == 12) return refuse(-5);
                t.versions.add(new int[] {a[0], a[1], NONE});
                t.played.add(copyScript(t.scripts.get(a[0])));
                return accept(t.versions.size() - 1);
            case "learn": return learn(a[0], a[1], a[2]);
            case "undo": {
                if (t.versions.isEmpty()) return refuse(-3);
                t.played.remove(t.played.size() - 1);
                return accept(t.versions.remove(t.versions.size() - 1)[1]);
            }
            case "version": {
                if (!isVersion(a[0]) || !in(a[1], 0, 4)) return NONE;
                if (a[1] < 3) return t.versions.get(a[0])[a[1]];
                int[][][] mine = t.played.get(a[0]);
                if (a[1] == 3) return filled(mine);
                int[][][] the = t.scripts.get(t.versions.get(a[0])[0]);
                int unlike = 0;
                for (int i = 0; i < 36; i++) if (!Arrays.equals(mine[i / 6][i % 6], the[i / 6][i % 6])) unlike++;
                return unlike;
            }
            case "knows": return isVersion(a[0]) ? ruleOf(t.played.get(a[0]), a[1], a[2], a[3]) : NONE;
            case "says":
                if (!isVersion(a[0]) || !in(a[1], 0, t.cues.size() - 1)) return NONE;
                List<Integer> said = words(t.played.get(a[0]), t.cues);
                return a[1] < said.size() ? said.get(a[1]) : 100;
            case "stops": {
                if (!isVersion(a[0])) return NONE;
                int n = words(t.played.get(a[0]), t.cues).size();
                return n < t.cues.size() ? n : NONE;
            }
            default: return callPairs(name, a);
        }
    }

    private long callPairs(String name, int[] a) {
        switch (name) {
            case "apart":
                if (!isVersion(a[0]) || !isVersion(a[1])) return NONE;
                return ofRow(firstRow(t.played.get(a[0]), t.played.get(a[1]), false), a[2]);
            case "trap":
                if (!isVersion(a[0])) return NONE;
                return ofRow(firstRow(t.played.get(a[0]), t.played.get(a[0]), true), a[1]);
            case "talk": {
                if (!isVersion(a[0]) || !isVersion(a[1]) || !in(a[2], 0, 5)) return NONE;
                int[] k = talk(t.played.get(a[0]), t.played.get(a[1]), a[2]);
                if (in(a[3], 0, 2)) return k[a[3]];
                return in(a[3], 10, 99) ? k[a[3] - 10 + 3] : NONE;
            }
            case "mends":
                if (!isVersion(a[0]) || !isVersion(a[1]) || !in(a[2], 0, 5) || !in(a[3], 0, 2)) return NONE;
                return mends(a[0], a[1], a[2])[a[3]];
            case "vote": {
                if (!isPart(a[0]) || t.cues.isEmpty() || !in(a[1], 0, 2)) return NONE;
                int stopped = 0;
                TreeMap<Integer, Integer> votes = new TreeMap<>();
                for (int i = 0; i < t.versions.size(); i++) {
                    if (t.versions.get(i)[0] != a[0] || !alive(t.versions.get(i)[1], t.terms[0])) continue;
                    List<Integer> w = words(t.played.get(i), t.cues);
                    if (w.size() < t.cues.size()) stopped++;
                    else votes.merge(w.get(w.size() - 1), 1, Integer::sum);
                }
                if (a[1] == 2) return stopped;
                int best = NONE;
                for (int w : votes.keySet()) if (best == NONE || votes.get(w) > votes.get(best)) best = w;
                return a[1] == 0 || best == NONE ? best : votes.get(best);
            }
            case "drift": return in(a[0], 0, 6) && in(a[1], 0, 9) ? drift(a[0], a[1]) : NONE;
            case "origin":
                return isPart(a[0]) && in(a[1], 0, 5) && in(a[2], 0, 5) ? origin(a[0], a[1], a[2])[0] : NONE;
            case "origins": {
                if (!isPart(a[0]) || !in(a[1], 0, 1)) return NONE;
                long slips = 0;
                java.math.BigInteger ways = java.math.BigInteger.ONE;
                for (int i = 0; i < 36; i++) {
                    int[] o = origin(a[0], i / 6, i % 6);
                    slips += o[1];
                    ways = ways.multiply(java.math.BigInteger.valueOf(Math.max(1, Integer.bitCount(o[0]))));
                }
                return a[1] == 0 ? slips : ways.min(java.math.BigInteger.TEN.pow(18)).longValue();
            }
            default: return callRest(name, a);
        }
    }

    private long callRest(String name, int[] a) {
        switch (name) {
            case "chain": {
                if (!isPart(a[0]) || !isPerson(a[1])) return NONE;
                List<Integer> best = chain(a[0], a[1], NONE);
                int latest = t.people.get(best.get(best.size() - 1))[1] - 1;
                if (a[2] == 0) return latest;
                if (a[2] == 1) return best.size();
                if (a[2] == 20) {
                    int bits = 0;
                    for (int p = 0; p < t.people.size(); p++) {
                        if (p == a[1]) continue;
                        List<Integer> row = chain(a[0], a[1], p);
                        if (t.people.get(row.get(row.size() - 1))[1] - 1 == latest) bits |= 1 << p;
                    }
                    return bits;
                }
                return a[2] >= 2 && a[2] - 2 < best.size() ? best.get(a[2] - 2) : NONE;
            }
            case "cast": return cast(a[0]);
            case "deed":
                if (!in(a[0], 0, 3) || !in(a[1], 0, 5) || !in(a[2], 0, 9)) return refuse(-1);
                if (t.deeds.size() == 12) return refuse(-5);
                t.deeds.add(a.clone());
                return accept(t.deeds.size());
            case "forget": {
                int were = t.deeds.size();
                t.deeds.clear();
                return were;
            }
            case "judge": {
                if (!isVersion(a[0])) return NONE;
                for (int i = 0; i < t.deeds.size(); i++) {
                    List<Integer> cues = new ArrayList<>();
                    for (int j = 0; j <= i; j++) if (t.deeds.get(j)[0] == t.deeds.get(i)[0]) cues.add(t.deeds.get(j)[1]);
                    List<Integer> w = words(t.played.get(a[0]), cues);
                    if (w.size() < cues.size() || w.get(w.size() - 1) != t.deeds.get(i)[2]) return i;
                }
                return NONE;
            }
            case "least": {
                if (!in(a[0], 0, 1)) return NONE;
                int[] found = least(-1, -1);
                return a[0] == 0 ? found[0] : found[1];
            }
            case "would":
                if (!in(a[0], 0, 3) || !in(a[1], 0, 5)) return NONE;
                int[] found = least(a[0], a[1]);
                return found[0] == NONE ? NONE : found[2];
            case "century": return century(a[0], a[1], a[2]);
            case "drawn":
                if (century == null) return NONE;
                if (a[2] == 0) return ruleOf(century, a[0], a[1], 0);
                return a[2] == 1 && a[1] == 0 && (isPerson(a[0]) || in(a[0], 0, peopleThen - 1)) ? pupils[a[0]] : NONE;
            case "image":
                if (!in(a[0], 0, 1)) return refuse(-1);
                images[a[0]] = t.copy();
                return accept(0);
            case "back":
                if (!in(a[0], 0, 1)) return refuse(-1);
                if (images[a[0]] == null) return refuse(-2);
                t = images[a[0]].copy();
                return accept(0);
            case "count": return count(a[0]);
            case "status": return status;
            default: throw new IllegalStateException(name);
        }
    }

    private int count(int what) {
        int[] all = {t.parts.size(), t.people.size(), t.versions.size(), t.laws.size(), t.cues.size(), t.deeds.size(),
            tape.length(), refused[1], refused[2], refused[3], refused[5], refused[6], t.force, t.terms[0], t.terms[1],
            t.terms[2]};
        return in(what, 0, 15) ? all[what] : NONE;
    }

    private static int ruleOf(int[][][] s, int state, int cue, int what) {
        if (!in(state, 0, 5) || !in(cue, 0, 5) || !in(what, 0, 1) || s[state][cue] == null) return NONE;
        return s[state][cue][what];
    }

    private static int filled(int[][][] s) {
        int n = 0;
        for (int[][] row : s) for (int[] r : row) if (r != null) n++;
        return n;
    }

    private static List<Integer> words(int[][][] s, List<Integer> cues) {
        List<Integer> said = new ArrayList<>();
        int state = 0;
        for (int cue : cues) {
            int[] r = s[state][cue];
            if (r == null) break;
            said.add(r[0]);
            state = r[1];
        }
        return said;
    }

    private long learn(int version, int person, int slip) {
        if (slip < NONE) return refuse(-1);
        if (!isVersion(version) || !isPerson(person)) return refuse(-2);
        int[] v = t.versions.get(version);
        int year = t.terms[0];
        if (v[1] == person || !alive(v[1], year) || !alive(person, year) || !taught(v[0], v[1], person, year)) {
            return refuse(-3);
        }
        if (t.versions.size() == 12) return refuse(-5);
        int[][][] from = t.played.get(version);
        List<Integer> met = new ArrayList<>();
        int state = 0;
        for (int cue : t.cues) {
            if (from[state][cue] == null) break;
            if (!met.contains(state * 6 + cue)) met.add(state * 6 + cue);
            state = from[state][cue][1];
        }
        int[][][] mine = new int[6][6][];
        for (int i = 0; i < met.size(); i++) {
            int[] r = from[met.get(i) / 6][met.get(i) % 6].clone();
            if (i == slip) r[0] = (r[0] + 1) % 10;
            mine[met.get(i) / 6][met.get(i) % 6] = r;
        }
        t.versions.add(new int[] {v[0], person, version});
        t.played.add(mine);
        return accept(t.versions.size() - 1);
    }

    private int years(int one, int other) {
        int n = 0;
        for (int y = 0; y < 300; y++) if (alive(one, y) && alive(other, y)) n++;
        return n;
    }

    private boolean taught(int part, int master, int pupil, int year) {
        int[] told = ask(pupil, part, master, year);
        return told[2] == 0 && years(master, pupil) >= told[1];
    }

    // ---- rows of CUES, talks

    private static long ofRow(List<Integer> row, int i) {
        if (row == null) return NONE;
        if (i == NONE) return row.size();
        return in(i, 0, row.size() - 1) ? row.get(i) : NONE;
    }

    /** Tells by how far it is still from each pair of STATES, from the end backwards. */
    private static List<Integer> firstRow(int[][][] one, int[][][] other, boolean trap) {
        int far = 1000;
        int[][] left = new int[6][6];
        for (int[] l : left) Arrays.fill(l, far);
        for (int round = 0; round < 50; round++) {
            for (int i = 0; i < 36; i++) {
                for (int c = 0; c < 6; c++) {
                    left[i / 6][i % 6] = Math.min(left[i / 6][i % 6], through(one, other, trap, left, i / 6, i % 6, c));
                }
            }
        }
        if (left[0][0] >= far) return null;
        List<Integer> row = new ArrayList<>();
        int s = 0;
        int o = 0;
        for (int need = left[0][0]; need > 0; need--) {
            int c = 0;
            while (through(one, other, trap, left, s, o, c) != need) c++;
            row.add(c);
            if (need == 1) break;
            int next = one[s][c][1];
            o = other[o][c][1];
            s = next;
        }
        return row;
    }

    private static int through(int[][][] one, int[][][] other, boolean trap, int[][] left, int s, int o, int c) {
        int[] a = one[s][c];
        int[] b = other[o][c];
        boolean goal = trap ? a == null : a == null ? b != null : b == null || a[0] != b[0];
        if (goal) return 1;
        return a == null || b == null ? 1000 : Math.min(1000, 1 + left[a[1]][b[1]]);
    }

    /** STOPS, ahead, round, then 90 WORDS. */
    private static int[] talk(int[][][] one, int[][][] other, int cue) {
        int[] answer = new int[93];
        Arrays.fill(answer, NONE);
        List<String> been = new ArrayList<>();
        int[] states = {0, 0};
        for (int n = 0; n < 600; n++) {
            String here = states[0] + " " + states[1] + " " + n % 2 + " " + cue;
            if (been.contains(here) && answer[2] == NONE) {
                answer[1] = been.indexOf(here);
                answer[2] = n - answer[1];
            }
            been.add(here);
            int[] r = (n % 2 == 0 ? one : other)[states[n % 2]][cue];
            if (r == null) {
                answer[0] = n;
                return answer;
            }
            if (n < 90) answer[3 + n] = r[0];
            if (n >= 90 && answer[2] != NONE) return answer;
            states[n % 2] = r[1];
            cue = r[0] % 6;
        }
        return answer;
    }

    private int[] mends(int one, int other, int cue) {
        int[] answer = {0, NONE, NONE};
        int[][][] a = copyScript(t.played.get(one));
        int[][][] b = one == other ? a : copyScript(t.played.get(other));
        int stop = talk(a, b, cue)[0];
        if (stop == NONE) return answer;
        int[] states = {0, 0};
        int at = cue;
        for (int n = 0; n < stop; n++) {
            int[] r = (n % 2 == 0 ? a : b)[states[n % 2]][at];
            states[n % 2] = r[1];
            at = r[0] % 6;
        }
        for (int i = 59; i >= 0; i--) {
            (stop % 2 == 0 ? a : b)[states[stop % 2]][at] = new int[] {i / 6, i % 6};
            if (talk(a, b, cue)[0] == NONE) {
                answer[0]++;
                answer[1] = i / 6;
                answer[2] = i % 6;
            }
        }
        return answer;
    }

    private long drift(int n, int k) {
        if (n == 0) return k == 0 ? 1 : 0;
        return drift(n - 1, (k + 9) % 10) * t.terms[2] + drift(n - 1, k) * (100 - t.terms[2]);
    }

    /** The WORDS that, said first, leave the fewest others; how many others. */
    private int[] origin(int part, int state, int cue) {
        int bits = 0;
        int fewest = 1000;
        int all = 0;
        for (int w = 0; w < 10; w++) {
            int others = 0;
            all = 0;
            for (int i = 0; i < t.versions.size(); i++) {
                int[] r = t.played.get(i)[state][cue];
                if (t.versions.get(i)[0] != part || r == null) continue;
                all++;
                if (r[0] != w) others++;
            }
            if (others < fewest) bits = 0;
            fewest = Math.min(fewest, others);
            if (others == fewest) bits |= 1 << w;
        }
        return all == 0 ? new int[] {0, 0} : new int[] {bits, fewest};
    }

    // ---- PEOPLE

    private List<Integer> chain(int part, int first, int without) {
        List<List<Integer>> all = new ArrayList<>();
        List<Integer> row = new ArrayList<>();
        row.add(first);
        boolean[][] may = new boolean[8][8];
        for (int m = 0; m < t.people.size(); m++) {
            for (int p = 0; p < t.people.size(); p++) {
                if (m == p || m == without || p == without || years(m, p) == 0) continue;
                int year = 0;
                while (!alive(m, year) || !alive(p, year)) year++;
                may[m][p] = taught(part, m, p, year);
            }
        }
        collect(may, row, all);
        List<Integer> best = null;
        for (List<Integer> r : all) if (best == null || isBetter(r, best)) best = r;
        return best;
    }

    private static void collect(boolean[][] may, List<Integer> row, List<List<Integer>> all) {
        all.add(new ArrayList<>(row));
        int last = row.get(row.size() - 1);
        for (int p = 0; p < 8; p++) {
            if (!may[last][p] || row.contains(p)) continue;
            row.add(p);
            collect(may, row, all);
            row.remove(row.size() - 1);
        }
    }

    private boolean isBetter(List<Integer> r, List<Integer> than) {
        int a = t.people.get(r.get(r.size() - 1))[1];
        int b = t.people.get(than.get(than.size() - 1))[1];
        if (a != b) return a > b;
        if (r.size() != than.size()) return r.size() < than.size();
        for (int i = 0; i < r.size(); i++) if (!r.get(i).equals(than.get(i))) return r.get(i) < than.get(i);
        return false;
    }

    private int castFewest;
    private int castRows;
    private int[] castFirst;

    private int cast(int what) {
        castFewest = NONE;
        castRows = 0;
        castFirst = null;
        boolean[][] may = new boolean[8][6];
        for (int p = 0; p < t.people.size(); p++) {
            for (int i = 0; i < t.parts.size(); i++) {
                may[p][i] = alive(p, t.terms[0]) && ask(p, i, NONE, t.terms[0])[2] == 0;
            }
        }
        tryCast(may, new int[t.parts.size()], 0);
        if (what == 0) return castFewest;
        if (what == 20) return castRows;
        return castFewest != NONE && in(what, 1, t.parts.size()) ? castFirst[what - 1] : NONE;
    }

    private void tryCast(boolean[][] may, int[] row, int at) {
        if (at == row.length) {
            int number = (int) Arrays.stream(row).distinct().count();
            if (castFewest == NONE || number < castFewest) {
                castFewest = number;
                castRows = 0;
                castFirst = row.clone();
            }
            if (number == castFewest) castRows++;
            return;
        }
        for (int p = 0; p < t.people.size(); p++) {
            boolean can = may[p][at];
            for (int i = 0; i < at && can; i++) {
                if (row[i] != p) continue;
                for (int hour = 0; hour < 24; hour++) if (onStage(i, hour) && onStage(at, hour)) can = false;
            }
            row[at] = p;
            if (can) tryCast(may, row, at + 1);
        }
    }

    private boolean onStage(int part, int hour) {
        return t.parts.get(part)[0] <= hour && hour < t.parts.get(part)[1];
    }

    // ---- LEAST PART: a STATE for each DEED, ROW by ROW, all pairs of DEEDS looked at

    private int[] least(int row, int cue) {
        List<int[]> told = new ArrayList<>();
        for (int r = 0; r < 4; r++) for (int[] d : t.deeds) if (d[0] == r) told.add(d);
        for (int states = 1; states <= 3; states++) {
            int[] found = {states, 0, 0};
            place(told, new int[told.size()], 0, states, row, cue, found);
            if (found[1] > 0) return found;
        }
        return new int[] {NONE, 0, NONE};
    }

    private static boolean follows(List<int[]> told, int i) {
        return i + 1 < told.size() && told.get(i + 1)[0] == told.get(i)[0];
    }

    private void place(List<int[]> told, int[] at, int i, int states, int row, int cue, int[] found) {
        if (i == told.size()) {
            found[1]++;
            if (row >= 0) found[2] |= couldSay(told, at, states, row, cue);
            return;
        }
        boolean starts = i == 0 || told.get(i - 1)[0] != told.get(i)[0];
        int met = 0;
        for (int j = 0; j < i; j++) met = Math.max(met, at[j]);
        for (int s = 0; s < states && s <= met + 1; s++) {
            if (starts && s > 0) break;
            at[i] = s;
            if (fits(told, at, i)) place(told, at, i + 1, states, row, cue, found);
        }
    }

    private static boolean fits(List<int[]> told, int[] at, int upTo) {
        for (int i = 0; i <= upTo; i++) {
            for (int j = 0; j < i; j++) {
                if (at[i] != at[j] || told.get(i)[1] != told.get(j)[1]) continue;
                if (told.get(i)[2] != told.get(j)[2]) return false;
                if (i + 1 <= upTo && follows(told, i) && follows(told, j) && at[i + 1] != at[j + 1]) return false;
            }
        }
        return true;
    }

    private static int couldSay(List<int[]> told, int[] at, int states, int row, int cue) {
        int last = NONE;
        for (int i = 0; i < told.size(); i++) if (told.get(i)[0] == row) last = i;
        int end = last == NONE ? 0 : NONE;
        for (int i = 0; last != NONE && i < told.size(); i++) {
            boolean same = at[i] == at[last] && told.get(i)[1] == told.get(last)[1];
            if (same && follows(told, i)) end = at[i + 1];
        }
        int bits = 0;
        for (int s = 0; s < states; s++) {
            if (end != NONE && s != end) continue;
            int here = 1023;
            for (int i = 0; i < told.size(); i++) {
                if (at[i] == s && told.get(i)[1] == cue) here = 1 << told.get(i)[2];
            }
            bits |= here;
        }
        return bits;
    }

    // ---- CENTURY

    private long century(int seed, int part, int n) {
        if (!in(seed, 0, 1000000) || !in(n, 0, 100)) return refuse(-1);
        if (!isPart(part)) return refuse(-2);
        century = copyScript(t.scripts.get(part));
        pupils = new int[8];
        peopleThen = t.people.size();
        long s = seed;
        for (int lesson = 0; lesson < n && !t.people.isEmpty(); lesson++) {
            s = (s * 1103 + 12345) % 1000003;
            int pupil = (int) (s % t.people.size());
            pupils[pupil]++;
            int slips = ask(pupil, part, NONE, t.terms[0])[0];
            for (int[][] row : century) {
                for (int[] r : row) {
                    if (r == null) continue;
                    s = (s * 1103 + 12345) % 1000003;
                    if (s % 100 < slips) r[0] = (r[0] + 1) % 10;
                }
            }
        }
        int otherwise = 0;
        for (int i = 0; i < 36; i++) {
            int[] was = t.scripts.get(part)[i / 6][i % 6];
            if (was != null && was[0] != century[i / 6][i % 6][0]) otherwise++;
        }
        return accept(otherwise);
    }

    // ---- TEXTS

    private int run(List<Clause> text, int part) {
        int[][][] s = t.scripts.get(part);
        int n = 0;
        for (Clause c : text) {
            for (int state = 0; state < 6; state++) {
                for (int cue = 0; cue < 6; cue++) {
                    if (c.state != -1 && c.state != state || c.cue != -1 && c.cue != cue) continue;
                    int[] r = s[state][cue];
                    int[] v = {state, cue, r == null ? -1 : r[0], r == null ? -1 : r[1], part, t.terms[1]};
                    if (c.test != null && !Long.valueOf(1).equals(c.test.tell(v))) continue;
                    if (c.kind.equals("hush")) {
                        s[state][cue] = null;
                        n++;
                        continue;
                    }
                    Long word = c.sum.tell(v);
                    Long next = c.go == null ? Long.valueOf(state) : c.go.tell(v);
                    if (word == null || next == null) continue;
                    s[state][cue] = new int[] {(int) Math.max(0, Math.min(9, word)), (int) Math.max(0, Math.min(5, next))};
                    n++;
                }
            }
        }
        return n;
    }

    /** SLIPS, HOURS, BARRED. */
    private int[] ask(int person, int part, int teacher, int year) {
        int[] told = {t.terms[2], 1, 0};
        if (t.force == NONE) return told;
        int[] p = t.people.get(person);
        int[] v = {person, p[2], p[0], p[1], part, teacher, year, t.terms[1]};
        for (Clause c : t.laws.get(t.force)) {
            if (c.test != null && !Long.valueOf(1).equals(c.test.tell(v))) continue;
            Long sum = c.sum == null ? Long.valueOf(0) : c.sum.tell(v);
            if (sum == null) continue;
            if (c.kind.equals("slips")) told[0] = (int) Math.max(0, Math.min(100, sum));
            if (c.kind.equals("hours")) told[1] = (int) Math.max(0, Math.min(99, sum));
            if (c.kind.equals("bars")) told[2] = 1;
        }
        return told;
    }

    private List<Clause> readTape(String language) {
        String text = tape.toString();
        tape.setLength(0);
        try {
            List<Clause> clauses = new Reading(text, language.equals("play")).read();
            fault = NONE;
            return clauses;
        } catch (Fault f) {
            fault = f.place;
            return null;
        }
    }

    /** The grammar, rule by rule as it is told. */
    private static final class Reading {
        final boolean play;
        final List<String> tokens = new ArrayList<>();
        final List<Integer> places = new ArrayList<>();
        final List<String> names;
        int at = 0;
        int parts = 0;
        int open = 0;

        Reading(String text, boolean play) {
            this.play = play;
            names = play ? List.of("state", "cue", "word", "next", "part", "mood")
                : List.of("person", "memory", "born", "dead", "part", "teacher", "year", "mood");
            java.util.regex.Matcher m = java.util.regex.Pattern.compile("[a-z]+|[0-9]+|[^ ]", 32).matcher(text);
            while (m.find()) {
                tokens.add(m.group());
                places.add(m.start());
            }
            places.add(text.length());
        }

        String here() { return at < tokens.size() ? tokens.get(at) : ""; }
        Fault fault() { return new Fault(places.get(at)); }
        void take(String token) throws Fault {
            if (!here().equals(token)) throw fault();
            at++;
        }
        boolean took(String token) {
            if (!here().equals(token)) return false;
            at++;
            return true;
        }

        List<Clause> read() throws Fault {
            List<Clause> all = new ArrayList<>();
            all.add(clause());
            while (took(";")) {
                if (all.size() == 12) throw fault();
                all.add(clause());
            }
            if (at < tokens.size()) throw fault();
            return all;
        }

        Clause clause() throws Fault {
            Clause c = new Clause();
            if (play) {
                take("in");
                c.state = place();
                take("at");
                c.cue = place();
                c.kind = here();
                if (took("say")) {
                    c.sum = sum();
                    if (took("go")) c.go = sum();
                } else {
                    take("hush");
                }
            } else {
                c.kind = here();
                if (!took("bars")) {
                    if (!took("slips")) take("hours");
                    c.sum = sum();
                }
            }
            if (took("if")) c.test = test();
            return c;
        }

        int place() throws Fault {
            if (took("any")) return -1;
            if (!here().matches("0*[0-5]")) throw fault();
            return Integer.parseInt(tokens.get(at++).replaceAll("^0+(?=.)", ""));
        }

        Tree test() throws Fault {
            Tree one = both();
            if (!took("or")) return one;
            Tree more = test();
            return v -> {
                Long a = one.tell(v);
                return a == null || a == 1 ? a : more.tell(v);
            };
        }

        Tree both() throws Fault {
            Tree one = plain();
            if (!took("and")) return one;
            Tree more = both();
            return v -> {
                Long a = one.tell(v);
                return a == null || a == 0 ? a : more.tell(v);
            };
        }

        Tree plain() throws Fault {
            if (took("not")) {
                Tree of = plain();
                return v -> {
                    Long a = of.tell(v);
                    return a == null ? null : Long.valueOf(1 - a);
                };
            }
            if (here().equals("(")) {
                open();
                Tree within = test();
                take(")");
                open--;
                return within;
            }
            Tree one = sum();
            String sign = here();
            if (!took("<") && !took(">")) take("=");
            Tree other = sum();
            return v -> {
                Long a = one.tell(v);
                Long b = other.tell(v);
                if (a == null || b == null) return null;
                int c = Long.compare(a, b);
                return Long.valueOf(sign.equals("<") ? (c < 0 ? 1 : 0) : sign.equals(">") ? (c > 0 ? 1 : 0) : c == 0 ? 1 : 0);
            };
        }

        void open() throws Fault {
            if (open == 8) throw fault();
            open++;
            at++;
        }

        Tree sum() throws Fault {
            Tree all = term();
            while (here().equals("+") || here().equals("-")) {
                String sign = tokens.get(at++);
                all = joined(all, sign, term());
            }
            return all;
        }

        Tree term() throws Fault {
            Tree all = part();
            while (here().equals("*") || here().equals("/") || here().equals("%")) {
                String sign = tokens.get(at++);
                all = joined(all, sign, part());
            }
            return all;
        }

        static Tree joined(Tree one, String sign, Tree other) {
            return v -> {
                Long a = one.tell(v);
                Long b = other.tell(v);
                if (a == null || b == null) return null;
                if ("/%".contains(sign) && b == 0) return null;
                long c = sign.equals("+") ? a + b : sign.equals("-") ? a - b : sign.equals("*") ? a * b
                    : sign.equals("/") ? a / b : a % b;
                return Math.abs(c) > 1000000000L ? null : Long.valueOf(c);
            };
        }

        Tree part() throws Fault {
            if (here().equals("[")) {
                open();
                Tree within = sum();
                take("]");
                open--;
                return within;
            }
            boolean number = here().matches("0*([0-9]{1,3}|1000)");
            if (!number && !names.contains(here()) || parts == 50) throw fault();
            parts++;
            String token = tokens.get(at++);
            if (!number) {
                int name = names.indexOf(token);
                return v -> (long) v[name];
            }
            long value = Long.parseLong(token.replaceAll("^0+(?=.)", ""));
            return v -> value;
        }
    }
}
