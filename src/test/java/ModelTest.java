import java.lang.reflect.Method;
import java.util.HashMap;
import java.util.Map;
import java.util.Random;

/** Runs of 512 drawn calls, each answered by the class and by the Model alike. */
public final class ModelTest {
    private static final String[] NAMES = {"part", "rule", "hush", "of", "stage", "person", "put", "fact", "terms",
        "feed", "end", "row", "prattle", "play", "law", "fault", "force", "asks", "cue", "still", "begin", "learn",
        "undo", "version", "knows", "says", "stops", "apart", "trap", "talk", "mends", "vote", "drift", "origin",
        "origins", "chain", "cast", "deed", "forget", "judge", "least", "would", "century", "drawn", "image", "back",
        "count", "status"};
    private static final Map<String, Method> METHODS = new HashMap<>();

    private final Random random;
    private final DeadUnderstudies real = new DeadUnderstudies();
    private final Model model = new Model();
    private final StringBuilder calls = new StringBuilder();
    private int left = 512;
    private boolean wrong = false;

    private ModelTest(long seed) {
        random = new Random(seed);
    }

    public static void main(String[] args) throws Exception {
        int runs = args.length > 0 ? Integer.parseInt(args[0]) : 400;
        long first = args.length > 1 ? Long.parseLong(args[1]) : 1;
        for (Method m : DeadUnderstudies.class.getDeclaredMethods()) METHODS.put(m.getName(), m);
        for (long seed = first; seed < first + runs; seed++) {
            ModelTest run = new ModelTest(seed);
            run.go();
            if (!run.wrong) continue;
            System.out.println("seed " + seed + ":\n" + run.calls);
            System.exit(1);
        }
    }

    private void go() throws Exception {
        settle();
        while (left > 0 && !wrong) {
            int kind = random.nextInt(20);
            if (kind == 0) lookAround();
            else if (kind == 1) text(random.nextBoolean());
            else if (kind == 2) bytes();
            else any(NAMES[random.nextInt(NAMES.length)]);
        }
    }

    private int upTo(int n) {
        return random.nextInt(n + 1);
    }

    /** A number from 0 to n, now and then one that can't be. */
    private int odd(int n) {
        int kind = random.nextInt(40);
        return kind == 0 ? -1 : kind == 1 ? n + 1 : kind == 2 ? random.nextInt() : upTo(n);
    }

    private void call(String name, int... args) throws Exception {
        if (left <= 0 || wrong) return;
        left--;
        Object[] boxed = new Object[args.length];
        for (int i = 0; i < args.length; i++) boxed[i] = args[i];
        long got = ((Number) METHODS.get(name).invoke(real, boxed)).longValue();
        long want = model.call(name, args);
        calls.append(name).append(java.util.Arrays.toString(args)).append(' ').append(got);
        if (got != want) calls.append(", by the model ").append(want);
        calls.append('\n');
        wrong = got != want;
    }

    /** A town in which calls have something to do. */
    private void settle() throws Exception {
        int density = random.nextInt(4);
        for (int i = upTo(3); i >= 0; i--) any("part");
        for (int i = upTo(7); i >= 0; i--) {
            int born = upTo(50);
            call("person", born, born + 20 + upTo(80), 1 + upTo(8));
        }
        call("terms", 0, 20 + upTo(60));
        for (int i = density * 30; i > 0; i--) any("rule");
        if (density == 0) spread();
        for (int i = upTo(8); i > 0; i--) any("cue");
        for (int i = upTo(3); i > 0; i--) text(false);
        if (random.nextInt(3) > 0) call("force", -1);
        for (int i = upTo(30); i > 0; i--) any(random.nextInt(3) == 0 ? "begin" : "learn");
        if (random.nextBoolean()) deedsOfOne();
        else for (int i = upTo(12); i > 0; i--) any("deed");
    }

    /** DEEDS of somebody with three STATES, so that there is a LEAST PART. */
    private void deedsOfOne() throws Exception {
        int cues = 1 + upTo(2);
        int[] words = new int[18];
        int[] nexts = new int[18];
        for (int i = 0; i < 18; i++) {
            words[i] = upTo(2);
            nexts[i] = upTo(2);
        }
        int[] states = new int[4];
        int rows = upTo(3);
        for (int i = 6 + upTo(6); i > 0; i--) {
            int row = upTo(rows);
            int cue = upTo(cues);
            int at = states[row] * 6 + cue;
            call("deed", row, cue, words[at]);
            states[row] = nexts[at];
        }
        for (int i = 0; i < 2; i++) call("least", i);
        for (int i = 0; i < 6; i++) call("would", upTo(3), upTo(cues + 1));
    }

    private void spread() throws Exception {
        for (int part = 0; part < 3; part++) {
            feed("in any at any say [state*" + upTo(9) + "+cue*" + upTo(9) + "+" + upTo(9) + "]%10 go [state+cue*"
                + upTo(9) + "]%6" + (random.nextBoolean() ? "" : " if not [state*" + upTo(5) + "+cue]%7=" + upTo(6)));
            call("play", part);
        }
    }

    private void feed(String text) throws Exception {
        call("end", 0);
        int[] n = Checks.numbers(text);
        for (int i = 0; i < n.length; i += 5) call("feed", n[i], n[i + 1], n[i + 2], n[i + 3], n[i + 4]);
        call("end", text.length());
    }

    private void text(boolean play) throws Exception {
        String text = new Texts(random, play).draw();
        if (text.length() > 380) return;
        feed(text);
        if (play) {
            call("play", odd(2));
        } else {
            call("law");
            call("force", random.nextInt(6) - 1);
        }
        call("fault");
    }

    private void bytes() throws Exception {
        call("end", 0);
        for (int i = upTo(2); i >= 0; i--) {
            int[] five = new int[5];
            for (int k = 0; k < 5; k++) five[k] = odd(5) << 24 | odd(5) << 16 & 0xFF0000 | odd(9) << 8 & 0xFF00 | odd(5) & 255;
            call("feed", five);
        }
        if (random.nextBoolean()) call("end", upTo(60));
        call("row", odd(2));
        call("prattle");
    }

    private void lookAround() throws Exception {
        for (int what = -1; what <= 16; what++) call("count", what);
        for (int i = 0; i < 10; i++) any("of");
        call("status");
    }

    private void any(String name) throws Exception {
        int version = odd(Math.max(model.t.versions.size() - 1, 0));
        int other = odd(Math.max(model.t.versions.size() - 1, 0));
        int part = odd(Math.max(model.t.parts.size() - 1, 0));
        int person = odd(Math.max(model.t.people.size() - 1, 0));
        switch (name) {
            case "part": { int from = odd(23); call(name, from, from + 1 + upTo(24 - Math.min(24, Math.max(0, from)))); break; }
            case "rule": call(name, part, odd(5), odd(5), odd(9), odd(5)); break;
            case "hush": if (random.nextInt(3) == 0) call(name, part, odd(5), odd(5)); break;
            case "of": case "knows": call(name, name.equals("of") ? part : version, odd(5), odd(5), odd(1)); break;
            case "stage": call(name, part, odd(3)); break;
            case "person": { int born = odd(random.nextBoolean() ? 200 : 60); call(name, born, Math.min(301, born + 20 + upTo(80)), odd(9)); break; }
            case "put": call(name, person, odd(1), random.nextBoolean() ? odd(9) : odd(300)); break;
            case "fact": call(name, person, odd(3)); break;
            case "terms": { int what = odd(2); call(name, what, odd(what == 0 ? random.nextBoolean() ? 100 : 300 : what == 1 ? 9 : 100)); break; }
            case "feed": call(name, random.nextInt(), random.nextInt(), random.nextInt(), random.nextInt(), random.nextInt()); break;
            case "end": call(name, odd(400)); break;
            case "row": case "play": call(name, part); break;
            case "force": call(name, random.nextInt(8) - 2); break;
            case "asks": call(name, person, part, odd(8) - 1, odd(2)); break;
            case "cue": call(name, odd(5)); break;
            case "still": if (random.nextInt(4) == 0) call(name); break;
            case "begin": call(name, part, person); break;
            case "learn": call(name, version, person, odd(8) - 1); break;
            case "undo": if (random.nextInt(3) == 0) call(name); break;
            case "version": call(name, version, odd(4)); break;
            case "says": call(name, version, odd(11)); break;
            case "stops": case "judge": call(name, version); break;
            case "apart": for (int i = -1; i < 3; i++) call(name, version, other, random.nextInt(5) == 0 ? odd(6) : i); break;
            case "trap": for (int i = -1; i < 3; i++) call(name, version, random.nextInt(5) == 0 ? odd(6) : i); break;
            case "talk": talk(version, random.nextInt(4) == 0 ? version : other); break;
            case "mends": { int cue = odd(5); for (int i = 0; i < 3; i++) call(name, version, other, cue, random.nextInt(9) == 0 ? odd(2) : i); break; }
            case "vote": call(name, part, odd(2)); break;
            case "drift": call(name, odd(6), odd(9)); break;
            case "origin": call(name, part, odd(5), odd(5)); break;
            case "origins": call(name, part, odd(1)); break;
            case "chain": for (int i = 0; i < 5; i++) call(name, part, person, random.nextInt(3) == 0 ? 20 : odd(9)); break;
            case "cast": call(name, random.nextInt(3) == 0 ? 20 : odd(7)); break;
            case "deed": call(name, odd(3), odd(random.nextBoolean() ? 1 : 5), odd(random.nextBoolean() ? 1 : 9)); break;
            case "forget": if (random.nextInt(3) == 0) call(name); break;
            case "least": call(name, odd(1)); break;
            case "would": call(name, odd(3), odd(5)); break;
            case "century": call(name, random.nextInt(9) == 0 ? odd(1000000) : random.nextInt(1000001), part, odd(100)); break;
            case "drawn": call(name, odd(7), random.nextBoolean() ? 0 : odd(5), odd(1)); break;
            case "image": case "back": if (random.nextInt(4) == 0) call(name, odd(1)); break;
            case "count": call(name, odd(15)); break;
            default: call(name); break;
        }
    }

    private void talk(int version, int other) throws Exception {
        int cue = odd(5);
        for (int i = 0; i < 3; i++) call("talk", version, other, cue, i);
        for (int i = 0; i < 4; i++) call("talk", version, other, cue, random.nextBoolean() ? 10 + i : odd(100));
    }
}
