/** Promises 46 to 49: IMAGES, what is counted, status. */
public final class ImageTest {
    public static void main(String[] args) {
        images();
        keeps();
        keepsNot();
        counts();
        status();
        Checks.close();
    }

    private static void due(String call, long got, long want) {
        Checks.due(call, got, want);
    }

    private static void images() {
        DeadUnderstudies x = new DeadUnderstudies();
        due("46: IMAGE 2", x.image(2), -1);
        due("46: IMAGE -1", x.image(-1), -1);
        due("47: IMAGE 2", x.back(2), -1);
        due("47: IMAGE -1", x.back(-1), -1);
        due("47: not kept", x.back(0), -2);
        due("46: kept", x.image(0), 0);
        due("47: the other one", x.back(1), -2);
        x.part(0, 24);
        due("46: kept", x.image(1), 0);
        due("47: BACK", x.back(0), 0);
        due("47: as it was", x.count(0), 0);
        due("47: IMAGES stay", x.back(1), 0);
        due("47: as it was", x.count(0), 1);
        due("47: once more", x.back(0), 0);
        x.person(0, 1, 1);
        due("46: anew", x.image(0), 0);
        x.person(0, 1, 1);
        due("47: BACK to the newer", x.back(0), 0);
        due("47: as it was", x.count(1) * 10 + x.count(0), 10);
    }

    private static DeadUnderstudies town() {
        DeadUnderstudies x = new DeadUnderstudies();
        x.part(1, 23);
        x.rule(0, 0, 0, 5, 3);
        x.person(0, 50, 4);
        x.person(0, 60, 7);
        x.terms(0, 20);
        x.terms(1, 3);
        x.terms(2, 44);
        x.force(Checks.law(x, "slips memory;hours 2 if mood = 3"));
        x.cue(0);
        x.begin(0, 0);
        x.learn(0, 1, 0);
        x.deed(0, 0, 5);
        return x;
    }

    private static void keeps() {
        DeadUnderstudies x = town();
        x.image(0);
        x.rule(0, 0, 0, 9, 1);
        x.rule(0, 5, 5, 9, 1);
        x.part(3, 4);
        x.put(0, 0, 30);
        x.put(1, 1, 9);
        x.person(0, 9, 9);
        x.terms(0, 21);
        x.terms(1, 4);
        x.terms(2, 45);
        x.still();
        x.cue(4);
        x.cue(5);
        x.undo();
        x.undo();
        x.begin(0, 1);
        x.forget();
        x.deed(1, 1, 1);
        x.deed(1, 1, 1);
        x.force(Checks.law(x, "bars"));
        due("47: BACK", x.back(0), 0);
        int[] counts = {1, 2, 2, 1, 1, 1};
        for (int i = 0; i < 6; i++) due("47: count " + i, x.count(i), counts[i]);
        due("47: RULE", x.of(0, 0, 0, 0) * 10 + x.of(0, 0, 0, 1), 53);
        due("47: HOLE", x.of(0, 5, 5, 0), -1);
        due("47: hours", x.stage(0, 0) * 100 + x.stage(0, 1), 123);
        due("47: DEAD", x.fact(0, 1), 50);
        due("47: MEMORY", x.fact(1, 2), 7);
        due("47: TERMS", x.count(13) * 1000 + x.count(14) * 100 + x.count(15), 20344);
        due("47: CUES", x.says(0, 0), 5);
        due("47: VERSION", x.version(1, 1) * 10 + x.version(1, 2), 10);
        due("47: its SLIP", x.knows(1, 0, 0, 0), 6);
        due("47: DEED", x.judge(0) * 10 + x.judge(1), -10);
        due("47: LAW in FORCE", x.count(12), 0);
        due("47: what it tells", x.asks(1, 0, -1, 0) * 10 + x.asks(1, 0, -1, 1), 72);
        x.part(3, 4);
        due("47: a new PART is empty", x.stage(1, 2), 0);
        due("47: a new LAW", Checks.law(x, "hours 5"), 1);
        due("47: the first LAW still", x.asks(1, 0, -1, 0), 7);
    }

    private static void keepsNot() {
        DeadUnderstudies x = town();
        x.image(0);
        Checks.law(x, "hours");
        x.feed(-1, -1, -1, -1, -1);
        x.row(0);
        x.feed(0, 0, 0, 0, 0);
        x.century(3, 0, 5);
        x.terms(9, 9);
        x.back(0);
        due("46: not the TAPE", x.count(6), 20);
        due("46: not the FAULT", x.fault(), 5);
        due("46: not the PRATTLE", x.prattle(), 5);
        due("46: not the CENTURY", x.drawn(0, 0, 1) + x.drawn(1, 0, 1), 5);
        due("46: not what was REFUSED", x.count(7) * 10 + x.count(11), 11);
    }

    private static void counts() {
        DeadUnderstudies x = town();
        int[] counts = {1, 2, 2, 1, 1, 1, 0, 0, 0, 0, 0, 0, 0, 20, 3, 44};
        for (int i = 0; i < 16; i++) due("48: count " + i, x.count(i), counts[i]);
        due("48: count 16", x.count(16), -1);
        due("48: count -1", x.count(-1), -1);
        x.part(0, 25);
        x.rule(0, 9, 9, 9, 9);
        x.hush(0, 0, 9);
        x.learn(0, 1, -2);
        x.image(7);
        due("48: by -1", x.count(7), 5);
        x.rule(7, 0, 0, 0, 0);
        x.play(3);
        x.begin(4, 0);
        x.back(1);
        due("48: by -2", x.count(8), 4);
        x.learn(0, 0, 0);
        x.undo();
        x.undo();
        x.undo();
        due("48: by -3", x.count(9), 2);
        for (int i = 0; i < 13; i++) x.cue(0);
        due("48: by -5", x.count(10), 2);
        x.row(0);
        x.play(0);
        x.law();
        due("48: by -6", x.count(11), 3);
        x.of(9, 9, 9, 9);
        x.end(-1);
        x.vote(9, 9);
        x.cast(-7);
        due("48: NONE is not REFUSED", x.count(7) + x.count(8) + x.count(9) + x.count(10) + x.count(11), 16);
    }

    private static void status() {
        DeadUnderstudies x = new DeadUnderstudies();
        due("49: ahead of any", x.status(), 0);
        x.terms(0, -1);
        due("49: -1", x.status(), -1);
        x.stage(0, 0);
        x.feed(0, 0, 0, 0, 0);
        x.end(0);
        x.still();
        x.forget();
        due("49: other calls are not asked", x.status(), -1);
        int[] refused = {x.part(0, 0), x.status(), x.person(0, 0, 0), x.status(), x.put(0, 0, 1), x.status(), x.row(0),
            x.status(), x.force(0), x.status(), x.cue(6), x.status(), x.begin(0, 0), x.status(), x.undo(), x.status(),
            x.deed(0, 0, 10), x.status(), x.century(0, 0, 0), x.status(), x.image(2), x.status(), x.back(0), x.status(),
            x.law(), x.status(), x.hush(0, 0, 0), x.status(), x.rule(0, 0, 0, 0, 0), x.status(), x.learn(0, 0, 0),
            x.status(), x.play(0), x.status()};
        int[] by = {-1, -1, -2, -2, -2, -1, -2, -3, -1, -2, -1, -2, -6, -2, -2, -2, -2};
        for (int i = 0; i < by.length; i++) {
            due("49: answer " + i, refused[2 * i], by[i]);
            due("49: status " + i, refused[2 * i + 1], by[i]);
        }
        int[] taken = {x.part(0, 1), x.status(), x.person(0, 9, 1), x.status(), x.put(0, 0, 8), x.status(),
            x.force(-1), x.status(), x.cue(0), x.status(), x.begin(0, 0), x.status(), x.undo(), x.status(),
            x.deed(0, 0, 1), x.status(), x.century(0, 0, 0), x.status(), x.image(0), x.status(), x.back(0), x.status(),
            x.hush(0, 0, 0), x.status(), x.rule(0, 0, 0, 0, 0), x.status(), x.terms(0, 0), x.status()};
        for (int i = 1; i < taken.length; i += 2) due("49: not REFUSED " + i, taken[i], 0);
    }
}
