/** Promises 20 to 28: CUES, BEGIN, LEARN and what VERSIONS are. */
public final class VersionTest {
    public static void main(String[] args) {
        cues();
        begin();
        learn();
        learnMet();
        enough();
        undo();
        version();
        knows();
        says();
        Checks.close();
    }

    private static void due(String call, long got, long want) {
        Checks.due(call, got, want);
    }

    /** One PART: from STATE 0 at CUE 0 a 3 and to 1, there at 1 a 9 and to 1, at 0 a 5 and back. */
    private static DeadUnderstudies town() {
        DeadUnderstudies x = new DeadUnderstudies();
        x.part(0, 24);
        x.rule(0, 0, 0, 3, 1);
        x.rule(0, 1, 1, 9, 1);
        x.rule(0, 1, 0, 5, 0);
        x.person(0, 50, 5);
        x.person(20, 80, 5);
        x.person(60, 90, 5);
        x.terms(0, 30);
        return x;
    }

    private static void cues(DeadUnderstudies x, int... cues) {
        x.still();
        for (int cue : cues) x.cue(cue);
    }

    private static void cues() {
        DeadUnderstudies x = town();
        due("21: of none", x.still(), 0);
        due("20: CUE 6", x.cue(6), -1);
        due("20: CUE -1", x.cue(-1), -1);
        for (int i = 1; i <= 12; i++) due("20: how many", x.cue(i % 6), i);
        due("20: no room", x.cue(0), -5);
        due("20: -1 ahead of -5", x.cue(6), -1);
        due("20: twelve", x.count(4), 12);
        due("21: there were", x.still(), 12);
        due("21: none are", x.count(4), 0);
        due("20: anew", x.cue(5), 1);
    }

    private static void begin() {
        DeadUnderstudies x = town();
        due("22: no PART", x.begin(1, 0), -2);
        due("22: PART -1", x.begin(-1, 0), -2);
        due("22: no PERSON", x.begin(0, 3), -2);
        due("22: not BORN", x.begin(0, 2), -3);
        due("22: the VERSION", x.begin(0, 0), 0);
        due("22: as it is", x.version(0, 3), 3);
        due("22: no teacher", x.version(0, 2), -1);
        x.rule(0, 5, 5, 5, 5);
        due("22: as it was", x.version(0, 3), 3);
        x.terms(0, 50);
        due("22: DEAD", x.begin(0, 0), -3);
        due("22: once more the same", x.begin(0, 1), 1);
        x.force(Checks.law(x, "bars if teacher = 0 - 1 and year = 50 and part = 0 and person = 1"));
        due("22: BARRED", x.begin(0, 1), -3);
        x.force(-1);
        for (int i = 2; i < 12; i++) due("22: number " + i, x.begin(0, 1), i);
        due("22: no room", x.begin(0, 1), -5);
        due("22: -3 ahead of -5", x.begin(0, 0), -3);
        due("22: -2 ahead of -3", x.begin(1, 0), -2);
    }

    private static void learn() {
        DeadUnderstudies x = town();
        x.begin(0, 0);
        cues(x, 0, 1, 0, 0);
        due("23: i below NONE", x.learn(0, 1, -2), -1);
        due("23: -1 ahead of -2", x.learn(7, 1, -2), -1);
        due("23: no VERSION", x.learn(1, 1, -1), -2);
        due("23: VERSION -1", x.learn(-1, 1, -1), -2);
        due("23: no PERSON", x.learn(0, 3, -1), -2);
        due("23: himself", x.learn(0, 0, -1), -3);
        due("23: not BORN", x.learn(0, 2, -1), -3);
        due("23: it learns", x.learn(0, 1, -1), 1);
        due("23: its teacher", x.version(1, 2), 0);
        due("23: its HOLDER", x.version(1, 1), 1);
        due("23: three RULES", x.version(1, 3), 3);
        due("23: alike", x.version(1, 4), 0);
        x.terms(0, 60);
        due("23: the HOLDER is DEAD", x.learn(0, 1, -1), -3);
        due("23: of the pupil", x.learn(1, 2, 1), 2);
        due("23: 0 behind 9", x.knows(2, 1, 1, 0), 0);
        due("23: the next STATE stays", x.knows(2, 1, 1, 1), 1);
        due("23: the others stay", x.knows(2, 0, 0, 0) * 10 + x.knows(2, 1, 0, 0), 35);
        x.force(Checks.law(x, "bars if teacher = 1 and person = 2"));
        due("23: BARRED", x.learn(1, 2, -1), -3);
        due("23: not of the other one", x.learn(2, 1, -1), 3);
        x.force(-1);
        for (int i = 4; i < 12; i++) due("23: number " + i, x.learn(2, 1, 0), i);
        due("23: no room", x.learn(2, 1, 0), -5);
        due("23: -3 ahead of -5", x.learn(2, 2, 0), -3);
    }

    private static void learnMet() {
        DeadUnderstudies x = town();
        x.begin(0, 0);
        due("23: without CUES", x.learn(0, 1, 0), 1);
        due("23: all HOLES", x.version(1, 3), 0);
        cues(x, 0, 0, 0, 0, 1, 2, 0);
        due("23: the third met first", x.learn(0, 1, 2), 2);
        due("23: the RULES met", x.version(2, 3), 2 + 0);
        due("23: the first", x.knows(2, 0, 0, 0), 3);
        due("23: the second", x.knows(2, 1, 0, 0), 5);
        due("23: not met behind the HOLE", x.knows(2, 1, 1, 0), -1);
        cues(x, 0, 1, 1, 1, 0);
        due("23: the second met first", x.learn(0, 1, 1), 3);
        due("23: slipped once", x.knows(3, 1, 1, 0), 0);
        due("23: the third", x.learn(0, 1, 2), 4);
        due("23: slipped", x.knows(4, 1, 0, 0), 6);
        due("23: one that is not met", x.learn(0, 1, 3), 5);
        due("23: none slipped", x.version(5, 4), 0);
        due("23: a large one", x.learn(0, 1, Integer.MAX_VALUE), 6);
        due("23: none slipped", x.version(6, 4), 0);
        due("23: of a SCRIPT with a SLIP", x.learn(0, 1, 0), 7);
        due("23: the first", x.knows(7, 0, 0, 0), 4);
    }

    private static void enough() {
        DeadUnderstudies x = town();
        x.begin(0, 0);
        x.force(Checks.law(x, "hours 30 if teacher = 0 and year = 30;hours 31 if part = 1"));
        due("23: just ENOUGH YEARS", x.learn(0, 1, -1), 1);
        x.put(0, 0, 49);
        due("23: one YEAR too few", x.learn(0, 1, -1), -3);
        x.terms(0, 31);
        due("23: another YEAR", x.learn(0, 1, -1), 2);
        x.force(Checks.law(x, "hours 99"));
        due("23: the other way round", x.learn(1, 0, -1), -3);
    }

    private static void undo() {
        DeadUnderstudies x = town();
        due("24: none", x.undo(), -3);
        due("24: status", x.status(), -3);
        x.begin(0, 0);
        x.begin(0, 1);
        due("24: HOLDER", x.undo(), 1);
        due("24: one left", x.count(2), 1);
        due("24: no such VERSION", x.version(1, 0), -1);
        due("24: the number again", x.learn(0, 1, -1), 1);
        due("24: without its RULES", x.version(1, 3), 0);
        due("24: HOLDER", x.undo(), 1);
        due("24: HOLDER", x.undo(), 0);
        due("24: none", x.undo(), -3);
    }

    private static void version() {
        DeadUnderstudies x = town();
        x.part(0, 24);
        x.begin(1, 1);
        x.begin(0, 0);
        cues(x, 0, 1);
        x.learn(1, 1, 0);
        due("25: PART", x.version(2, 0) * 10 + x.version(0, 0), 1);
        due("25: HOLDER", x.version(2, 1), 1);
        due("25: TEACHER", x.version(2, 2), 1);
        due("25: RULES", x.version(2, 3), 2);
        due("25: unlike: a WORD and a HOLE", x.version(2, 4), 2);
        x.rule(0, 0, 0, 4, 2);
        due("25: another STATE", x.version(2, 4), 2);
        x.rule(0, 0, 0, 4, 1);
        due("25: as that is now", x.version(2, 4), 1);
        x.rule(0, 5, 5, 0, 0);
        due("25: a HOLE of its own", x.version(2, 4), 2);
        due("25: what 5", x.version(2, 5), -1);
        due("25: what -1", x.version(2, -1), -1);
        due("25: no VERSION", x.version(3, 0), -1);
        due("25: VERSION -1", x.version(-1, 0), -1);
    }

    private static void knows() {
        DeadUnderstudies x = town();
        x.begin(0, 0);
        due("26: WORD", x.knows(0, 1, 1, 0), 9);
        due("26: STATE", x.knows(0, 1, 1, 1), 1);
        due("26: a HOLE", x.knows(0, 2, 1, 0), -1);
        due("26: a HOLE's STATE", x.knows(0, 2, 1, 1), -1);
        due("26: what 2", x.knows(0, 1, 1, 2), -1);
        due("26: STATE 6", x.knows(0, 6, 1, 0), -1);
        due("26: CUE -1", x.knows(0, 1, -1, 0), -1);
        due("26: no VERSION", x.knows(1, 1, 1, 0), -1);
        x.hush(0, 1, 1);
        due("26: not the PART", x.knows(0, 1, 1, 0), 9);
    }

    private static void says() {
        DeadUnderstudies x = town();
        x.begin(0, 0);
        due("27: no CUES", x.says(0, 0), -1);
        due("28: no CUES", x.stops(0), -1);
        cues(x, 0, 1, 0, 0, 2, 0);
        int[] words = {3, 9, 5, 3, 100, 100};
        for (int i = 0; i < 6; i++) due("27: at " + i, x.says(0, i), words[i]);
        due("27: behind the CUES", x.says(0, 6), -1);
        due("27: i -1", x.says(0, -1), -1);
        due("27: no VERSION", x.says(1, 0), -1);
        due("28: STOPS", x.stops(0), 4);
        due("28: no VERSION", x.stops(1), -1);
        cues(x, 0, 1, 0, 0);
        due("28: never", x.stops(0), -1);
        cues(x, 1);
        due("28: at the first", x.stops(0), 0);
        due("27: at the first", x.says(0, 0), 100);
    }
}
