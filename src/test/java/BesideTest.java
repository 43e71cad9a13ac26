/** Promises 29 to 36: VERSIONS beside one another. */
public final class BesideTest {
    public static void main(String[] args) {
        apart();
        apartByStop();
        trap();
        talk();
        talkRound();
        mends();
        vote();
        drift();
        origin();
        Checks.close();
    }

    private static void due(String call, long got, long want) {
        Checks.due(call, got, want);
    }

    static DeadUnderstudies town(int parts) {
        DeadUnderstudies x = new DeadUnderstudies();
        for (int i = 0; i < parts; i++) x.part(0, 24);
        x.person(0, 50, 5);
        x.person(0, 40, 5);
        return x;
    }

    /** Two parts that say 0 and stay, but for a way 0, 1, 2, 3, 4, 5 through the STATES by the CUES 5, 4, 3, 2, 1. */
    private static DeadUnderstudies longWay() {
        DeadUnderstudies x = town(2);
        for (int part = 0; part < 2; part++) {
            Checks.play(x, part, "in any at any say 0;in any at any say 0 go state + 1 if state + cue = 5 and state < 5");
        }
        return x;
    }

    private static void apart() {
        DeadUnderstudies x = longWay();
        x.begin(0, 0);
        x.begin(1, 0);
        due("29: never", x.apart(0, 1, -1), -1);
        due("29: never, the first", x.apart(0, 1, 0), -1);
        x.rule(1, 5, 3, 1, 0);
        x.begin(1, 0);
        due("29: how many", x.apart(0, 2, -1), 6);
        int[] row = {5, 4, 3, 2, 1, 3};
        for (int i = 0; i < 6; i++) due("29: the row", x.apart(0, 2, i), row[i]);
        due("29: behind it", x.apart(0, 2, 6), -1);
        due("29: i -2", x.apart(0, 2, -2), -1);
        due("29: the other way round", x.apart(2, 0, 5), 3);
        due("29: itself", x.apart(2, 2, -1), -1);
        x.rule(1, 0, 4, 2, 3);
        x.rule(1, 0, 2, 2, 3);
        x.begin(1, 0);
        due("29: the shortest", x.apart(0, 3, -1), 1);
        due("29: the first", x.apart(0, 3, 0), 2);
        due("29: no VERSION", x.apart(0, 4, -1), -1);
        due("29: VERSION -1", x.apart(-1, 0, -1), -1);
        x.rule(1, 0, 4, 0, 3);
        x.hush(1, 0, 2);
        x.rule(1, 0, 2, 0, 0);
        x.begin(1, 0);
        due("29: another STATE alone is not yet APART", x.apart(0, 4, -1), 4);
        int[] shorter = {4, 2, 1, 3};
        for (int i = 0; i < 4; i++) due("29: the row by way of it", x.apart(0, 4, i), shorter[i]);
    }

    private static void apartByStop() {
        DeadUnderstudies x = town(2);
        x.begin(0, 0);
        x.begin(0, 0);
        due("29: both STOP at once", x.apart(0, 1, -1), -1);
        x.rule(1, 0, 3, 0, 2);
        x.begin(1, 0);
        due("29: one STOPS", x.apart(0, 2, -1), 1);
        due("29: there", x.apart(2, 0, 0), 3);
        x.rule(0, 0, 3, 0, 2);
        x.rule(0, 2, 1, 4, 2);
        x.begin(0, 0);
        due("29: one STOPS behind one", x.apart(2, 3, -1), 2);
        due("29: there", x.apart(3, 2, 1), 1);
    }

    private static void trap() {
        DeadUnderstudies x = longWay();
        x.begin(0, 0);
        due("30: none", x.trap(0, -1), -1);
        due("30: none, the first", x.trap(0, 0), -1);
        x.hush(0, 5, 5);
        x.hush(0, 5, 4);
        x.begin(0, 0);
        due("30: how many", x.trap(1, -1), 6);
        int[] row = {5, 4, 3, 2, 1, 4};
        for (int i = 0; i < 6; i++) due("30: the row", x.trap(1, i), row[i]);
        due("30: behind it", x.trap(1, 6), -1);
        due("30: i -2", x.trap(1, -2), -1);
        x.hush(0, 0, 5);
        x.begin(0, 0);
        due("30: the shortest", x.trap(2, -1), 1);
        due("30: there", x.trap(2, 0), 5);
        due("30: no VERSION", x.trap(3, -1), -1);
    }

    private static void talk() {
        DeadUnderstudies x = town(2);
        x.rule(0, 0, 0, 3, 1);
        x.rule(0, 1, 2, 9, 0);
        x.rule(1, 0, 3, 8, 4);
        x.begin(0, 0);
        x.begin(1, 1);
        due("31: STOPS behind", x.talk(0, 1, 0, 0), 3);
        due("31: no round", x.talk(0, 1, 0, 1), -1);
        due("31: no round", x.talk(0, 1, 0, 2), -1);
        int[] words = {3, 8, 9, -1, -1};
        for (int i = 0; i < 5; i++) due("31: WORD " + i, x.talk(0, 1, 0, 10 + i), words[i]);
        due("31: at once", x.talk(0, 1, 5, 0), 0);
        due("31: no WORD", x.talk(0, 1, 5, 10), -1);
        due("31: the other first", x.talk(1, 0, 3, 0), 1);
        due("31: CUE 6", x.talk(0, 1, 6, 0), -1);
        due("31: CUE -1", x.talk(0, 1, -1, 0), -1);
        due("31: no VERSION", x.talk(0, 2, 0, 0), -1);
        due("31: VERSION -1", x.talk(-1, 0, 0, 0), -1);
        due("31: what 3", x.talk(0, 1, 0, 3), -1);
        due("31: what 9", x.talk(0, 1, 0, 9), -1);
        due("31: what -1", x.talk(0, 1, 0, -1), -1);
    }

    private static void talkRound() {
        DeadUnderstudies x = town(2);
        // 0 says 1, then 2 for ever at whatever CUE; 1 says 0, 0, 0, .. in three STATES.
        Checks.play(x, 0, "in any at any say 2 go 1;in 0 at any say 1 go 1");
        Checks.play(x, 1, "in any at any say 0 go [state + 1] % 3");
        x.begin(0, 0);
        x.begin(1, 1);
        due("31: never STOPS", x.talk(0, 1, 0, 0), -1);
        due("31: ahead of the round", x.talk(0, 1, 0, 1), 2);
        due("31: the round", x.talk(0, 1, 0, 2), 6);
        due("31: the CUE is asked, too", x.talk(0, 1, 4, 1), 2);
        int[] words = {1, 0, 2, 0, 2, 0};
        for (int i = 0; i < 6; i++) due("31: WORD " + i, x.talk(0, 1, 0, 10 + i), words[i]);
        due("31: WORD 88", x.talk(0, 1, 0, 98), 2);
        due("31: WORD 89", x.talk(0, 1, 0, 99), 0);
        due("31: WORD 90", x.talk(0, 1, 0, 100), -1);
        due("31: with itself, two STATES", x.talk(1, 1, 0, 2), 6);
        due("31: with itself, at once in the round", x.talk(1, 1, 0, 1), 0);
        due("31: with itself, two STATES", x.talk(0, 0, 0, 11), 1);
        due("31: with itself, ahead of the round", x.talk(0, 0, 0, 1), 3);
        due("31: with itself, turns are not alike", x.talk(0, 0, 0, 2), 2);
    }

    private static void mends() {
        DeadUnderstudies x = town(2);
        x.rule(0, 0, 0, 1, 0);
        x.rule(1, 0, 1, 6, 2);
        x.begin(0, 0);
        x.begin(1, 1);
        due("32: STOPS at 1 in STATE 2 of the second", x.talk(0, 1, 0, 0), 3);
        due("32: ways", x.mends(0, 1, 0, 0), 4);
        due("32: the first WORD", x.mends(0, 1, 0, 1), 0);
        due("32: the first STATE", x.mends(0, 1, 0, 2), 0);
        due("32: the VERSION is as it was", x.version(1, 3), 1);
        due("32: so is the TALK", x.talk(0, 1, 0, 0), 3);
        x.rule(0, 0, 0, 2, 3);
        x.rule(1, 0, 2, 4, 0);
        x.rule(0, 3, 5, 2, 3);
        x.begin(0, 0);
        x.begin(1, 0);
        due("32: the first one STOPS", x.talk(2, 3, 0, 0), 2);
        due("32: its ways", x.mends(2, 3, 0, 0), 1 + 1 + 0);
        due("32: its WORD", x.mends(2, 3, 0, 1), 2);
        due("32: its STATE", x.mends(2, 3, 0, 2), 3);
        due("32: no way", x.mends(0, 3, 3, 0), 0);
        due("32: no WORD", x.mends(0, 3, 3, 1), -1);
        due("32: no STATE", x.mends(0, 3, 3, 2), -1);
        Checks.play(x, 1, "in any at any say 0");
        x.begin(1, 0);
        due("32: never STOPS", x.mends(4, 4, 0, 0), 0);
        due("32: never STOPS", x.mends(4, 4, 0, 1), -1);
        x.hush(1, 0, 0);
        x.begin(1, 0);
        due("32: one SCRIPT for both", x.mends(5, 5, 0, 0), 60);
        due("32: what 3", x.mends(5, 5, 0, 3), -1);
        due("32: what -1", x.mends(5, 5, 0, -1), -1);
        due("32: CUE 6", x.mends(5, 5, 6, 0), -1);
        due("32: no VERSION", x.mends(5, 6, 0, 0), -1);
    }

    private static void vote() {
        DeadUnderstudies x = town(2);
        due("33: no CUES", x.vote(0, 2), -1);
        x.cue(4);
        due("33: no VERSIONS, the WORD", x.vote(0, 0), -1);
        due("33: no VERSIONS, how many", x.vote(0, 1), -1);
        due("33: no VERSIONS, STOPPED", x.vote(0, 2), 0);
        x.begin(0, 0);
        due("33: all STOP, the WORD", x.vote(0, 0), -1);
        due("33: all STOP, how many", x.vote(0, 1), -1);
        due("33: all STOP, STOPPED", x.vote(0, 2), 1);
        x.rule(0, 0, 4, 7, 1);
        x.begin(0, 1);
        x.begin(0, 1);
        x.rule(0, 0, 4, 2, 1);
        x.begin(0, 0);
        due("33: most", x.vote(0, 0) * 10 + x.vote(0, 1), 72);
        x.begin(0, 0);
        due("33: the lowest", x.vote(0, 0) * 10 + x.vote(0, 1), 22);
        x.rule(1, 0, 4, 9, 0);
        x.begin(1, 0);
        due("33: of that PART alone", x.vote(1, 0) * 10 + x.vote(1, 1), 91);
        x.begin(0, 1);
        x.terms(0, 40);
        due("33: ALIVE alone", x.vote(0, 0) * 10 + x.vote(0, 1), 22);
        x.rule(0, 0, 4, 0, 1);
        x.rule(0, 1, 0, 0, 1);
        x.begin(0, 0);
        x.cue(0);
        due("33: at the last CUE", x.vote(0, 0) * 10 + x.vote(0, 1), 1);
        due("33: STOPPED by then", x.vote(0, 2), 3);
        due("33: what 3", x.vote(0, 3), -1);
        due("33: what -1", x.vote(0, -1), -1);
        due("33: no PART", x.vote(2, 0), -1);
    }

    private static void drift() {
        DeadUnderstudies x = new DeadUnderstudies();
        due("34: no hands", x.drift(0, 0), 1);
        due("34: no hands, one more", x.drift(0, 1), 0);
        due("34: one hand", x.drift(1, 1), 10);
        due("34: one hand, none", x.drift(1, 0), 90);
        due("34: two", x.drift(2, 1), 1800);
        x.terms(2, 50);
        due("34: six, three", x.drift(6, 3), 20L * 15625000000L);
        due("34: six, six", x.drift(6, 6), 15625000000L);
        due("34: six, seven", x.drift(6, 7), 0);
        x.terms(2, 100);
        due("34: all", x.drift(6, 6), 1000000000000L);
        due("34: none", x.drift(6, 5), 0);
        x.terms(2, 0);
        due("34: never", x.drift(6, 0), 1000000000000L);
        due("34: n 7", x.drift(7, 0), -1);
        due("34: n -1", x.drift(-1, 0), -1);
        due("34: k 10", x.drift(1, 10), -1);
        due("34: k -1", x.drift(1, -1), -1);
    }

    private static void origin() {
        DeadUnderstudies x = town(2);
        due("35: no VERSIONS", x.origin(0, 0, 0), 0);
        due("36: no VERSIONS, SLIPS", x.origins(0, 0), 0);
        due("36: no VERSIONS, ways", x.origins(0, 1), 1);
        x.begin(0, 0);
        x.rule(0, 0, 0, 5, 0);
        x.rule(0, 1, 2, 8, 0);
        x.begin(0, 0);
        x.rule(0, 0, 0, 2, 0);
        x.begin(0, 0);
        x.begin(0, 0);
        x.rule(0, 1, 2, 1, 0);
        x.begin(0, 0);
        x.rule(0, 0, 0, 5, 3);
        x.rule(0, 1, 2, 8, 1);
        x.begin(0, 0);
        x.terms(0, 300);
        due("35: HOLES aside, the most", x.origin(0, 0, 0), 1 << 2);
        due("35: of 5, 2, 2, 2, 5", x.origins(0, 0), 2 + 1);
        due("35: the other RULE", x.origin(0, 1, 2), 1 << 8);
        due("35: all HOLES", x.origin(0, 2, 2), 0);
        due("36: one way", x.origins(0, 1), 1);
        x.terms(0, 0);
        x.hush(0, 1, 2);
        x.begin(0, 0);
        due("35: as many", x.origin(0, 0, 0), 1 << 2 | 1 << 5);
        due("36: two ways", x.origins(0, 1), 2);
        due("36: SLIPS", x.origins(0, 0), 3 + 1);
        due("35: the other PART", x.origin(1, 0, 0), 0);
        due("35: STATE 6", x.origin(0, 6, 0), -1);
        due("35: CUE -1", x.origin(0, 0, -1), -1);
        due("35: no PART", x.origin(2, 0, 0), -1);
        due("36: no PART", x.origins(2, 0), -1);
        due("36: what 2", x.origins(0, 2), -1);
        due("36: what -1", x.origins(0, -1), -1);
        DeadUnderstudies y = town(1);
        Checks.play(y, 0, "in any at any say 0");
        y.begin(0, 0);
        Checks.play(y, 0, "in any at any say 1");
        y.begin(0, 0);
        due("36: 2 to the 36th", y.origins(0, 1), 1L << 36);
        due("36: 36 SLIPS", y.origins(0, 0), 36);
        Checks.play(y, 0, "in any at any say 2");
        y.begin(0, 0);
        due("36: 3 to the 36th", y.origins(0, 1), 150094635296999121L);
        Checks.play(y, 0, "in any at any say 3");
        y.begin(0, 0);
        due("36: at most", y.origins(0, 1), 1000000000000000000L);
    }
}
