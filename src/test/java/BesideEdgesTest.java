/** Promises 29 to 36 at their edges, a method for each sentence: VERSIONS beside one another. */
public final class BesideEdgesTest {
    public static void main(String[] args) {
        Checks.sentences(BesideEdgesTest.class);
    }

    private static void due(String call, long got, long want) {
        Checks.due(call, got, want);
    }

    /** A town with a VERSION of each PLAY told. */
    private static DeadUnderstudies versions(String... plays) {
        DeadUnderstudies x = BesideTest.town(plays.length);
        for (int part = 0; part < plays.length; part++) {
            if (!plays[part].isEmpty()) Checks.play(x, part, plays[part]);
            x.begin(part, 0);
        }
        return x;
    }

    private static void apart(DeadUnderstudies x, int one, int other, int... row) {
        due("how many", x.apart(one, other, -1), row.length == 0 ? -1 : row.length);
        for (int i = 0; i < row.length; i++) due("CUE " + i, x.apart(one, other, i), row[i]);
        for (int i : new int[] {-2, row.length, Integer.MIN_VALUE, Integer.MAX_VALUE}) {
            due("i " + i, x.apart(one, other, i), -1);
        }
    }

    private static void trap(DeadUnderstudies x, int version, int... row) {
        due("how many", x.trap(version, -1), row.length == 0 ? -1 : row.length);
        for (int i = 0; i < row.length; i++) due("CUE " + i, x.trap(version, i), row[i]);
        for (int i : new int[] {-2, row.length, Integer.MIN_VALUE, Integer.MAX_VALUE}) due("i " + i, x.trap(version, i), -1);
    }

    // "one of two VERSIONS says another WORD than the other"
    static void p29AnotherWord() {
        DeadUnderstudies x = versions("in any at any say 0", "in any at any say 0;in 0 at 5 say 9",
            "in any at any say 0;in 0 at 0 say 1");
        apart(x, 0, 1, 5);
        apart(x, 1, 0, 5);
        apart(x, 0, 2, 0);
        apart(x, 1, 2, 0);
    }

    // "or STOPS and the other does not": where both STOP it ends.
    static void p29OneStops() {
        DeadUnderstudies x = versions("", "", "in 0 at 3 say 0", "in 0 at 3 say 0 go 1;in 1 at 1 say 5");
        apart(x, 0, 1);
        apart(x, 0, 2, 3);
        apart(x, 2, 0, 3);
        apart(x, 2, 3, 3, 1);
    }

    // "NONE (they never are, too)"
    static void p29NeverApart() {
        DeadUnderstudies x = versions("in any at any say 4 go 5", "in any at any say 4 go 3", "in 0 at any say 1 go 0");
        apart(x, 0, 1);
        apart(x, 0, 0);
        apart(x, 2, 2);
    }

    // "the shortest row of CUES", "the first": by their numbers from the first on.
    static void p29ShortestAndFirst() {
        DeadUnderstudies x = versions("in any at any say 0 go 0",
            "in any at any say 0 go 5;in 0 at 2 say 0 go 1;in 0 at 4 say 0 go 2;in 1 at 5 say 1;in 2 at 0 say 1;in 5 at 0 say 0 go 3;in 3 at 0 say 1",
            "in any at any say 0 go 0;in 0 at 3 say 2;in 0 at 4 say 1;in 0 at 5 hush");
        apart(x, 0, 1, 2, 5);
        apart(x, 0, 2, 3);
        apart(x, 1, 2, 3);
    }

    // Rounds of five and of six STATES say alike for nine WORDS.
    static void p29TenCues() {
        DeadUnderstudies x = versions("in any at any say state/4 go [state+1]%5",
            "in any at any say 0 go [state+1]%6;in 4 at any say 1 go 5");
        apart(x, 0, 1, 0, 0, 0, 0, 0, 0, 0, 0, 0, 0);
    }

    static void p29NoSuchVersion() {
        DeadUnderstudies x = versions("", "in 0 at 0 say 0");
        Checks.noneBeyond("one", one -> x.apart(one, one == 1 ? 0 : 1, -1), 0, 1);
        Checks.noneBeyond("other", other -> x.apart(other == 1 ? 0 : 1, other, -1), 0, 1);
    }

    // What other VERSIONS were asked ahead is no matter.
    static void p29AskedOneBehindAnother() {
        DeadUnderstudies x = versions("in any at any say 0 go state+1", "in any at any say 0 go state+1;in 5 at 5 hush",
            "in any at any say 0 go 0", "in any at any say 0 go 0;in 1 at any say 1;in 5 at any hush");
        for (int i = 0; i < 3; i++) {
            apart(x, 0, 1, 0, 0, 0, 0, 0, 5);
            apart(x, 2, 3);
            trap(x, 1, 0, 0, 0, 0, 0, 5);
            trap(x, 3);
        }
    }

    // "A TRAP: the shortest row at which a VERSION STOPS; the first."
    static void p30Trap() {
        DeadUnderstudies x = versions("", "in any at any say 0;in 0 at 5 hush",
            "in any at any say 0 go [state+1]%6;in 5 at 5 hush",
            "in any at any say 0 go 0;in 0 at 3 say 0 go 2;in 0 at 4 say 0 go 1;in 1 at 0 hush;in 2 at 5 hush;in 2 at 4 hush");
        trap(x, 0, 0);
        trap(x, 1, 5);
        trap(x, 2, 0, 0, 0, 0, 0, 5);
        trap(x, 3, 3, 4);
    }

    // "NONE (there is none, too)": a HOLE to which no row leads is none.
    static void p30NoTrap() {
        DeadUnderstudies x = versions("in any at any say 0", "in 0 at any say 0 go 1;in 1 at any say 0 go 0");
        trap(x, 0);
        trap(x, 1);
        Checks.noneOutside("VERSION", version -> x.trap(version, -1), 0, 1);
        x.hush(0, 0, 0);
        x.begin(0, 0);
        Checks.noneBeyond("VERSION", version -> x.trap(version, -1), 2, 2);
    }

    // "the WORD it says, modulo 6, is the CUE for the other one"
    static void p31ModuloSix() {
        for (int word = 0; word < 10; word++) {
            DeadUnderstudies x = versions("in 0 at 0 say " + word, "in 0 at any say 9-cue go 1");
            due("answer to " + word, x.talk(0, 1, 0, 11), 9 - word % 6);
        }
    }

    // "behind how many WORDS one STOPS" (NONE: never).
    static void p31Stops() {
        DeadUnderstudies x = versions("in 0 at 0 say 1 go 1;in 1 at 3 say 4 go 2",
            "in 0 at 1 say 3 go 1;in 1 at 4 say 5 go 1", "in any at any say 0");
        due("STOPS", x.talk(0, 1, 0, 0), 4);
        due("no round", x.talk(0, 1, 0, 1), -1);
        due("no round", x.talk(0, 1, 0, 2), -1);
        int[] words = {1, 3, 4, 5, -1, -1};
        for (int i = 0; i < 6; i++) due("WORD " + i, x.talk(0, 1, 0, 10 + i), words[i]);
        due("at once", x.talk(0, 1, 1, 0), 0);
        due("no WORD", x.talk(0, 1, 1, 10), -1);
        due("behind one", x.talk(2, 1, 5, 0), 1);
        due("behind three", x.talk(2, 0, 5, 0), 3);
        due("never", x.talk(2, 2, 5, 0), -1);
        due("that round", x.talk(2, 2, 5, 2) > 0 ? 1 : 0, 1);
        due("no round behind it", x.talk(0, 1, 0, 1), -1);
        due("no round behind it", x.talk(0, 1, 0, 2), -1);
    }

    // "both STATES, whose turn it is and the CUE are as they were ahead, and how many WORDS that round has"
    static void p31Round() {
        DeadUnderstudies x = versions("in any at any say 0 go [state+1]%6", "in any at any say 0 go [state+1]%5",
            "in any at any say 0 go 5",
            "in any at any say cue");
        due("ahead", x.talk(0, 1, 0, 1), 0);
        due("round", x.talk(0, 1, 0, 2), 60);
        due("another CUE ahead", x.talk(0, 1, 3, 1), 60 - 59);
        due("its round", x.talk(0, 1, 3, 2), 60);
        due("both STATES ahead", x.talk(2, 2, 0, 1), 2);
        due("turns are two", x.talk(2, 2, 0, 2), 2);
        due("the CUE stays", x.talk(3, 3, 4, 1), 0);
        due("turns are two", x.talk(3, 3, 4, 2), 2);
        due("one that stays, one that goes", x.talk(3, 0, 2, 1), 2);
    }

    // "the i-th WORD (10 + i, i 0 .. 89 ..)"
    static void p31WordsTo89() {
        DeadUnderstudies x = versions("in any at any say state go [state+1]%6", "in any at any say state+4 go [state+1]%5");
        for (int i = 0; i < 90; i++) {
            due("WORD " + i, x.talk(0, 1, 0, 10 + i), i % 2 == 0 ? i / 2 % 6 : 4 + i / 2 % 5);
        }
        due("WORD 90", x.talk(0, 1, 0, 100), -1);
        due("what 9", x.talk(0, 1, 0, 9), -1);
    }

    static void p31Nones() {
        DeadUnderstudies x = versions("in any at any say 0", "in any at any say 0");
        for (int what : new int[] {3, 4, 9, 100, 101, -1, Integer.MIN_VALUE, Integer.MAX_VALUE}) {
            due("what " + what, x.talk(0, 1, 0, what), -1);
        }
        Checks.noneBeyond("CUE", cue -> x.talk(0, 1, cue, 2), 0, 5);
        Checks.noneBeyond("one", one -> x.talk(one, 0, 0, 10), 0, 1);
        Checks.noneBeyond("other", other -> x.talk(0, other, 0, 10), 0, 1);
    }

    // "(a VERSION that talks with itself has one SCRIPT, two STATES)"
    static void p31WithItself() {
        DeadUnderstudies x = versions("in 0 at 0 say 2 go 1;in 0 at 2 say 4 go 2;in 1 at 4 say 7 go 3");
        int[] words = {2, 4, 7, -1};
        for (int i = 0; i < 4; i++) due("WORD " + i, x.talk(0, 0, 0, 10 + i), words[i]);
        due("STOPS", x.talk(0, 0, 0, 0), 3);
    }

    // "MENDED is a TALK that STOPS by one RULE in place of that HOLE (WORD, next STATE), so that it never STOPS"
    static void p32Ways() {
        DeadUnderstudies x = versions("", "in any at any say 0", "in 0 at 5 say 5 go 0");
        due("all WORDS, all STATES: CUE 0 comes back to a HOLE", x.mends(0, 1, 5, 0), 0);
        due("CUE 0 comes back to the new RULE", x.mends(0, 1, 0, 0), 10);
        due("its WORD", x.mends(0, 1, 0, 1), 0);
        due("its STATE", x.mends(0, 1, 0, 2), 0);
        due("the second one's HOLE", x.mends(1, 0, 0, 0), 10);
        due("WORD 5 alone", x.mends(2, 0, 5, 0), 1);
        due("that WORD", x.mends(2, 0, 5, 1), 5);
        due("its STATE", x.mends(2, 0, 5, 2), 0);
    }

    static void p32SixtyWays() {
        DeadUnderstudies x = versions("in any at any say 0;in 0 at 3 hush", "in any at any say 1");
        due("all", x.mends(0, 1, 3, 0), 60);
        due("the first WORD", x.mends(0, 1, 3, 1), 0);
        due("the first STATE", x.mends(0, 1, 3, 2), 0);
    }

    // "the first by WORDS, then STATES"
    static void p32First() {
        DeadUnderstudies x = versions("in 5 at any say 0;in 4 at 4 say 0",
            "in 0 at any say cue;in 0 at 0 hush;in 0 at 1 hush;in 0 at 2 hush");
        due("WORDS 3, 4, 5, 9, STATE 5; WORD 4, STATE 4", x.mends(0, 1, 0, 0), 0);
        DeadUnderstudies y = versions("in 5 at any say 3;in 4 at 4 say 4",
            "in 0 at any say cue;in 0 at 0 hush;in 0 at 1 hush;in 0 at 2 hush");
        due("WORDS 3, 4, 5, 9, STATE 5; WORD 4, STATE 4", y.mends(0, 1, 0, 0), 5);
        due("the first WORD", y.mends(0, 1, 0, 1), 3);
        due("its STATE", y.mends(0, 1, 0, 2), 5);
        y.rule(0, 5, 3, 0, 0);
        y.begin(0, 0);
        due("WORDS 4, 5, STATE 5, but for 3; WORD 4, STATE 4", y.mends(2, 1, 0, 0), 1);
        due("the first WORD", y.mends(2, 1, 0, 1), 4);
        due("its first STATE", y.mends(2, 1, 0, 2), 4);
    }

    // "(what 0; 0 if it never STOPS)", "NONE (none, for 1, 2)"
    static void p32NoneToMend() {
        DeadUnderstudies x = versions("in any at any say 0", "");
        for (int what = 0; what <= 2; what++) due("never STOPS, what " + what, x.mends(0, 0, 0, what), what == 0 ? 0 : -1);
        due("a way, of VERSIONS that are no matter then", x.mends(1, 0, 0, 1), 0);
        for (int what = 0; what <= 2; what++) due("no way, what " + what, x.mends(1, 0, 5, what), what == 0 ? 0 : -1);
        due("a way", x.mends(1, 0, 0, 2), 0);
        for (int what = 0; what <= 2; what++) due("never STOPS, what " + what, x.mends(0, 0, 0, what), what == 0 ? 0 : -1);
    }

    static void p32Nones() {
        DeadUnderstudies x = versions("in any at any say 0;in 0 at 0 hush;in 0 at 5 hush", "in any at any say 1");
        Checks.noneBeyond("what", what -> x.mends(0, 1, 0, what), 0, 2);
        Checks.noneBeyond("CUE", cue -> x.mends(0, 1, cue, 0), 0, 5);
        Checks.noneBeyond("one", one -> x.mends(one, 1, 0, 0), 0, 1);
        Checks.noneBeyond("other", other -> x.mends(0, other, 0, 0), 0, 1);
    }

    // A VERSION that talks with itself is mended for both.
    static void p32WithItself() {
        DeadUnderstudies x = versions("", "");
        due("one SCRIPT", x.mends(0, 0, 0, 0), 2);
        due("two SCRIPTS", x.mends(0, 1, 0, 0), 0);
        due("nothing is mended but on paper", x.version(0, 3), 0);
    }

    // "the WORD most say at the last one, the lowest"
    static void p33MostAndLowest() {
        DeadUnderstudies x = BesideTest.town(1);
        x.cue(0);
        int[] words = {9, 0, 9, 0, 5, 9};
        int[] most = {9, 0, 9, 0, 0, 9};
        int[] votes = {1, 1, 2, 2, 2, 3};
        for (int i = 0; i < 6; i++) {
            x.rule(0, 0, 0, words[i], 0);
            x.begin(0, 0);
            due("WORD of " + (i + 1), x.vote(0, 0), most[i]);
            due("how many of " + (i + 1), x.vote(0, 1), votes[i]);
        }
        for (int i = 6; i < 12; i++) x.begin(0, 1);
        due("how many of twelve", x.vote(0, 1), 9);
    }

    // "whose HOLDER is ALIVE in YEAR"
    static void p33Alive() {
        DeadUnderstudies x = BesideTest.town(1);
        x.cue(0);
        x.rule(0, 0, 0, 1, 0);
        x.begin(0, 0);
        x.rule(0, 0, 0, 0, 0);
        x.begin(0, 1);
        x.hush(0, 0, 0);
        x.begin(0, 1);
        x.terms(0, 39);
        due("both", x.vote(0, 0), 0);
        due("STOPPED", x.vote(0, 2), 1);
        x.terms(0, 40);
        due("one", x.vote(0, 0), 1);
        due("STOPPED", x.vote(0, 2), 0);
        x.terms(0, 50);
        due("nobody", x.vote(0, 0), -1);
        due("nobody", x.vote(0, 1), -1);
        due("nobody STOPPED", x.vote(0, 2), 0);
    }

    // "how many STOPPED by then (2)": not at the last CUE alone.
    static void p33Stopped() {
        DeadUnderstudies x = BesideTest.town(1);
        x.cue(0);
        x.cue(1);
        x.begin(0, 0);
        x.rule(0, 0, 1, 4, 0);
        x.begin(0, 0);
        due("both at the first", x.vote(0, 2), 2);
        due("no WORD", x.vote(0, 0), -1);
        x.rule(0, 0, 0, 4, 1);
        x.begin(0, 0);
        due("one at the last", x.vote(0, 2), 3);
        due("no WORD", x.vote(0, 1), -1);
        x.rule(0, 1, 1, 7, 1);
        x.begin(0, 0);
        due("one says it", x.vote(0, 0) * 10 + x.vote(0, 1), 71);
        due("the others STOPPED", x.vote(0, 2), 3);
    }

    // "NONE (no CUES; nobody says any, for 0, 1)"
    static void p33Nones() {
        DeadUnderstudies x = BesideTest.town(2);
        for (int what = 0; what <= 2; what++) due("no CUES, " + what, x.vote(0, what), -1);
        x.cue(0);
        for (int what = 0; what <= 2; what++) due("nobody says any, " + what, x.vote(0, what), what == 2 ? 0 : -1);
        Checks.play(x, 0, "in any at any say 2");
        Checks.play(x, 1, "in any at any say 3");
        x.begin(0, 0);
        x.begin(1, 0);
        Checks.noneBeyond("what", what -> x.vote(0, what), 0, 2);
        Checks.noneBeyond("PART", part -> x.vote(part, 0), 0, 1);
        due("of that PART alone", x.vote(1, 0) * 10 + x.vote(1, 1), 31);
        x.still();
        for (int what = 0; what <= 2; what++) due("no CUES, " + what, x.vote(0, what), -1);
    }

    // "through n hands (0 .. 6)", "k (0 .. 9)"
    static void p34Nones() {
        DeadUnderstudies x = new DeadUnderstudies();
        due("n 0", x.drift(0, 0), 1);
        due("n 6", x.drift(6, 0), 531441000000L);
        for (int n : new int[] {-1, 7, Integer.MIN_VALUE, Integer.MAX_VALUE}) due("n " + n, x.drift(n, 0), -1);
        Checks.noneOutside("k", k -> (int) x.drift(6, k), 0, 9);
        for (int k = 7; k <= 9; k++) due("k " + k + " is too far for six", x.drift(6, k), 0);
    }

    // "in SLIP of a hundred: in how many of 100 to the n it is k more then"
    static void p34Chances() {
        DeadUnderstudies x = new DeadUnderstudies();
        for (int slip : new int[] {0, 1, 37, 99, 100}) {
            x.terms(2, slip);
            for (int n = 0; n <= 6; n++) {
                for (int k = 0; k <= 9; k++) {
                    due("drift of " + slip + ", " + n + ", " + k, x.drift(n, k), chances(slip, n, k));
                }
            }
        }
    }

    private static long chances(int slip, int n, int k) {
        if (n == 0) return k == 0 ? 1 : 0;
        return (100 - slip) * chances(slip, n - 1, k) + slip * (k == 0 ? 0 : chances(slip, n - 1, k - 1));
    }

    // The TERM SLIP, not what a LAW tells.
    static void p34SlipIsTheTerm() {
        DeadUnderstudies x = BesideTest.town(1);
        x.force(Checks.law(x, "slips 50"));
        due("drift(1, 1)", x.drift(1, 1), 10);
    }

    // "the WORDS that most of its VERSIONS say there (HOLES aside; all HOLES: none), as bits"
    static void p35Bits() {
        DeadUnderstudies x = BesideTest.town(2);
        due("no VERSIONS", x.origin(0, 0, 0), 0);
        x.begin(0, 0);
        due("all HOLES", x.origin(0, 0, 0), 0);
        x.begin(0, 0);
        int[] words = {9, 0, 5, 0, 9, 0};
        int[] bits = {1 << 9, 1 << 9 | 1, 1 << 9 | 1 | 1 << 5, 1, 1 | 1 << 9, 1};
        for (int i = 0; i < 6; i++) {
            x.rule(0, 0, 0, words[i], i);
            x.rule(0, 5, 5, words[i], i);
            x.begin(0, 0);
            due("of " + (i + 1), x.origin(0, 0, 0), bits[i]);
            due("the last RULE of " + (i + 1), x.origin(0, 5, 5), bits[i]);
        }
        due("the other PART", x.origin(1, 0, 0), 0);
    }

    // A VERSION that was undone says nothing any more.
    static void p35NotOfOneUndone() {
        DeadUnderstudies x = BesideTest.town(1);
        x.rule(0, 0, 0, 4, 0);
        x.begin(0, 0);
        x.rule(0, 0, 0, 5, 0);
        x.begin(0, 0);
        x.undo();
        due("origin", x.origin(0, 0, 0), 1 << 4);
        due("SLIPS", x.origins(0, 0), 0);
        due("ways", x.origins(0, 1), 1);
        x.cue(0);
        due("vote", x.vote(0, 0) * 10 + x.vote(0, 1), 41);
    }

    // "all" WORDS: ten VERSIONS.
    static void p35AllWords() {
        DeadUnderstudies x = tenWords(1);
        due("all ten", x.origin(0, 0, 0), 1023);
        x.terms(0, 300);
        due("whoever is ALIVE", x.origin(0, 0, 0), 1023);
    }

    static void p35Nones() {
        DeadUnderstudies x = BesideTest.town(2);
        Checks.noneBeyond("PART", part -> x.origin(part, 0, 0), 0, 1);
        Checks.noneBeyond("STATE", state -> x.origin(0, state, 0), 0, 5);
        Checks.noneBeyond("CUE", cue -> x.origin(0, 0, cue), 0, 5);
    }

    /** Ten VERSIONS that say ten WORDS at so many RULES. */
    private static DeadUnderstudies tenWords(int rules) {
        DeadUnderstudies x = BesideTest.town(1);
        for (int word = 0; word < 10; word++) {
            for (int i = 0; i < rules; i++) x.rule(0, i / 6, i % 6, word, 0);
            x.begin(0, 0);
        }
        return x;
    }

    // "in how many ways (1; 10 to the 18th at most)"
    static void p36Ways() {
        due("no RULES", tenWords(0).origins(0, 1), 1);
        due("17 RULES", tenWords(17).origins(0, 1), 100000000000000000L);
        due("18 RULES", tenWords(18).origins(0, 1), 1000000000000000000L);
        due("19 RULES", tenWords(19).origins(0, 1), 1000000000000000000L);
        due("36 RULES", tenWords(36).origins(0, 1), 1000000000000000000L);
    }

    // Below the most each way is counted; at the most a RULE with one way more changes nothing.
    static void p36WaysBelowTheMost() {
        DeadUnderstudies x = tenWords(17);
        DeadUnderstudies y = tenWords(18);
        for (DeadUnderstudies each : new DeadUnderstudies[] {x, y}) {
            Checks.play(each, 0, "in any at any hush");
            each.rule(0, 5, 5, 0, 0);
            each.begin(0, 0);
        }
        due("17 RULES of ten, one of one", x.origins(0, 1), 100000000000000000L);
        due("18 RULES of ten, one of one", y.origins(0, 1), 1000000000000000000L);
        x.rule(0, 5, 5, 1, 0);
        x.begin(0, 0);
        due("17 RULES of ten, one of two", x.origins(0, 1), 200000000000000000L);
    }

    // "how many SLIPS the first SCRIPT has at least (what 0)"
    static void p36Slips() {
        DeadUnderstudies x = BesideTest.town(2);
        due("no VERSIONS", x.origins(0, 0), 0);
        Checks.play(x, 0, "in any at any say 3");
        x.begin(0, 0);
        due("one VERSION", x.origins(0, 0), 0);
        Checks.play(x, 0, "in any at any say 9");
        x.begin(0, 0);
        due("one of two, at each RULE", x.origins(0, 0), 36);
        for (int i = 2; i < 12; i++) {
            Checks.play(x, 0, "in any at any say " + i % 10 + " if cue < 5;in any at 5 hush");
            x.begin(0, 0);
        }
        due("3, 9, 2 .. 9, 0, 1 but for CUE 5", x.origins(0, 0), 30 * 10 + 6);
        due("ways", x.origins(0, 1), 1L << 36);
        due("the other PART", x.origins(1, 0), 0);
    }

    static void p36Nones() {
        DeadUnderstudies x = BesideTest.town(2);
        Checks.noneBeyond("what", what -> (int) x.origins(0, what), 0, 1);
        Checks.noneBeyond("PART", part -> (int) x.origins(part, 1), 0, 1);
    }
}
