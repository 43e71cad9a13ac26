/** Promises 15, 16, 18, 19 at their edges, a method for each sentence: PLAYS and LAWS. */
public final class LawEdgesTest {
    private static final int[] NOT_THERE = {-1, 2, 6, Integer.MIN_VALUE, Integer.MAX_VALUE};

    public static void main(String[] args) {
        Checks.sentences(LawEdgesTest.class);
    }

    private static void due(String call, long got, long want) {
        Checks.due(call, got, want);
    }

    private static DeadUnderstudies town() {
        DeadUnderstudies x = new DeadUnderstudies();
        x.part(0, 24);
        x.part(0, 24);
        x.person(0, 50, 4);
        x.person(12, 62, 3);
        x.terms(1, 9);
        return x;
    }

    private static void rule(DeadUnderstudies x, int state, int cue, int word, int next) {
        due("WORD at " + state + " " + cue, x.of(0, state, cue, 0), word);
        due("next STATE at " + state + " " + cue, x.of(0, state, cue, 1), next);
    }

    /** A town with a LAW in FORCE. */
    private static DeadUnderstudies under(String law) {
        DeadUnderstudies x = town();
        x.force(Checks.law(x, law));
        return x;
    }

    private static void asked(String law, int slips, int hours, int barred) {
        DeadUnderstudies x = under(law);
        due("SLIPS by " + law, x.asks(1, 1, 0, 0), slips);
        due("HOURS by " + law, x.asks(1, 1, 0, 1), hours);
        due("BARRED by " + law, x.asks(1, 1, 0, 2), barred);
    }

    // ""in" (S | "any") "at" (C | "any")": "S, C: NUMBERS 0 .. 5".
    static void p15StatesAndCues() {
        DeadUnderstudies x = town();
        due("0 at 5", Checks.play(x, 0, "in 0 at 5 say 1"), 1);
        due("5 at 0", Checks.play(x, 0, "in 5 at 0 say 2"), 1);
        rule(x, 0, 5, 1, 0);
        rule(x, 5, 0, 2, 5);
        due("RULES", x.stage(0, 2), 2);
        due("STATE 6", Checks.faultOfPlay(x, "in 6 at 0 say 1"), 3);
        due("CUE 6", Checks.faultOfPlay(x, "in 0 at 6 say 1"), 8);
        due("STATE -1", Checks.faultOfPlay(x, "in -1 at 0 say 1"), 3);
        due("a word for a STATE", Checks.faultOfPlay(x, "in state at 0 say 1"), 3);
        due("a SUM for a CUE", Checks.faultOfPlay(x, "in 0 at 1+1 say 1"), 9);
        due("leading 0", Checks.play(x, 0, "in 005 at 00 say 3"), 1);
    }

    // "each for all its STATES, for each for all its CUES"
    static void p15AnyStatesAndCues() {
        DeadUnderstudies x = town();
        due("all", Checks.play(x, 0, "in any at any say cue go state"), 36);
        for (int i = 0; i < 36; i++) rule(x, i / 6, i % 6, i % 6, i / 6);
        due("a STATE", Checks.play(x, 0, "in 5 at any hush"), 6);
        due("a CUE", Checks.play(x, 0, "in any at 5 hush"), 6);
        due("RULES", x.stage(0, 2), 25);
        due("the other PART", x.stage(1, 2), 0);
    }

    // "CLAUSE by CLAUSE": a later one finds what an earlier one made.
    static void p15ClauseByClause() {
        DeadUnderstudies x = town();
        due("four", Checks.play(x, 0,
            "in 0 at 0 say 3;in 0 at 0 say word+1;in 0 at 0 say word*2 go 4;in 0 at 1 say next"), 4);
        rule(x, 0, 0, 8, 4);
        rule(x, 0, 1, 0, 0);
    }

    // "where "if" is so (or there is none)"
    static void p15If() {
        DeadUnderstudies x = town();
        due("said", Checks.play(x, 0, "in any at any say 1 if state < 1 and cue > 4"), 1);
        rule(x, 0, 5, 1, 0);
        due("none", Checks.play(x, 0, "in any at any say 1 if 1=2"), 0);
        due("hushed", Checks.play(x, 0, "in any at any hush if word = 1"), 1);
        due("RULES", x.stage(0, 2), 0);
    }

    // "to hush makes a HOLE", "how many RULES were said, hushed (each time)"
    static void p15HowManyEachTime() {
        DeadUnderstudies x = town();
        due("a RULE twice", Checks.play(x, 0, "in 0 at 0 say 1;in 0 at 0 say 1"), 2);
        due("said and hushed", Checks.play(x, 0, "in 0 at any say 1;in 0 at any hush"), 12);
        due("a HOLE hushed", Checks.play(x, 0, "in 0 at 0 hush"), 1);
        due("none", Checks.play(x, 0, "in 0 at 0 hush if 1=2"), 0);
        due("the most", Checks.play(x, 0, "in any at any hush" + ";in any at any hush".repeat(11)), 432);
        due("all HOLES", x.stage(0, 2), 0);
    }

    // "the WORD is what the SUM tells, 0 .. 9 (else the nearest)"
    static void p15NearestWord() {
        String[] sums = {"0", "9", "10", "0-1", "1000*1000*1000", "0-1000*1000*1000"};
        int[] words = {0, 9, 9, 0, 9, 0};
        for (int i = 0; i < sums.length; i++) {
            DeadUnderstudies x = town();
            due("said", Checks.play(x, 0, "in 3 at 2 say " + sums[i]), 1);
            rule(x, 3, 2, words[i], 3);
        }
    }

    // "the next STATE what "go" tells, 0 .. 5 (else the nearest)"
    static void p15NearestState() {
        String[] sums = {"0", "5", "6", "0-1", "1000*1000*1000", "0-1000*1000*1000"};
        int[] states = {0, 5, 5, 0, 5, 0};
        for (int i = 0; i < sums.length; i++) {
            DeadUnderstudies x = town();
            due("said", Checks.play(x, 0, "in 3 at 2 say 4 go " + sums[i]), 1);
            rule(x, 3, 2, 4, states[i]);
        }
    }

    // "the STATE itself without": not the next STATE that the RULE had.
    static void p15StateItselfWithoutGo() {
        DeadUnderstudies x = town();
        x.rule(0, 3, 2, 4, 1);
        Checks.play(x, 0, "in any at any say 5");
        for (int state = 0; state < 6; state++) rule(x, state, 2, 5, state);
    }

    // "where one of these is BROKEN the RULE stays": "if", WORD, next STATE; none of them counts.
    static void p15BrokenRuleStays() {
        for (String clause : new String[] {"say 1/0", "say 1/0 go 2", "say 5 go 1/0", "say 5 if 1/0=1", "hush if 1/0=1",
            "say 5 go 1000*1000*1000+1", "say 1000*1000*1000+1", "hush if not 1/0=1"}) {
            DeadUnderstudies x = town();
            x.rule(0, 1, 1, 4, 2);
            Checks.taken(x, clause, Checks.play(x, 0, "in 1 at 1 " + clause), 0);
            rule(x, 1, 1, 4, 2);
        }
        DeadUnderstudies x = town();
        due("where another one is not", Checks.play(x, 0, "in 0 at any say 6/cue"), 5);
        rule(x, 0, 0, -1, -1);
        rule(x, 0, 1, 6, 0);
    }

    // "word, next: of the RULE as it is then (-1 in a HOLE)"
    static void p15WordAndNext() {
        DeadUnderstudies x = town();
        x.rule(0, 1, 1, 5, 3);
        Checks.play(x, 0, "in 1 at any say next+1 go word-1");
        rule(x, 1, 1, 4, 4);
        rule(x, 1, 2, 0, 0);
        Checks.play(x, 0, "in 2 at 2 say word+6 go next+6");
        rule(x, 2, 2, 5, 5);
        Checks.play(x, 0, "in 3 at 3 say 1 if word=0-1 and next=0-1");
        rule(x, 3, 3, 1, 3);
    }

    // "Words: "state" | "cue" | "word" | "next" | "part" | "mood"": no others.
    static void p15Words() {
        DeadUnderstudies x = town();
        due("part, mood", Checks.play(x, 1, "in 4 at 2 say mood go part;in 4 at 3 say state go cue"), 2);
        due("mood", x.of(1, 4, 2, 0), 9);
        due("part", x.of(1, 4, 2, 1), 1);
        due("state", x.of(1, 4, 3, 0), 4);
        due("cue", x.of(1, 4, 3, 1), 3);
        for (String word : new String[] {"person", "memory", "born", "dead", "teacher", "year", "any", "say", "slips",
            "states"}) {
            due("say " + word, Checks.faultOfPlay(x, "in 0 at 0 say " + word), 14);
        }
    }

    // "the TAPE is empty then", "-2 (the TAPE stays)"
    static void p15Tape() {
        DeadUnderstudies x = town();
        Checks.tape(x, "in 0 at 0 say 1");
        for (int part : NOT_THERE) {
            Checks.refused(x, "PART " + part, i -> x.play(part), -2);
            due("the TAPE stays", x.count(6), 15);
        }
        Checks.taken(x, "the last PART", x.play(1), 1);
        due("empty behind a PLAY", x.count(6), 0);
        Checks.tape(x, "in 0 at 0 say x");
        Checks.refused(x, "a FAULT", i -> x.play(1), -6);
        due("empty behind a FAULT", x.count(6), 0);
    }

    // "-6 (blanks alone: FAULT at the end)"
    static void p15BlanksAlone() {
        DeadUnderstudies x = town();
        Checks.refused(x, "an empty TAPE", i -> x.play(0), -6);
        due("FAULT", x.fault(), 0);
        Checks.refused(x, "a blank", i -> Checks.play(x, 0, " "), -6);
        due("FAULT", x.fault(), 1);
        Checks.refused(x, "no PART, ahead of an empty TAPE", i -> x.play(2), -2);
    }

    // "LAWS, 6 at most", "its number", "-5"
    static void p16SixLawsAtMost() {
        DeadUnderstudies x = town();
        for (int i = 0; i < 6; i++) {
            Checks.tape(x, "slips " + i);
            Checks.taken(x, "LAW " + i, x.law(), i);
            due("the TAPE is empty", x.count(6), 0);
        }
        Checks.refused(x, "a seventh", i -> Checks.law(x, "slips 6"), -5);
        due("count(3)", x.count(3), 6);
        x.force(5);
        due("the sixth", x.asks(0, 0, -1, 0), 5);
    }

    // "-5 (ahead of reading it; the TAPE is empty then, too)"
    static void p16NoRoomAheadOfReading() {
        DeadUnderstudies x = town();
        for (int i = 0; i < 6; i++) Checks.law(x, "bars");
        Checks.refused(x, "a FAULT", i -> Checks.law(x, "slips"), -5);
        due("it was not read", x.fault(), -1);
        due("the TAPE is empty", x.count(6), 0);
        Checks.refused(x, "an empty TAPE", i -> x.law(), -5);
    }

    // "-6 (as for play())"
    static void p16Faults() {
        DeadUnderstudies x = town();
        Checks.refused(x, "an empty TAPE", i -> x.law(), -6);
        due("FAULT", x.fault(), 0);
        Checks.refused(x, "blanks", i -> Checks.law(x, "  "), -6);
        due("FAULT", x.fault(), 2);
        Checks.refused(x, "a PLAY", i -> Checks.law(x, "in 0 at 0 hush"), -6);
        due("the TAPE is empty", x.count(6), 0);
        due("none came", x.count(3), 0);
        due("the number is still the first", Checks.law(x, "bars"), 0);
    }

    // "(("slips" | "hours") SUM | "bars") ["if" TEST]"
    static void p16Clauses() {
        DeadUnderstudies x = town();
        String[] ahead = {"slips ", "hours ", "slips 1 ", "bars ", "bars if 1", "slips 1 if 1=1;", "bars;", "",
            "bars if 1=1 and"};
        String[] behind = {"if 1=1", "", "hours 1", "1", "", "", "bar", "if 1=1", ""};
        for (int i = 0; i < ahead.length; i++) {
            due("FAULT of " + ahead[i] + behind[i], Checks.faultOfLaw(x, ahead[i] + behind[i]), ahead[i].length());
        }
        due("a LAW", Checks.law(x, "bars if 1=1;slips 1 if 1=1;hours 1 if 1=1;bars;slips 1;hours 1"), 0);
    }

    // "Words: "person" | "memory" | "born" | "dead" | "part" | "teacher" | "year" | "mood"": no others.
    static void p16Words() {
        DeadUnderstudies x = town();
        for (String word : new String[] {"state", "cue", "word", "next", "any", "go", "slips", "bars", "years"}) {
            due("slips " + word, Checks.faultOfLaw(x, "slips " + word), 6);
        }
        x.terms(0, 33);
        String[] words = {"person", "memory", "born", "dead", "part", "teacher", "year", "mood"};
        int[] values = {1, 3, 12, 62, 1, 0, 33, 9};
        for (int i = 0; i < words.length; i++) {
            x.image(0);
            x.force(Checks.law(x, "slips " + words[i]));
            due(words[i], x.asks(1, 1, 0, 0), values[i]);
            x.back(0);
        }
    }

    // "A LAW is in FORCE (NONE: none): which was."
    static void p18WhichWas() {
        DeadUnderstudies x = town();
        due("none at first", x.count(12), -1);
        Checks.taken(x, "none for none", x.force(-1), -1);
        Checks.law(x, "slips 50");
        Checks.law(x, "slips 60");
        due("a LAW alone is not in FORCE", x.asks(0, 0, -1, 0), 10);
        Checks.taken(x, "the last", x.force(1), -1);
        due("in FORCE", x.asks(0, 0, -1, 0), 60);
        Checks.taken(x, "the first", x.force(0), 1);
        due("in FORCE", x.asks(0, 0, -1, 0), 50);
        due("count(12)", x.count(12), 0);
        Checks.taken(x, "none", x.force(-1), 0);
        due("none", x.asks(0, 0, -1, 0), 10);
    }

    static void p18NoSuchLaw() {
        DeadUnderstudies x = town();
        Checks.refused(x, "LAW 0 of none", i -> x.force(0), -2);
        Checks.law(x, "bars");
        x.force(0);
        for (int law : new int[] {1, 5, 6, -2, Integer.MIN_VALUE, Integer.MAX_VALUE}) {
            Checks.refused(x, "LAW " + law, i -> x.force(law), -2);
        }
        due("it stays", x.count(12), 0);
    }

    // "one is in FORCE (NONE at first: no CLAUSE)": "SLIP without", "1 without", not BARRED.
    static void p19WithoutALaw() {
        DeadUnderstudies x = town();
        for (int slip : new int[] {0, 100}) {
            x.terms(2, slip);
            due("SLIPS", x.asks(0, 0, -1, 0), slip);
        }
        due("HOURS", x.asks(0, 0, -1, 1), 1);
        due("BARRED", x.asks(0, 0, -1, 2), 0);
    }

    static void p19Nones() {
        DeadUnderstudies x = under("bars");
        Checks.noneBeyond("what", what -> x.asks(0, 0, -1, what), 0, 2);
        Checks.noneBeyond("PERSON", person -> x.asks(person, 0, -1, 0), 0, 1);
        Checks.noneBeyond("PART", part -> x.asks(0, part, -1, 0), 0, 1);
        Checks.noneBeyond("teacher", teacher -> x.asks(0, 0, teacher, 0), -1, 1);
        due("status", x.status(), 0);
    }

    // "as the last "slips" that HOLDS tells, 0 .. 100 (else the nearest), SLIP without"
    static void p19Slips() {
        asked("slips 100", 100, 1, 0);
        asked("slips 101", 100, 1, 0);
        asked("slips 0", 0, 1, 0);
        asked("slips 0-1", 0, 1, 0);
        asked("slips 1000*1000*1000", 100, 1, 0);
        asked("slips 0-1000*1000*1000", 0, 1, 0);
        asked("slips 40;slips 30;slips 20 if 1=2;slips 1/0", 30, 1, 0);
        asked("slips 40 if 1=2", 10, 1, 0);
        asked("slips 1/0", 10, 1, 0);
    }

    // "needs HOURS as "hours" tells, 0 .. 99, 1 without"
    static void p19Hours() {
        asked("hours 99", 10, 99, 0);
        asked("hours 100", 10, 99, 0);
        asked("hours 0", 10, 0, 0);
        asked("hours 0-1", 10, 0, 0);
        asked("hours 40;hours 30;hours 20 if 1=2;hours 1/0", 10, 30, 0);
        asked("hours 40 if 1/0=1", 10, 1, 0);
        asked("hours 40 if 1=2", 10, 1, 0);
    }

    // "is BARRED, if "bars" HOLDS"
    static void p19Barred() {
        asked("bars", 10, 1, 1);
        asked("bars if 1=2", 10, 1, 0);
        asked("bars if 1/0=1", 10, 1, 0);
        asked("bars;bars if 1=2", 10, 1, 1);
        asked("slips 7;hours 8;bars if 1=1", 7, 8, 1);
    }

    // A LAW is just its own TEXT, not what is left of a longer one ahead of it.
    static void p19OfItsOwnText() {
        DeadUnderstudies x = town();
        Checks.law(x, "slips 1;bars;hours 9");
        x.force(Checks.law(x, "slips 7"));
        due("SLIPS", x.asks(0, 0, -1, 0), 7);
        due("HOURS", x.asks(0, 0, -1, 1), 1);
        due("BARRED", x.asks(0, 0, -1, 2), 0);
        x.force(0);
        due("SLIPS by the first", x.asks(0, 0, -1, 0), 1);
        due("HOURS by the first", x.asks(0, 0, -1, 1), 9);
        due("BARRED by the first", x.asks(0, 0, -1, 2), 1);
    }

    // "In YEAR", "a teacher (a PERSON, -1 without)"
    static void p19YearAndTeacher() {
        DeadUnderstudies x = under("slips year;hours teacher+2");
        x.terms(0, 0);
        due("YEAR 0", x.asks(0, 0, -1, 0), 0);
        x.terms(0, 100);
        due("YEAR 100, whoever is ALIVE", x.asks(0, 0, -1, 0), 100);
        due("without", x.asks(0, 0, -1, 1), 1);
        due("PERSON 0", x.asks(0, 0, 0, 1), 2);
        due("PERSON 1", x.asks(0, 0, 1, 1), 3);
    }
}
