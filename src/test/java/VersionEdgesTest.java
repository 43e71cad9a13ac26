/** Promises 20 to 28 at their edges, a method for each sentence: CUES, BEGIN, LEARN and what VERSIONS are. */
public final class VersionEdgesTest {
    private static final int[] FAR = {Integer.MIN_VALUE, -1, 12, Integer.MAX_VALUE};

    public static void main(String[] args) {
        Checks.sentences(VersionEdgesTest.class);
    }

    private static void due(String call, long got, long want) {
        Checks.due(call, got, want);
    }

    /** A PART: from STATE 0 at CUE 0 a 9 and to 1, at 1 a 4 and back. PEOPLE: 0 to 49, 20 to 79, 49 to 99. YEAR 30. */
    private static DeadUnderstudies town() {
        DeadUnderstudies x = new DeadUnderstudies();
        x.part(0, 24);
        x.rule(0, 0, 0, 9, 1);
        x.rule(0, 1, 1, 4, 0);
        x.person(0, 50, 5);
        x.person(20, 80, 5);
        x.person(49, 100, 5);
        x.terms(0, 30);
        return x;
    }

    private static void cues(DeadUnderstudies x, int... cues) {
        x.still();
        for (int cue : cues) x.cue(cue);
    }

    // "CUES: a row, 12 at most."
    static void p20TwelveCuesAtMost() {
        DeadUnderstudies x = town();
        for (int i = 1; i <= 12; i++) Checks.taken(x, "cue " + i, x.cue(i % 6), i);
        Checks.refused(x, "a thirteenth", i -> x.cue(0), -5);
        due("count(4)", x.count(4), 12);
        Checks.tooFar(x, "-1 ahead of -5: CUE", cue -> x.cue(cue), 0, 5);
        due("count(4)", x.count(4), 12);
    }

    // "at a CUE 0 .. 5"
    static void p20Cue() {
        DeadUnderstudies x = town();
        Checks.range(x, "CUE", cue -> x.cue(cue), 0, 5);
        due("two came", x.count(4), 2);
    }

    // "A CUE comes behind the row".
    static void p20BehindTheRow() {
        DeadUnderstudies x = town();
        x.begin(0, 0);
        cues(x, 0, 1, 0);
        due("says 0", x.says(0, 0), 9);
        due("says 1", x.says(0, 1), 4);
        due("says 2", x.says(0, 2), 9);
        x.cue(2);
        due("says 3", x.says(0, 3), 100);
    }

    // "CUES are none then: how many there were."
    static void p21HowManyThereWere() {
        DeadUnderstudies x = town();
        due("of none", x.still(), 0);
        for (int i = 0; i < 12; i++) x.cue(5);
        due("of twelve", x.still(), 12);
        due("count(4)", x.count(4), 0);
        due("of none", x.still(), 0);
        due("the first anew", x.cue(5), 1);
    }

    // "-2 there is no such PART, PERSON".
    static void p22NoSuchPartOrPerson() {
        DeadUnderstudies x = town();
        for (int part : new int[] {-1, 1, 6, Integer.MAX_VALUE}) {
            Checks.refused(x, "PART " + part, i -> x.begin(part, 0), -2);
        }
        for (int person : new int[] {-1, 3, 8, Integer.MIN_VALUE}) {
            Checks.refused(x, "PERSON " + person, i -> x.begin(0, person), -2);
        }
        due("none came", x.count(2), 0);
    }

    // "To BEGIN: a PERSON who is ALIVE in YEAR": "from BORN on till DEAD".
    static void p22Alive() {
        DeadUnderstudies x = town();
        int[] years = {19, 20, 79, 80};
        int[] answers = {-3, 0, 1, -3};
        for (int i = 0; i < 4; i++) {
            x.terms(0, years[i]);
            if (answers[i] < 0) Checks.refused(x, "in " + years[i], k -> x.begin(0, 1), -3);
            else Checks.taken(x, "in " + years[i], x.begin(0, 1), answers[i]);
        }
    }

    // "and not BARRED (no teacher)".
    static void p22Barred() {
        DeadUnderstudies x = town();
        x.force(Checks.law(x, "bars if teacher = 0-1 and year = 30 and person = 1 and part = 0"));
        Checks.refused(x, "BARRED", i -> x.begin(0, 1), -3);
        Checks.taken(x, "another PERSON", x.begin(0, 0), 0);
        x.terms(0, 31);
        Checks.taken(x, "another YEAR", x.begin(0, 1), 1);
        x.force(Checks.law(x, "bars if teacher > 0-1;hours 99"));
        Checks.taken(x, "BARRED of a teacher alone", x.begin(0, 1), 2);
    }

    // "takes a PART as it is": all 36 RULES, all HOLES.
    static void p22TakesThePartAsItIs() {
        DeadUnderstudies x = town();
        x.begin(0, 0);
        due("two RULES", x.version(0, 3), 2);
        for (int i = 0; i < 36; i++) x.rule(0, i / 6, i % 6, i * 7 % 10, i * 5 % 6);
        x.begin(0, 0);
        for (int i = 0; i < 36; i++) {
            due("WORD " + i, x.knows(1, i / 6, i % 6, 0), i * 7 % 10);
            due("next STATE " + i, x.knows(1, i / 6, i % 6, 1), i * 5 % 6);
            x.hush(0, i / 6, i % 6);
        }
        due("as it was", x.version(1, 3), 36);
        x.begin(0, 0);
        due("all HOLES", x.version(2, 3), 0);
        due("the first one stays", x.version(0, 3), 2);
    }

    // "VERSIONS 0 .. 11 (12 at most)", "-5".
    static void p22TwelveVersionsAtMost() {
        DeadUnderstudies x = town();
        for (int i = 0; i < 12; i++) Checks.taken(x, "VERSION " + i, x.begin(0, i % 2), i);
        Checks.refused(x, "a thirteenth", i -> x.begin(0, 0), -5);
        Checks.refused(x, "not ALIVE ahead of no room", i -> x.begin(0, 2), -3);
        Checks.refused(x, "no PART ahead of no room", i -> x.begin(1, 0), -2);
        due("count(2)", x.count(2), 12);
        due("the last one's HOLDER", x.version(11, 1), 1);
        x.undo();
        Checks.taken(x, "the last one anew", x.begin(0, 0), 11);
    }

    // "-1 (i below NONE)", ahead of -2.
    static void p23SlipBelowNone() {
        DeadUnderstudies x = town();
        x.begin(0, 0);
        Checks.refused(x, "-2", i -> x.learn(0, 1, -2), -1);
        Checks.refused(x, "the least", i -> x.learn(0, 1, Integer.MIN_VALUE), -1);
        Checks.refused(x, "ahead of no VERSION", i -> x.learn(1, 1, -2), -1);
        Checks.refused(x, "ahead of no PERSON", i -> x.learn(0, 9, -2), -1);
        Checks.refused(x, "ahead of -3", i -> x.learn(0, 0, -2), -1);
        Checks.taken(x, "NONE", x.learn(0, 1, -1), 1);
        Checks.taken(x, "the most", x.learn(0, 1, Integer.MAX_VALUE), 2);
    }

    static void p23NoSuchVersionOrPerson() {
        DeadUnderstudies x = town();
        Checks.refused(x, "VERSION 0 of none", i -> x.learn(0, 1, -1), -2);
        x.begin(0, 0);
        for (int version : new int[] {-1, 1, 12, Integer.MAX_VALUE}) {
            Checks.refused(x, "VERSION " + version, i -> x.learn(version, 1, -1), -2);
        }
        for (int person : new int[] {-1, 3, 8, Integer.MIN_VALUE}) {
            Checks.refused(x, "PERSON " + person, i -> x.learn(0, person, -1), -2);
        }
        x.undo();
        Checks.refused(x, "one that was undone", i -> x.learn(0, 1, -1), -2);
    }

    // "its HOLDER and the PERSON (another one)".
    static void p23AnotherOne() {
        DeadUnderstudies x = town();
        x.begin(0, 0);
        Checks.refused(x, "himself", i -> x.learn(0, 0, -1), -3);
        Checks.taken(x, "another one", x.learn(0, 1, -1), 1);
        Checks.taken(x, "and back", x.learn(1, 0, -1), 2);
    }

    // "are ALIVE in YEAR": the PERSON.
    static void p23PersonAlive() {
        DeadUnderstudies x = town();
        x.begin(0, 0);
        x.terms(0, 48);
        Checks.refused(x, "ahead of BORN", i -> x.learn(0, 2, -1), -3);
        x.terms(0, 49);
        Checks.taken(x, "from BORN on", x.learn(0, 2, -1), 1);
        x.terms(0, 79);
        Checks.taken(x, "ahead of DEAD", x.learn(1, 1, -1), 2);
        x.terms(0, 80);
        Checks.refused(x, "DEAD", i -> x.learn(1, 1, -1), -3);
    }

    // "are ALIVE in YEAR": the HOLDER.
    static void p23HolderAlive() {
        DeadUnderstudies x = town();
        x.begin(0, 0);
        x.begin(0, 1);
        x.terms(0, 49);
        Checks.taken(x, "ahead of DEAD", x.learn(0, 1, -1), 2);
        x.terms(0, 50);
        Checks.refused(x, "DEAD", i -> x.learn(0, 1, -1), -3);
        x.terms(0, 20);
        Checks.taken(x, "from BORN on", x.learn(1, 0, -1), 3);
        x.terms(0, 19);
        Checks.refused(x, "ahead of BORN", i -> x.learn(1, 0, -1), -3);
    }

    // "the PERSON is not BARRED (teacher: the HOLDER)".
    static void p23Barred() {
        DeadUnderstudies x = town();
        x.begin(0, 0);
        x.force(Checks.law(x, "bars if person = 1 and teacher = 0 and part = 0 and year = 30"));
        Checks.refused(x, "BARRED", i -> x.learn(0, 1, -1), -3);
        x.terms(0, 31);
        Checks.taken(x, "another YEAR", x.learn(0, 1, -1), 1);
        x.force(Checks.law(x, "bars if person = 0"));
        Checks.taken(x, "a HOLDER who is BARRED", x.learn(0, 1, -1), 2);
        Checks.refused(x, "of him", i -> x.learn(1, 0, -1), -3);
        x.force(Checks.law(x, "bars if teacher = 0-1"));
        Checks.taken(x, "BARRED without a teacher alone", x.learn(0, 1, -1), 3);
    }

    // "ENOUGH: not fewer than HOURS tells (teacher: the HOLDER)": both ALIVE from 20 till 50, 30 YEARS.
    static void p23YearsEnough() {
        DeadUnderstudies x = town();
        x.begin(0, 0);
        x.force(Checks.law(x, "hours 30 if teacher = 0 and person = 1 and year = 30"));
        Checks.taken(x, "as many", x.learn(0, 1, -1), 1);
        x.force(Checks.law(x, "hours 31 if teacher = 0 and person = 1 and year = 30"));
        Checks.refused(x, "one too few", i -> x.learn(0, 1, -1), -3);
        x.put(0, 0, 51);
        Checks.taken(x, "by another DEAD", x.learn(0, 1, -1), 2);
        x.force(Checks.law(x, "hours 0"));
        Checks.taken(x, "none needed", x.learn(0, 1, -1), 3);
    }

    // "needs HOURS .. 1 without": one YEAR in common is ENOUGH.
    static void p23OneYear() {
        DeadUnderstudies x = town();
        x.begin(0, 0);
        x.terms(0, 49);
        Checks.taken(x, "49 alone", x.learn(0, 2, -1), 1);
        x.force(Checks.law(x, "hours 2"));
        Checks.refused(x, "two needed", i -> x.learn(0, 2, -1), -3);
    }

    static void p23NoRoomIsLast() {
        DeadUnderstudies x = town();
        x.begin(0, 0);
        for (int i = 1; i < 12; i++) Checks.taken(x, "VERSION " + i, x.learn(0, 1, -1), i);
        Checks.refused(x, "a thirteenth", i -> x.learn(0, 1, -1), -5);
        Checks.refused(x, "-3 ahead", i -> x.learn(0, 0, -1), -3);
        Checks.refused(x, "-2 ahead", i -> x.learn(12, 1, -1), -2);
        Checks.refused(x, "-1 ahead", i -> x.learn(0, 1, -2), -1);
        due("count(2)", x.count(2), 12);
    }

    // "the RULES that were met are the new SCRIPT, all others HOLES"
    static void p23RulesMet() {
        DeadUnderstudies x = town();
        x.rule(0, 0, 5, 3, 0);
        x.begin(0, 0);
        cues(x, 0, 1, 0, 1);
        x.learn(0, 1, -1);
        due("RULES", x.version(1, 3), 2);
        due("WORD, next STATE", x.knows(1, 0, 0, 0) * 10 + x.knows(1, 0, 0, 1), 91);
        due("WORD, next STATE", x.knows(1, 1, 1, 0) * 10 + x.knows(1, 1, 1, 1), 40);
        due("not met", x.knows(1, 0, 5, 0), -1);
        due("unlike", x.version(1, 4), 1);
    }

    static void p23NoRuleMet() {
        DeadUnderstudies x = town();
        x.begin(0, 0);
        due("no CUES", x.learn(0, 1, 0), 1);
        due("no RULES", x.version(1, 3), 0);
        cues(x, 1, 0);
        due("it STOPS at the first", x.learn(0, 1, 0), 2);
        due("no RULES", x.version(2, 3), 0);
        cues(x, 0, 0, 1);
        due("it STOPS at the second", x.learn(0, 1, -1), 3);
        due("one RULE", x.version(3, 3), 1);
    }

    // "a SLIP at the i-th of the RULES met, in the order in which they were met first"
    static void p23SlipAtTheIth() {
        DeadUnderstudies x = town();
        x.rule(0, 1, 0, 2, 1);
        x.begin(0, 0);
        cues(x, 0, 0, 0, 1, 0);
        for (int i = -1; i <= 3; i++) x.learn(0, 1, i);
        int[][] words = {{9, 2, 4}, {0, 2, 4}, {9, 3, 4}, {9, 2, 5}, {9, 2, 4}};
        for (int i = 0; i < 5; i++) {
            due("first met, SLIP " + (i - 1), x.knows(i + 1, 0, 0, 0), words[i][0]);
            due("second met, SLIP " + (i - 1), x.knows(i + 1, 1, 0, 0), words[i][1]);
            due("third met, SLIP " + (i - 1), x.knows(i + 1, 1, 1, 0), words[i][2]);
        }
    }

    // "its WORD is one more (0 behind 9)"; the next STATE stays.
    static void p23OneMore() {
        DeadUnderstudies x = town();
        x.begin(0, 0);
        cues(x, 0);
        x.learn(0, 1, 0);
        due("0 behind 9", x.knows(1, 0, 0, 0) * 10 + x.knows(1, 0, 0, 1), 1);
        x.learn(1, 0, 0);
        due("1 behind 0", x.knows(2, 0, 0, 0), 1);
        x.rule(0, 0, 0, 8, 5);
        x.begin(0, 0);
        x.learn(3, 1, 0);
        due("9 behind 8", x.knows(4, 0, 0, 0) * 10 + x.knows(4, 0, 0, 1), 95);
    }

    // A RULE of which the WORD slipped still is met by the teacher's WORDS: the pupil sees his row.
    static void p23PlayedByTheTeacher() {
        DeadUnderstudies x = town();
        x.begin(0, 0);
        cues(x, 0, 1, 0, 1);
        x.learn(0, 1, 1);
        due("both RULES", x.version(1, 3), 2);
        due("one unlike", x.version(1, 4), 1);
    }

    // "The latest VERSION is undone: its HOLDER. -3 there is none."
    static void p24Undo() {
        DeadUnderstudies x = town();
        Checks.refused(x, "none", i -> x.undo(), -3);
        x.begin(0, 1);
        x.learn(0, 0, -1);
        Checks.taken(x, "the second", x.undo(), 0);
        due("count(2)", x.count(2), 1);
        due("no such VERSION", x.version(1, 1), -1);
        Checks.taken(x, "the first", x.undo(), 1);
        Checks.refused(x, "none any more", i -> x.undo(), -3);
        for (int i = 0; i < 12; i++) x.begin(0, 0);
        for (int i = 11; i >= 0; i--) Checks.taken(x, "VERSION " + i, x.undo(), 0);
        due("none is left", x.count(2), 0);
    }

    // What is undone leaves nothing in the VERSION that comes in its place.
    static void p24NothingIsLeft() {
        DeadUnderstudies x = town();
        x.begin(0, 0);
        cues(x, 0, 1);
        x.learn(0, 1, -1);
        x.undo();
        cues(x, 0);
        x.learn(0, 1, -1);
        due("one RULE", x.version(1, 3), 1);
    }

    // "the PART (what 0), HOLDER (1), TEACHER (2), how many RULES are no HOLES (3)"
    static void p25WhatItTells() {
        DeadUnderstudies x = town();
        x.part(0, 24);
        x.begin(1, 0);
        x.begin(0, 1);
        cues(x, 0);
        x.learn(1, 0, -1);
        int[][] facts = {{1, 0, -1, 0}, {0, 1, -1, 2}, {0, 0, 1, 1}};
        for (int i = 0; i < 12; i++) due("version " + i / 4 + ", " + i % 4, x.version(i / 4, i % 4), facts[i / 4][i % 4]);
        Checks.noneBeyond("what", what -> x.version(2, what), 0, 4);
    }

    static void p25NoneOfNoVersion() {
        DeadUnderstudies x = town();
        due("VERSION 0 of none", x.version(0, 0), -1);
        x.begin(0, 0);
        x.begin(0, 0);
        Checks.noneBeyond("VERSION", version -> x.version(version, 0), 0, 1);
        for (int i = 2; i < 12; i++) x.begin(0, 0);
        Checks.noneBeyond("VERSION", version -> x.version(version, 4), 0, 11);
    }

    // "from how many RULES of its PART, as that is now, it is unlike, HOLES too (4)"
    static void p25Unlike() {
        DeadUnderstudies x = town();
        x.begin(0, 0);
        due("none", x.version(0, 4), 0);
        x.rule(0, 0, 0, 9, 2);
        due("the next STATE alone", x.version(0, 4), 1);
        x.rule(0, 0, 0, 0, 1);
        due("the WORD alone", x.version(0, 4), 1);
        x.rule(0, 0, 0, 9, 1);
        due("as it was", x.version(0, 4), 0);
        x.hush(0, 1, 1);
        due("a HOLE of the PART", x.version(0, 4), 1);
        x.rule(0, 5, 5, 0, 0);
        due("a HOLE of its own", x.version(0, 4), 2);
        Checks.play(x, 0, "in any at any say 1 go 5");
        due("all", x.version(0, 4), 36);
    }

    static void p26WhatItTells() {
        DeadUnderstudies x = town();
        x.begin(0, 0);
        due("WORD", x.knows(0, 0, 0, 0), 9);
        due("next STATE", x.knows(0, 0, 0, 1), 1);
        Checks.noneBeyond("what", what -> x.knows(0, 1, 1, what), 0, 1);
        due("a HOLE's WORD", x.knows(0, 0, 1, 0), -1);
        due("a HOLE's STATE", x.knows(0, 0, 1, 1), -1);
    }

    static void p26NoneOfNoRule() {
        DeadUnderstudies x = town();
        Checks.play(x, 0, "in any at any say 1 go 5");
        x.begin(0, 0);
        Checks.noneBeyond("VERSION", version -> x.knows(version, 0, 0, 0), 0, 0);
        Checks.noneBeyond("STATE", state -> x.knows(0, state, 0, 0), 0, 5);
        Checks.noneBeyond("CUE", cue -> x.knows(0, 0, cue, 1), 0, 5);
        for (int version : FAR) due("VERSION " + version, x.knows(version, 0, 0, 0), -1);
    }

    // "A SCRIPT is PLAYED from STATE 0 on, CUE by CUE", "The WORD a VERSION says at the i-th of the CUES".
    static void p27WordAtTheIth() {
        DeadUnderstudies x = town();
        x.begin(0, 0);
        cues(x, 0, 1, 0, 1, 0, 1, 0, 1, 0, 1, 0, 1);
        for (int i = 0; i < 12; i++) due("at " + i, x.says(0, i), i % 2 == 0 ? 9 : 4);
        Checks.noneBeyond("i", i -> x.says(0, i), 0, 11);
    }

    // "(it STOPPED by then: 100)"
    static void p27StoppedByThen() {
        DeadUnderstudies x = town();
        x.begin(0, 0);
        cues(x, 0, 1, 1, 0, 0);
        int[] words = {9, 4, 100, 100, 100};
        for (int i = 0; i < 5; i++) due("at " + i, x.says(0, i), words[i]);
        due("behind the row", x.says(0, 5), -1);
        x.still();
        due("no CUES", x.says(0, 0), -1);
        due("no VERSION", x.says(1, 0), -1);
        due("VERSION -1", x.says(-1, 0), -1);
    }

    // "At which of the CUES a VERSION STOPS. NONE (never, too)."
    static void p28AtWhich() {
        DeadUnderstudies x = town();
        x.begin(0, 0);
        due("no CUES", x.stops(0), -1);
        cues(x, 1);
        due("at the first", x.stops(0), 0);
        cues(x, 0, 1, 0);
        due("never", x.stops(0), -1);
        cues(x, 0, 1, 0, 1, 0, 1, 0, 1, 0, 1, 0, 0);
        due("at the last", x.stops(0), 11);
        Checks.noneOutside("VERSION", version -> x.stops(version), 0, 0);
    }
}
