/** Promises 39 to 43 at their edges, a method for each sentence: DEEDS, the LEAST PART and what he WOULD say. */
public final class DeedEdgesTest {
    public static void main(String[] args) {
        Checks.sentences(DeedEdgesTest.class);
    }

    private static void due(String call, long got, long want) {
        Checks.due(call, got, want);
    }

    /** DEEDS of a ROW, a CUE and a WORD, a digit each. */
    private static DeadUnderstudies told(String deeds) {
        DeadUnderstudies x = new DeadUnderstudies();
        tell(x, deeds);
        return x;
    }

    private static void tell(DeadUnderstudies x, String deeds) {
        x.forget();
        if (deeds.isEmpty()) return;
        for (String d : deeds.split(" ")) x.deed(d.charAt(0) - '0', d.charAt(1) - '0', d.charAt(2) - '0');
    }

    private static void least(String deeds, int states, int ways) {
        DeadUnderstudies x = told(deeds);
        due("STATES of " + deeds, x.least(0), states);
        due("ways of " + deeds, x.least(1), ways);
    }

    private static void would(String deeds, int row, int cue, int bits) {
        due("would(" + row + ", " + cue + ") behind " + deeds, told(deeds).would(row, cue), bits);
    }

    // "in a ROW 0 .. 3 at a CUE a WORD was said"
    static void p39RangesOfNumbers() {
        DeadUnderstudies x = new DeadUnderstudies();
        Checks.range(x, "ROW", n -> x.deed(n, 0, 0), 0, 3);
        Checks.range(x, "CUE", n -> x.deed(0, n, 0), 0, 5);
        Checks.range(x, "WORD", n -> x.deed(0, 0, n), 0, 9);
        due("six came", x.count(5), 6);
    }

    // "DEEDS, 12 at most", "how many there are", "-1; -5"
    static void p39TwelveDeedsAtMost() {
        DeadUnderstudies x = new DeadUnderstudies();
        for (int i = 1; i <= 12; i++) Checks.taken(x, "deed " + i, x.deed(i % 4, i % 6, i % 10), i);
        Checks.refused(x, "a thirteenth", i -> x.deed(0, 0, 0), -5);
        Checks.refused(x, "ROW 4 ahead of -5", i -> x.deed(4, 0, 0), -1);
        Checks.refused(x, "CUE 6 ahead of -5", i -> x.deed(0, 6, 0), -1);
        Checks.refused(x, "WORD 10 ahead of -5", i -> x.deed(0, 0, 10), -1);
        due("count(5)", x.count(5), 12);
    }

    // "DEEDS are none then: how many there were."
    static void p40HowManyThereWere() {
        DeadUnderstudies x = new DeadUnderstudies();
        due("of none", x.forget(), 0);
        for (int i = 0; i < 12; i++) x.deed(0, 0, 0);
        due("of twelve", x.forget(), 12);
        due("count(5)", x.count(5), 0);
        due("of none", x.forget(), 0);
        due("the first anew", x.deed(0, 0, 0), 1);
    }

    /** A VERSION that says 3, 4, 3, .. at CUE 0. */
    private static DeadUnderstudies player() {
        DeadUnderstudies x = new DeadUnderstudies();
        x.part(0, 24);
        x.person(0, 50, 1);
        x.rule(0, 0, 0, 3, 1);
        x.rule(0, 1, 0, 4, 0);
        x.begin(0, 0);
        return x;
    }

    private static void judged(String deeds, int first) {
        DeadUnderstudies x = player();
        tell(x, deeds);
        due("judge of " + deeds, x.judge(0), first);
    }

    // "The first DEED that is not so, if a VERSION were PLAYED in each ROW."
    static void p41FirstThatIsNotSo() {
        judged("004", 0);
        judged("003 003", 1);
        judged("003 004 003 004 003 004 003 004 003 004 003 009", 11);
        judged("103 003 104 004 303 203 204 003 005 205", 8);
        judged("303 203 004 204 203 003", 2);
        judged("103 105 005", 1);
    }

    // PLAYED from STATE 0 each time it is asked.
    static void p41AskedOneBehindAnother() {
        DeadUnderstudies x = player();
        tell(x, "003 103");
        for (int i = 0; i < 3; i++) due("all are so", x.judge(0), -1);
        tell(x, "003 104");
        for (int i = 0; i < 3; i++) due("not the second", x.judge(0), 1);
    }

    // It STOPS at a HOLE: that DEED is not so.
    static void p41Stops() {
        judged("010", 0);
        judged("003 014", 1);
        judged("003 103 114 004", 2);
    }

    // "NONE (all are so, too)"
    static void p41AllAreSo() {
        judged("", -1);
        judged("003", -1);
        judged("003 004 103 203 303 104 003 204 304 103 203 004", -1);
        DeadUnderstudies x = player();
        tell(x, "009");
        Checks.noneBeyond("VERSION", version -> x.judge(version), 0, 0);
        due("no CUES are asked", x.judge(0), 0);
    }

    // "the fewest STATES 1 .. 3": "NONE (not by 3, for 0)", "ways (1; 0)"
    static void p42FewestStates() {
        least("", 1, 1);
        least("009", 1, 1);
        least("000 009", 2, 1);
        least("001 002 003", 3, 1);
        least("001 002 003 004", -1, 0);
        least("001 101", 1, 1);
        least("001 102", -1, 0);
        least("001 012 023 034 045 050 001 012 023 034 045 050", 1, 1);
    }

    // "says in each ROW, PLAYED from STATE 0, all its WORDS"
    static void p42EachRowFromStateZero() {
        least("001 012 101 113", -1, 0);
        least("001 012 113", 2, 1);
        least("001 002 101 102 201 202 301 302", 2, 1);
        least("001 002 101 103", -1, 0);
        least("001 112 011", 2, 1);
    }

    // "in how many ways the STATES and WORDS that DEEDS meet can be": the last of a ROW leads nowhere.
    static void p42Ways() {
        // CUE 1 between, at STATE 0 or 1; the 2 is at STATE 1.
        least("001 010 002", 2, 2);
        // The fourth at STATE 0 or 1, too.
        least("001 010 002 010", 2, 4);
        // It leads to STATE 0 where the second leads to 1: so they are not at one STATE.
        least("001 010 002 010 001", 2, 2);
        least("001 010 011", 2, 2);
    }

    // "STATES numbered as they are met first (ROW by ROW)": the second one met is 1 in any way.
    static void p42NumberedAsMet() {
        least("001 002 003 001", 3, 1);
        // 0 0 1 2, 0 1 0 2, 0 1 2 0: never 0 2 ..
        least("011 001 002 003", 3, 3);
        due("told in another order", told("101 011 002 113").least(1), told("011 002 101 113").least(1));
        due("STATES of it", told("101 011 002 113").least(0), 2);
    }

    static void p42TwelveDeeds() {
        least("001 002 003 001 002 003 001 002 003 001 002 003", 3, 1);
        least("000 000 000 000 000 000 000 000 000 000 000 001", -1, 0);
        least("001 001 001 101 101 101 201 201 201 301 301 301", 1, 1);
    }

    static void p42Nones() {
        DeadUnderstudies x = told("001");
        Checks.noneBeyond("what", what -> x.least(what), 0, 1);
    }

    // "at one more CUE behind a ROW": where a DEED tells to which STATE it leads.
    static void p43BehindTheRow() {
        would("003 004 003", 0, 0, 1 << 4);
        would("003 004 103", 1, 0, 1 << 4);
        would("003 103 104", 0, 0, 1 << 4);
        would("303 203 204", 3, 0, 1 << 4);
        would("000 009 000 009", 0, 0, 1);
        would("009 000 009 000", 0, 0, 1 << 9);
        would("001 002 003 001 002", 0, 0, 1 << 3);
    }

    // An empty ROW is at STATE 0, also where there are no DEEDS at all.
    static void p43EmptyRow() {
        would("003 004", 1, 0, 1 << 3);
        would("003 004", 3, 0, 1 << 3);
        would("303 304", 0, 0, 1 << 3);
        would("003 004", 1, 1, 1023);
        would("", 0, 0, 1023);
        would("", 3, 5, 1023);
    }

    // "(at a RULE that no DEED meets: all ten ..)"
    static void p43RuleThatNoDeedMeets() {
        would("003 004 003", 0, 1, 1023);
        would("003 004 003", 0, 5, 1023);
        would("003 014 003 014 003", 0, 1, 1 << 4);
    }

    // "(.. where no DEED tells to which STATE the ROW leads in the end: of any of the STATES)"
    static void p43OfAnyOfTheStates() {
        would("003", 0, 0, 1 << 3);
        would("003 004", 0, 0, 1 << 3 | 1 << 4);
        would("001 002 003", 0, 0, 1 << 1 | 1 << 2 | 1 << 3);
        would("001 002 003", 0, 1, 1023);
        would("001 012 002 113", 1, 1, 1 << 2 | 1 << 3);
    }

    // "such SCRIPTS of the fewest STATES": of all ways, but not of those with more STATES.
    static void p43OfTheFewestStates() {
        // One STATE does: then he says 3 again, though with two he could say anything.
        would("003 003", 0, 0, 1 << 3);
        // CUE 1 at STATE 0 or 1; ROW 1 begins at STATE 0.
        would("001 010 002", 1, 1, 1023);
        would("001 010 002", 1, 0, 1 << 1);
        would("001 010 002", 0, 0, 1 << 1 | 1 << 2);
    }

    // "NONE (not by 3, too)"
    static void p43NotByThree() {
        would("001 002 003 004", 0, 0, -1);
        would("001 002 003 004", 3, 5, -1);
        would("001 102", 0, 0, -1);
    }

    // What was asked ahead is no matter.
    static void p43AskedOneBehindAnother() {
        DeadUnderstudies x = new DeadUnderstudies();
        for (int i = 0; i < 3; i++) {
            tell(x, "003 004 003");
            due("a RULE of no DEED", x.would(0, 1), 1023);
            due("STATES", x.least(0), 2);
            due("ways", x.least(1), 1);
            due("a RULE of a DEED", x.would(0, 0), 1 << 4);
            tell(x, "001 002 003 004");
            due("not by 3", x.would(0, 0), -1);
            due("ways", x.least(1), 0);
            tell(x, "");
            due("no DEEDS", x.least(1) * 10 + x.least(0), 11);
        }
    }

    static void p43Nones() {
        DeadUnderstudies x = told("001");
        Checks.noneBeyond("ROW", row -> x.would(row, 0), 0, 3);
        Checks.noneBeyond("CUE", cue -> x.would(0, cue), 0, 5);
    }
}
