/** Promises 1 to 6 at their edges, a method for each sentence: a new object, PARTS and their RULES. */
public final class PartsEdgesTest {
    private static final int[] NO_PARTS = {-1, 2, 5, 6, Integer.MIN_VALUE, Integer.MAX_VALUE};

    public static void main(String[] args) {
        Checks.sentences(PartsEdgesTest.class);
    }

    private static void due(String call, long got, long want) {
        Checks.due(call, got, want);
    }

    /** Two PARTS; in the second a RULE. */
    private static DeadUnderstudies town() {
        DeadUnderstudies x = new DeadUnderstudies();
        x.part(0, 24);
        x.part(3, 4);
        x.rule(1, 2, 3, 7, 4);
        return x;
    }

    // "No PARTS, PEOPLE."
    static void p1NoParts() {
        DeadUnderstudies x = new DeadUnderstudies();
        due("count(0)", x.count(0), 0);
        due("stage(0, 0)", x.stage(0, 0), -1);
        Checks.refused(x, "rule of PART 0", i -> x.rule(0, 0, 0, 0, 0), -2);
    }

    static void p1NoPeople() {
        DeadUnderstudies x = new DeadUnderstudies();
        due("count(1)", x.count(1), 0);
        due("fact(0, 0)", x.fact(0, 0), -1);
        Checks.refused(x, "put of PERSON 0", i -> x.put(0, 1, 1), -2);
    }

    static void p1NothingElseAtFirst() {
        DeadUnderstudies x = new DeadUnderstudies();
        for (int what = 2; what <= 11; what++) due("count " + what, x.count(what), 0);
        due("prattle", x.prattle(), 0);
        due("fault", x.fault(), -1);
        due("status", x.status(), 0);
        due("drawn", x.drawn(0, 0, 0), -1);
        due("judge", x.judge(0), -1);
        due("stops", x.stops(0), -1);
    }

    // "PARTS 0 .. 5 (6 at most)", "its number", "-5".
    static void p2SixPartsAtMost() {
        DeadUnderstudies x = new DeadUnderstudies();
        for (int i = 0; i < 6; i++) Checks.taken(x, "part " + i, x.part(i, 24), i);
        for (int i = 0; i < 2; i++) Checks.refused(x, "a seventh", k -> x.part(0, 24), -5);
        due("count(0)", x.count(0), 6);
        due("FROM of the sixth", x.stage(5, 0), 5);
        due("no seventh", x.stage(6, 0), -1);
    }

    // "FROM an hour 0 .. 23".
    static void p2FromAnHour() {
        DeadUnderstudies x = new DeadUnderstudies();
        Checks.taken(x, "from 0", x.part(0, 24), 0);
        Checks.taken(x, "from 23", x.part(23, 24), 1);
        Checks.tooFar(x, "from", from -> x.part(from, 24), 0, 23);
        Checks.refused(x, "from 24 till 25", i -> x.part(24, 25), -1);
        due("none came of it", x.count(0), 2);
    }

    // "TILL another one (above it, to 24)".
    static void p2TillAboveFrom() {
        DeadUnderstudies x = new DeadUnderstudies();
        Checks.taken(x, "7 till 8", x.part(7, 8), 0);
        Checks.taken(x, "0 till 1", x.part(0, 1), 1);
        Checks.refused(x, "7 till 7", i -> x.part(7, 7), -1);
        Checks.refused(x, "7 till 6", i -> x.part(7, 6), -1);
        Checks.refused(x, "0 till 0", i -> x.part(0, 0), -1);
        Checks.refused(x, "0 till -1", i -> x.part(0, -1), -1);
        due("none came of it", x.count(0), 2);
    }

    static void p2TillAtMost24() {
        DeadUnderstudies x = new DeadUnderstudies();
        Checks.taken(x, "till 24", x.part(0, 24), 0);
        Checks.tooFar(x, "till", till -> x.part(0, till), 1, 24);
        due("none came of it", x.count(0), 1);
    }

    // "The first of these in that order": -1 ahead of -5.
    static void p2BadHoursAheadOfNoRoom() {
        DeadUnderstudies x = new DeadUnderstudies();
        for (int i = 0; i < 6; i++) x.part(0, 24);
        Checks.refused(x, "from -1", i -> x.part(-1, 5), -1);
        Checks.refused(x, "from 24", i -> x.part(24, 25), -1);
        Checks.refused(x, "till as from", i -> x.part(5, 5), -1);
        Checks.refused(x, "till 25", i -> x.part(5, 25), -1);
    }

    // "a SCRIPT (all HOLES at first)".
    static void p2AllHolesAtFirst() {
        DeadUnderstudies x = new DeadUnderstudies();
        x.image(0);
        x.part(0, 24);
        for (int i = 0; i < 36; i++) x.rule(0, i / 6, i % 6, 9, 5);
        x.back(0);
        x.part(0, 24);
        x.part(0, 24);
        for (int part = 0; part < 2; part++) {
            for (int i = 0; i < 72; i++) due("of", x.of(part, i / 12, i / 2 % 6, i % 2), -1);
            due("no RULE", x.stage(part, 2), 0);
        }
    }

    // "in a STATE 0 .. 5, at a CUE 0 .. 5 a WORD 0 .. 9 is said and one goes to a STATE".
    static void p3RangesOfNumbers() {
        DeadUnderstudies x = town();
        Checks.range(x, "STATE", n -> x.rule(0, n, 0, 0, 0), 0, 5);
        Checks.range(x, "CUE", n -> x.rule(0, 0, n, 0, 0), 0, 5);
        Checks.range(x, "WORD", n -> x.rule(0, 0, 0, n, 0), 0, 9);
        Checks.range(x, "next STATE", n -> x.rule(0, 0, 0, 0, n), 0, 5);
    }

    // "A SCRIPT has 36 RULES".
    static void p3ThirtySixRules() {
        DeadUnderstudies x = town();
        for (int i = 0; i < 36; i++) {
            Checks.taken(x, "rule " + i, x.rule(0, i / 6, i % 6, i * 7 % 10, i * 5 % 6), -1);
            due("RULES", x.stage(0, 2), i + 1);
        }
        for (int i = 0; i < 36; i++) {
            due("WORD of " + i, x.of(0, i / 6, i % 6, 0), i * 7 % 10);
            due("next STATE of " + i, x.of(0, i / 6, i % 6, 1), i * 5 % 6);
        }
        due("the other PART", x.stage(1, 2), 1);
    }

    // "the WORD it had (NONE as it is: a HOLE)".
    static void p3TheWordItHad() {
        DeadUnderstudies x = town();
        Checks.taken(x, "of a HOLE", x.rule(0, 5, 5, 0, 5), -1);
        Checks.taken(x, "of a WORD 0", x.rule(0, 5, 5, 9, 0), 0);
        Checks.taken(x, "of a WORD 9", x.rule(0, 5, 5, 0, 0), 9);
    }

    static void p3NoSuchPart() {
        DeadUnderstudies x = town();
        Checks.taken(x, "the last PART", x.rule(1, 0, 0, 0, 0), -1);
        for (int part : NO_PARTS) Checks.refused(x, "PART " + part, i -> x.rule(part, 0, 0, 0, 0), -2);
    }

    static void p3BadNumberAheadOfNoPart() {
        DeadUnderstudies x = town();
        Checks.refused(x, "STATE 6", i -> x.rule(2, 6, 0, 0, 0), -1);
        Checks.refused(x, "CUE 6", i -> x.rule(2, 0, 6, 0, 0), -1);
        Checks.refused(x, "WORD 10", i -> x.rule(2, 0, 0, 10, 0), -1);
        Checks.refused(x, "WORD -1", i -> x.rule(-1, 0, 0, -1, 0), -1);
        Checks.refused(x, "next STATE 6", i -> x.rule(2, 0, 0, 0, 6), -1);
    }

    static void p3RefusedChangesNothing() {
        DeadUnderstudies x = town();
        x.rule(1, 2, 3, 10, 0);
        x.rule(1, 2, 3, 0, 6);
        x.rule(1, 2, 3, -1, 0);
        x.rule(2, 2, 3, 0, 0);
        due("WORD, next STATE", x.of(1, 2, 3, 0) * 10 + x.of(1, 2, 3, 1), 74);
        due("RULES", x.stage(0, 2) * 10 + x.stage(1, 2), 1);
    }

    static void p4RangesOfNumbers() {
        DeadUnderstudies x = town();
        Checks.range(x, "STATE", n -> x.hush(0, n, 0), 0, 5);
        Checks.range(x, "CUE", n -> x.hush(0, 0, n), 0, 5);
    }

    // "becomes a HOLE: the WORD it had (NONE: it was one)".
    static void p4TheWordItHad() {
        DeadUnderstudies x = town();
        x.rule(0, 5, 0, 0, 0);
        x.rule(0, 0, 5, 9, 5);
        Checks.taken(x, "of a WORD 0", x.hush(0, 5, 0), 0);
        Checks.taken(x, "of a WORD 9", x.hush(0, 0, 5), 9);
        Checks.taken(x, "of a HOLE", x.hush(0, 0, 5), -1);
        due("no RULES", x.stage(0, 2), 0);
        due("no next STATE", x.of(0, 0, 5, 1), -1);
        due("the other PART", x.of(1, 2, 3, 0), 7);
    }

    static void p4NoSuchPart() {
        DeadUnderstudies x = town();
        Checks.taken(x, "the last PART", x.hush(1, 2, 3), 7);
        for (int part : NO_PARTS) Checks.refused(x, "PART " + part, i -> x.hush(part, 0, 0), -2);
    }

    static void p4BadNumberAheadOfNoPart() {
        DeadUnderstudies x = town();
        Checks.refused(x, "STATE 6", i -> x.hush(2, 6, 0), -1);
        Checks.refused(x, "STATE -1", i -> x.hush(2, -1, 0), -1);
        Checks.refused(x, "CUE 6", i -> x.hush(2, 0, 6), -1);
        Checks.refused(x, "CUE -1", i -> x.hush(2, 0, -1), -1);
    }

    static void p4RefusedChangesNothing() {
        DeadUnderstudies x = town();
        x.hush(1, 2, 6);
        x.hush(2, 2, 3);
        x.hush(-1, 2, 3);
        due("WORD", x.of(1, 2, 3, 0), 7);
    }

    // "the WORD (what 0), the next STATE (1). NONE".
    static void p5WhatItTells() {
        DeadUnderstudies x = town();
        due("WORD", x.of(1, 2, 3, 0), 7);
        due("next STATE", x.of(1, 2, 3, 1), 4);
        Checks.noneBeyond("what", what -> x.of(1, 2, 3, what), 0, 1);
    }

    static void p5NoneOfNoRule() {
        DeadUnderstudies x = town();
        for (int i = 0; i < 72; i++) x.rule(i / 36, i / 6 % 6, i % 6, 8, 3);
        Checks.noneBeyond("STATE", state -> x.of(1, state, 0, 0), 0, 5);
        Checks.noneBeyond("CUE", cue -> x.of(1, 0, cue, 1), 0, 5);
        for (int part : NO_PARTS) due("PART " + part, x.of(part, 0, 0, 0), -1);
    }

    // "NONE (a HOLE, too)".
    static void p5NoneOfAHole() {
        DeadUnderstudies x = town();
        due("WORD of a HOLE", x.of(1, 3, 2, 0), -1);
        due("next STATE of a HOLE", x.of(1, 3, 2, 1), -1);
    }

    static void p6WhatItTells() {
        DeadUnderstudies x = town();
        due("FROM", x.stage(1, 0), 3);
        due("TILL", x.stage(1, 1), 4);
        due("RULES", x.stage(1, 2), 1);
        due("VERSIONS", x.stage(1, 3), 0);
        Checks.noneBeyond("what", what -> x.stage(1, what), 0, 3);
    }

    static void p6NoneOfNoPart() {
        DeadUnderstudies x = town();
        Checks.noneBeyond("PART", part -> x.stage(part, 1), 0, 1);
        due("PART 6", x.stage(6, 0), -1);
    }

    // "how many of its RULES are no HOLES (2)": none, one less by hush(), all.
    static void p6RulesThatAreNoHoles() {
        DeadUnderstudies x = town();
        due("none", x.stage(0, 2), 0);
        for (int i = 0; i < 36; i++) x.rule(0, i / 6, i % 6, 0, 0);
        due("all", x.stage(0, 2), 36);
        x.hush(0, 5, 5);
        due("one less", x.stage(0, 2), 35);
        x.rule(0, 0, 0, 1, 1);
        due("one of them anew", x.stage(0, 2), 35);
    }

    // "how many VERSIONS it has (3)": none, all twelve.
    static void p6VersionsItHas() {
        DeadUnderstudies x = town();
        x.person(0, 9, 1);
        x.person(0, 1, 1);
        for (int i = 0; i < 11; i++) x.begin(1, 0);
        x.begin(0, 1);
        x.terms(0, 200);
        due("eleven, whoever is ALIVE", x.stage(1, 3), 11);
        due("one", x.stage(0, 3), 1);
        x.undo();
        due("none", x.stage(0, 3), 0);
    }
}
