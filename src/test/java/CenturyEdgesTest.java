/** Promises 44 and 45 at their edges, a method for each sentence: CENTURIES. */
public final class CenturyEdgesTest {
    public static void main(String[] args) {
        Checks.sentences(CenturyEdgesTest.class);
    }

    private static void due(String call, long got, long want) {
        Checks.due(call, got, want);
    }

    private static long draw(long s) {
        return (s * 1103 + 12345) % 1000003;
    }

    /** A CENTURY on paper: what it answers and what is drawn, of a SCRIPT with so many RULES, from the first on. */
    private static void century(int seed, int lessons, int people, int rules, int slip) {
        DeadUnderstudies x = CenturyTest.town(people);
        for (int i = 0; i < rules; i++) x.rule(1, i / 6, i % 6, i % 10, i % 6);
        x.terms(2, slip);
        int[] pupils = new int[8];
        int[] more = new int[36];
        long s = seed;
        for (int lesson = 0; lesson < lessons; lesson++) {
            s = draw(s);
            pupils[(int) (s % people)]++;
            for (int i = 0; i < rules; i++) {
                s = draw(s);
                if (s % 100 < slip) more[i]++;
            }
        }
        int otherwise = 0;
        for (int i = 0; i < rules; i++) if (more[i] % 10 != 0) otherwise++;
        String call = "century of " + seed + ", " + lessons + ", " + people + ", " + rules + ", " + slip;
        Checks.taken(x, call, x.century(seed, 1, lessons), otherwise);
        for (int p = 0; p < 8; p++) due("pupil " + p + " in " + call, x.drawn(p, 0, 1), p < people ? pupils[p] : -1);
        for (int i = 0; i < 36; i++) {
            due("WORD " + i + " in " + call, x.drawn(i / 6, i % 6, 0), i < rules ? (i % 10 + more[i]) % 10 : -1);
        }
    }

    // "SEED (0 .. 1,000,000)"
    static void p44Seed() {
        DeadUnderstudies x = CenturyTest.town(1);
        Checks.range(x, "SEED", seed -> x.century(seed, 0, 1), 0, 1000000);
        century(0, 3, 3, 10, 50);
        century(1000000, 3, 3, 10, 50);
    }

    // "n lessons 0 .. 100"
    static void p44Lessons() {
        DeadUnderstudies x = CenturyTest.town(1);
        Checks.range(x, "n", n -> x.century(0, 0, n), 0, 100);
        due("100 lessons", x.drawn(0, 0, 1), 100);
        century(77, 0, 2, 36, 100);
        century(77, 100, 8, 36, 33);
    }

    static void p44NoSuchPart() {
        DeadUnderstudies x = CenturyTest.town(1);
        Checks.taken(x, "the last PART", x.century(0, 1, 0), 0);
        for (int part : new int[] {-1, 2, 6, Integer.MIN_VALUE, Integer.MAX_VALUE}) {
            Checks.refused(x, "PART " + part, i -> x.century(0, part, 0), -2);
            Checks.refused(x, "SEED -1 ahead", i -> x.century(-1, part, 0), -1);
            Checks.refused(x, "SEED 1,000,001 ahead", i -> x.century(1000001, part, 0), -1);
            Checks.refused(x, "n 101 ahead", i -> x.century(0, part, 101), -1);
            Checks.refused(x, "n -1 ahead", i -> x.century(0, part, -1), -1);
        }
    }

    // "s becomes (s times 1103 and 12345) modulo 1,000,003, it is s modulo m": one RULE, one lesson, all near SEEDS.
    static void p44Draw() {
        for (int seed = 0; seed < 40; seed++) {
            century(seed, 1, 7, 1, 50);
            century(1000000 - seed, 1, 7, 1, 50);
        }
    }

    // "below what the pupil SLIPS": from SEED 5 the first RULE's DRAW is 68 (of 100), the second one's 94.
    static void p44Below() {
        int[] slips = {68, 69, 94, 95};
        int[] otherwise = {0, 1, 1, 2};
        for (int i = 0; i < 4; i++) {
            DeadUnderstudies x = CenturyTest.town(4);
            x.rule(0, 0, 0, 3, 0);
            x.rule(0, 5, 5, 3, 0);
            x.terms(2, slips[i]);
            due("SLIP " + slips[i], x.century(5, 0, 1), otherwise[i]);
            century(5, 1, 4, 2, slips[i]);
        }
    }

    // SLIP 0: never; SLIP 100: always, and "one more (0 behind 9)".
    static void p44NeverAndAlways() {
        century(123, 100, 3, 36, 0);
        century(123, 1, 3, 36, 100);
        century(123, 9, 3, 36, 100);
        century(123, 10, 3, 36, 100);
        DeadUnderstudies x = CenturyTest.town(3);
        x.rule(0, 5, 5, 9, 4);
        x.terms(2, 100);
        due("one", x.century(123, 0, 1), 1);
        due("0 behind 9", x.drawn(5, 5, 0), 0);
        due("ten are none", x.century(123, 0, 10), 0);
    }

    // "RULE by RULE that is no HOLE": a HOLE takes no DRAW.
    static void p44HolesTakeNoDraw() {
        DeadUnderstudies x = CenturyTest.town(4);
        x.rule(0, 2, 2, 1, 0);
        x.rule(0, 4, 0, 1, 0);
        x.terms(2, 69);
        due("the first DRAW is below, the second is not", x.century(5, 0, 1), 1);
        due("the first RULE", x.drawn(2, 2, 0), 2);
        due("the second RULE", x.drawn(4, 0, 0), 1);
    }

    // "a DRAW of PEOPLE: the pupil (without: none)"
    static void p44WithoutPeople() {
        DeadUnderstudies x = CenturyTest.town(0);
        x.rule(0, 0, 0, 4, 0);
        x.terms(2, 100);
        Checks.taken(x, "century", x.century(5, 0, 100), 0);
        due("the WORD", x.drawn(0, 0, 0), 4);
        due("nobody", x.drawn(0, 0, 1), -1);
    }

    // "what the pupil SLIPS (YEAR as told, no teacher)": whoever is ALIVE, BARRED or not.
    static void p44WhatThePupilSlips() {
        DeadUnderstudies x = CenturyTest.town(2);
        Checks.play(x, 1, "in any at any say 0");
        x.terms(0, 7);
        x.force(Checks.law(x, "slips 0;slips 100 if year = 7 and teacher = 0-1 and part = 1 and person = 1;bars"));
        due("century", x.century(9, 1, 5), x.drawn(1, 0, 1) == 0 ? 0 : 36);
        due("as often as PERSON 1 was the pupil", x.drawn(3, 3, 0), x.drawn(1, 0, 1));
        due("all lessons", x.drawn(0, 0, 1) + x.drawn(1, 0, 1), 5);
        x.terms(0, 8);
        due("another YEAR", x.century(9, 1, 5), 0);
    }

    // "how many WORDS are otherwise in the end"; "on paper": the PART stays.
    static void p44OnPaper() {
        DeadUnderstudies x = CenturyTest.town(1);
        Checks.play(x, 0, "in any at any say 3 go 2");
        x.terms(2, 100);
        due("all", x.century(0, 0, 1), 36);
        for (int i = 0; i < 36; i++) due("RULE " + i, x.of(0, i / 6, i % 6, 0) * 10 + x.of(0, i / 6, i % 6, 1), 32);
        due("from the PART anew", x.century(0, 0, 1), 36);
        due("one more", x.drawn(0, 0, 0), 4);
        due("an empty PART", x.century(0, 1, 100), 0);
    }

    // "NONE" ahead of any CENTURY; one that was REFUSED is none.
    static void p45AheadOfAny() {
        DeadUnderstudies x = CenturyTest.town(1);
        x.century(-1, 0, 0);
        x.century(0, 2, 0);
        due("WORD", x.drawn(0, 0, 0), -1);
        due("pupil", x.drawn(0, 0, 1), -1);
    }

    // "the latest CENTURY"; "IMAGES keep all but .. the latest CENTURY".
    static void p45Latest() {
        DeadUnderstudies x = CenturyTest.town(1);
        x.rule(0, 0, 0, 3, 0);
        x.rule(1, 0, 0, 7, 0);
        x.image(0);
        x.century(0, 0, 2);
        x.century(0, 1, 1);
        x.century(0, 2, 5);
        x.century(0, 0, 101);
        due("pupil", x.drawn(0, 0, 1), 1);
        due("WORD", x.drawn(0, 0, 0) / 7, 1);
        x.back(0);
        due("pupil behind BACK", x.drawn(0, 0, 1), 1);
        due("WORD behind BACK", x.drawn(0, 0, 0) / 7, 1);
    }

    // "the PERSON" of the CENTURY is told behind BACK, too.
    static void p45PeopleBehindBack() {
        DeadUnderstudies x = CenturyTest.town(1);
        x.image(0);
        for (int i = 1; i < 8; i++) x.person(0, 9, 1);
        x.century(11, 0, 100);
        int all = 0;
        for (int p = 0; p < 8; p++) all += x.drawn(p, 0, 1);
        x.back(0);
        int behind = 0;
        for (int p = 0; p < 8; p++) behind += x.drawn(p, 0, 1);
        due("all lessons", all, 100);
        due("all lessons behind BACK", behind, 100);
        due("PERSON 8", x.drawn(8, 0, 1), -1);
    }

    static void p45Nones() {
        DeadUnderstudies x = CenturyTest.town(2);
        Checks.play(x, 0, "in any at any say 3");
        x.century(0, 0, 1);
        Checks.noneBeyond("STATE", state -> x.drawn(state, 0, 0), 0, 5);
        Checks.noneBeyond("CUE", cue -> x.drawn(0, cue, 0), 0, 5);
        Checks.noneBeyond("PERSON", person -> x.drawn(person, 0, 1), 0, 1);
        Checks.noneBeyond("CUE of a PERSON", cue -> x.drawn(0, cue, 1), 0, 0);
        Checks.noneBeyond("what", what -> x.drawn(0, 0, what), 0, 1);
        x.hush(0, 5, 5);
        x.century(0, 0, 1);
        due("a HOLE", x.drawn(5, 5, 0), -1);
    }
}
