/** Promises 7 to 10 at their edges, a method for each sentence: PEOPLE and TERMS. */
public final class PeopleEdgesTest {
    private static final int[] NO_PEOPLE = {-1, 2, 7, 8, Integer.MIN_VALUE, Integer.MAX_VALUE};

    public static void main(String[] args) {
        Checks.sentences(PeopleEdgesTest.class);
    }

    private static void due(String call, long got, long want) {
        Checks.due(call, got, want);
    }

    private static DeadUnderstudies town() {
        DeadUnderstudies x = new DeadUnderstudies();
        x.person(0, 300, 9);
        x.person(10, 60, 4);
        return x;
    }

    private static void facts(DeadUnderstudies x, int person, int born, int dead, int memory) {
        due("BORN of " + person, x.fact(person, 0), born);
        due("DEAD of " + person, x.fact(person, 1), dead);
        due("MEMORY of " + person, x.fact(person, 2), memory);
    }

    // "PEOPLE 0 .. 7 (8 at most)", "the number", "-5".
    static void p7EightPeopleAtMost() {
        DeadUnderstudies x = new DeadUnderstudies();
        for (int i = 0; i < 8; i++) Checks.taken(x, "person " + i, x.person(i, i + 100, i + 1), i);
        for (int i = 0; i < 2; i++) Checks.refused(x, "a ninth", k -> x.person(0, 1, 1), -5);
        due("count(1)", x.count(1), 8);
        facts(x, 7, 7, 107, 8);
        due("no ninth", x.fact(8, 0), -1);
    }

    // "BORN 0 .. 200".
    static void p7Born() {
        DeadUnderstudies x = new DeadUnderstudies();
        Checks.range(x, "BORN", born -> x.person(born, 300, 5), 0, 200);
        due("two came", x.count(1), 2);
        facts(x, 1, 200, 300, 5);
    }

    // "DEAD from a YEAR on (above that, ..".
    static void p7DeadAboveBorn() {
        DeadUnderstudies x = new DeadUnderstudies();
        Checks.taken(x, "0 till 1", x.person(0, 1, 5), 0);
        Checks.taken(x, "200 till 201", x.person(200, 201, 5), 1);
        Checks.refused(x, "0 till 0", i -> x.person(0, 0, 5), -1);
        Checks.refused(x, "200 till 200", i -> x.person(200, 200, 5), -1);
        Checks.refused(x, "200 till 199", i -> x.person(200, 199, 5), -1);
        due("two came", x.count(1), 2);
    }

    // ".. to 300)".
    static void p7DeadAtMost300() {
        DeadUnderstudies x = new DeadUnderstudies();
        Checks.range(x, "DEAD", dead -> x.person(0, dead, 5), 1, 300);
        due("two came", x.count(1), 2);
    }

    // "MEMORY 1 .. 9".
    static void p7Memory() {
        DeadUnderstudies x = new DeadUnderstudies();
        Checks.range(x, "MEMORY", memory -> x.person(0, 1, memory), 1, 9);
        due("two came", x.count(1), 2);
    }

    static void p7BadNumberAheadOfNoRoom() {
        DeadUnderstudies x = new DeadUnderstudies();
        for (int i = 0; i < 8; i++) x.person(0, 1, 1);
        Checks.refused(x, "BORN 201", i -> x.person(201, 300, 1), -1);
        Checks.refused(x, "BORN -1", i -> x.person(-1, 300, 1), -1);
        Checks.refused(x, "DEAD as BORN", i -> x.person(5, 5, 1), -1);
        Checks.refused(x, "DEAD 301", i -> x.person(5, 301, 1), -1);
        Checks.refused(x, "MEMORY 0", i -> x.person(5, 6, 0), -1);
        Checks.refused(x, "MEMORY 10", i -> x.person(5, 6, 10), -1);
    }

    // "DEAD (what 0) of a PERSON: what it was".
    static void p8Dead() {
        DeadUnderstudies x = town();
        Checks.taken(x, "the YEAR behind BORN", x.put(1, 0, 11), 60);
        Checks.taken(x, "300", x.put(1, 0, 300), 11);
        Checks.taken(x, "1", x.put(0, 0, 1), 300);
        facts(x, 1, 10, 300, 4);
        facts(x, 0, 0, 1, 9);
    }

    // "-1 (DEAD not above BORN ..)", "to 300".
    static void p8DeadThatCantBe() {
        DeadUnderstudies x = town();
        Checks.refused(x, "DEAD as BORN", i -> x.put(1, 0, 10), -1);
        Checks.refused(x, "DEAD below BORN", i -> x.put(1, 0, 9), -1);
        Checks.refused(x, "DEAD 0", i -> x.put(0, 0, 0), -1);
        Checks.tooFar(x, "DEAD", dead -> x.put(1, 0, dead), 0, 300);
        facts(x, 1, 10, 60, 4);
    }

    // "(DEAD not above BORN: behind -2)": a YEAR 0 .. 300 waits behind -2, another number does not.
    static void p8DeadBehindNoPerson() {
        DeadUnderstudies x = town();
        Checks.refused(x, "DEAD 0", i -> x.put(2, 0, 0), -2);
        Checks.refused(x, "DEAD 10", i -> x.put(2, 0, 10), -2);
        Checks.refused(x, "DEAD 300", i -> x.put(2, 0, 300), -2);
        Checks.refused(x, "DEAD -1", i -> x.put(2, 0, -1), -1);
        Checks.refused(x, "DEAD 301", i -> x.put(2, 0, 301), -1);
    }

    // "MEMORY (1) of a PERSON: what it was".
    static void p8Memory() {
        DeadUnderstudies x = town();
        Checks.taken(x, "1", x.put(1, 1, 1), 4);
        Checks.taken(x, "9", x.put(1, 1, 9), 1);
        Checks.tooFar(x, "MEMORY", memory -> x.put(1, 1, memory), 1, 9);
        facts(x, 1, 10, 60, 9);
    }

    static void p8MemoryAheadOfNoPerson() {
        DeadUnderstudies x = town();
        Checks.refused(x, "MEMORY 0", i -> x.put(2, 1, 0), -1);
        Checks.refused(x, "MEMORY 10", i -> x.put(2, 1, 10), -1);
        Checks.refused(x, "MEMORY 9", i -> x.put(2, 1, 9), -2);
        Checks.refused(x, "MEMORY 1", i -> x.put(2, 1, 1), -2);
    }

    static void p8WhatThatCantBe() {
        DeadUnderstudies x = town();
        Checks.tooFar(x, "what", what -> x.put(1, what, 5), 0, 1);
        Checks.refused(x, "what 2 ahead of -2", i -> x.put(2, 2, 5), -1);
        facts(x, 1, 10, 60, 4);
    }

    static void p8NoSuchPerson() {
        DeadUnderstudies x = town();
        for (int person : NO_PEOPLE) Checks.refused(x, "PERSON " + person, i -> x.put(person, 1, 5), -2);
        facts(x, 0, 0, 300, 9);
        facts(x, 1, 10, 60, 4);
    }

    static void p9WhatItTells() {
        DeadUnderstudies x = town();
        facts(x, 1, 10, 60, 4);
        due("not ALIVE is 0", x.fact(1, 3), 0);
        Checks.noneBeyond("what", what -> x.fact(1, what), 0, 3);
    }

    static void p9NoneOfNoPerson() {
        DeadUnderstudies x = town();
        Checks.noneBeyond("PERSON", person -> x.fact(person, 2), 0, 1);
        due("PERSON 8", x.fact(8, 2), -1);
    }

    // "ALIVE: from BORN on till DEAD."
    static void p9Alive() {
        DeadUnderstudies x = town();
        int[][] alive = {{9, 0}, {10, 1}, {59, 1}, {60, 0}};
        for (int[] a : alive) {
            x.terms(0, a[0]);
            due("ALIVE in " + a[0], x.fact(1, 3), a[1]);
        }
        x.terms(0, 0);
        due("ALIVE in 0", x.fact(0, 3), 1);
        x.terms(0, 299);
        due("ALIVE in 299", x.fact(0, 3), 1);
        x.terms(0, 300);
        due("ALIVE in 300", x.fact(0, 3), 0);
    }

    static void p9AliveByNewDead() {
        DeadUnderstudies x = town();
        x.terms(0, 60);
        x.put(1, 0, 61);
        due("DEAD from the next YEAR on", x.fact(1, 3), 1);
        x.put(1, 0, 60);
        due("DEAD from YEAR on", x.fact(1, 3), 0);
    }

    // "0 YEAR 0 .. 300 (0 at first)".
    static void p10Year() {
        term(0, 0, 300);
    }

    // "1 MOOD 0 .. 9 (0)".
    static void p10Mood() {
        term(1, 0, 9);
    }

    // "2 SLIP 0 .. 100 (10)".
    static void p10Slip() {
        term(2, 10, 100);
    }

    private static void term(int what, int first, int most) {
        DeadUnderstudies x = new DeadUnderstudies();
        due("count at first", x.count(13 + what), first);
        Checks.taken(x, "the most", x.terms(what, most), first);
        Checks.tooFar(x, "value", value -> x.terms(what, value), 0, most);
        due("none came of it", x.count(13 + what), most);
        Checks.taken(x, "0", x.terms(what, 0), most);
        due("count", x.count(13 + what), 0);
        int[] others = {0, 0, 10};
        for (int i = 0; i < 3; i++) if (i != what) due("the other TERM " + i, x.count(13 + i), others[i]);
    }

    static void p10WhatThatCantBe() {
        DeadUnderstudies x = new DeadUnderstudies();
        Checks.range(x, "what", what -> x.terms(what, 0), 0, 2);
    }
}
