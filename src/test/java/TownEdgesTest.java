/** Promises 37 and 38 at their edges, a method for each sentence: CHAINS of pupils and CASTS. */
public final class TownEdgesTest {
    public static void main(String[] args) {
        Checks.sentences(TownEdgesTest.class);
    }

    private static void due(String call, long got, long want) {
        Checks.due(call, got, want);
    }

    /** A PART, and PEOPLE by pairs of BORN and DEAD. */
    private static DeadUnderstudies people(int... years) {
        DeadUnderstudies x = new DeadUnderstudies();
        x.part(0, 24);
        for (int i = 0; i < years.length; i += 2) x.person(years[i], years[i + 1], 1 + i / 2);
        return x;
    }

    private static void chain(DeadUnderstudies x, int year, int needless, int... row) {
        due("YEAR", x.chain(0, row[0], 0), year);
        due("how many", x.chain(0, row[0], 1), row.length);
        for (int i = 0; i < 8; i++) due("PERSON " + i, x.chain(0, row[0], 2 + i), i < row.length ? row[i] : -1);
        due("NEEDLESS", x.chain(0, row[0], 20), needless);
    }

    // "the latest YEAR (what 0: the YEAR ahead of DEAD)"
    static void p37YearAheadOfDead() {
        chain(people(0, 1), 0, 0, 0);
        chain(people(0, 300), 299, 0, 0);
        chain(people(200, 201), 200, 0, 0);
    }

    // "at least one such YEAR": the last YEAR of one is the first of the next; or DEAD is BORN, and there is none.
    static void p37OneYearInCommon() {
        chain(people(0, 50, 49, 100), 99, 0, 0, 1);
        chain(people(0, 50, 50, 100), 49, 2, 0);
        chain(people(49, 100, 0, 50), 99, 2, 0);
        DeadUnderstudies x = people(0, 50, 50, 100);
        x.force(Checks.law(x, "hours 0"));
        chain(x, 49, 2, 0);
    }

    // "YEARS ENOUGH"
    static void p37YearsEnough() {
        DeadUnderstudies x = people(0, 50, 40, 100);
        x.force(Checks.law(x, "hours 10"));
        chain(x, 99, 0, 0, 1);
        x.force(Checks.law(x, "hours 11"));
        chain(x, 49, 2, 0);
        x.put(0, 0, 51);
        chain(x, 99, 0, 0, 1);
    }

    // "(both asked in the first YEAR in which both are ALIVE, with that teacher ..)"
    static void p37AskedInTheFirstYear() {
        DeadUnderstudies x = people(0, 50, 40, 100);
        x.terms(0, 300);
        x.force(Checks.law(x, "bars if year = 40 and teacher = 0 and person = 1 and part = 0"));
        chain(x, 49, 2, 0);
        x.force(Checks.law(x, "bars if year < 40 or year > 40 or teacher < 0 or person = 0 or teacher = 1"));
        chain(x, 99, 0, 0, 1);
        x.force(Checks.law(x, "hours 11;hours 10 if year = 40 and teacher = 0 and person = 1 and part = 0"));
        chain(x, 99, 0, 0, 1);
        DeadUnderstudies y = people(40, 50, 0, 100);
        y.force(Checks.law(y, "bars if year = 40"));
        chain(y, 49, 2, 0);
    }

    // "nobody twice", "of alike ones the fewest PEOPLE"
    static void p37FewestPeople() {
        chain(people(0, 100, 50, 100, 50, 100), 99, 6, 0);
        chain(people(0, 60, 50, 90, 80, 120, 55, 120), 119, 14, 0, 3);
        chain(people(0, 60, 50, 90, 80, 121, 55, 120), 120, 10, 0, 1, 2);
    }

    // "then the first row"
    static void p37FirstRow() {
        chain(people(0, 60, 50, 120, 50, 120), 119, 6, 0, 1);
        chain(people(100, 150, 50, 110, 50, 110, 0, 60), 149, 6, 3, 1, 0);
        chain(people(0, 60, 80, 120, 50, 90, 80, 120, 50, 90), 119, 30, 0, 2, 1);
    }

    // "the i-th (2 + i)": eight PEOPLE, each of whom knew just the next.
    static void p37EightPeople() {
        DeadUnderstudies x = people(0, 11, 10, 21, 20, 31, 30, 41, 40, 51, 50, 61, 60, 71, 70, 81);
        chain(x, 80, 0, 0, 1, 2, 3, 4, 5, 6, 7);
        due("what 10", x.chain(0, 0, 10), -1);
        chain(x, 80, 127, 7);
        chain(x, 80, 7, 3, 4, 5, 6, 7);
        x.put(3, 0, 40);
        chain(x, 39, 240, 0, 1, 2, 3);
    }

    // "NEEDLESS is a PERSON without whom (another one than the first) it lasts as long": also one who is not in it.
    static void p37Needless() {
        chain(people(0, 60, 50, 90, 50, 90, 80, 120), 119, 6, 0, 1, 3);
        chain(people(0, 60, 50, 90, 80, 120), 119, 0, 0, 1, 2);
        chain(people(0, 60, 50, 90, 80, 120, 200, 300), 119, 8, 0, 1, 2);
        chain(people(0, 60), 59, 0, 0);
        due("asked ahead of all else", people(0, 60, 50, 90, 50, 90, 80, 120).chain(0, 0, 20), 6);
    }

    // What was asked of another PERSON ahead is no matter.
    static void p37AskedOneBehindAnother() {
        DeadUnderstudies x = people(0, 60, 50, 90, 80, 120, 130, 300);
        for (int i = 0; i < 3; i++) {
            chain(x, 299, 7, 3);
            due("NEEDLESS for 0", x.chain(0, 0, 20), 8);
            chain(x, 119, 8, 0, 1, 2);
            chain(x, 119, 9, 1, 2);
        }
    }

    // "(the first BARRED is no matter)"
    static void p37FirstBarred() {
        DeadUnderstudies x = people(0, 60, 50, 90);
        x.force(Checks.law(x, "bars if person = 0"));
        chain(x, 89, 0, 0, 1);
        x.force(Checks.law(x, "bars"));
        chain(x, 59, 2, 0);
        chain(x, 89, 1, 1);
    }

    // YEAR is no matter, nor whether one is ALIVE in it.
    static void p37WhateverYear() {
        DeadUnderstudies x = people(10, 60, 50, 90);
        for (int year : new int[] {0, 10, 60, 90, 300}) {
            x.terms(0, year);
            chain(x, 89, 0, 0, 1);
        }
    }

    static void p37Nones() {
        DeadUnderstudies x = people(0, 60, 50, 90);
        Checks.noneBeyond("PART", part -> x.chain(part, 0, 0), 0, 0);
        Checks.noneBeyond("PERSON", person -> x.chain(0, person, 0), 0, 1);
        for (int what : new int[] {-1, 4, 10, 19, 21, Integer.MIN_VALUE, Integer.MAX_VALUE}) {
            due("what " + what, x.chain(0, 0, what), -1);
        }
        DeadUnderstudies y = new DeadUnderstudies();
        y.person(0, 60, 1);
        due("no PART", y.chain(0, 0, 0), -1);
    }

    /** PARTS by pairs of FROM and TILL, PEOPLE who are all ALIVE in YEAR 0. */
    private static DeadUnderstudies parts(int people, int... hours) {
        DeadUnderstudies x = new DeadUnderstudies();
        for (int i = 0; i < hours.length; i += 2) x.part(hours[i], hours[i + 1]);
        for (int i = 0; i < people; i++) x.person(0, 50, 1);
        return x;
    }

    private static void cast(DeadUnderstudies x, int rows, int... row) {
        due("rows", x.cast(20), rows);
        due("how many PEOPLE", x.cast(0), rows == 0 ? -1 : java.util.Arrays.stream(row).distinct().count());
        for (int i = 0; i < 6; i++) due("PART " + i, x.cast(1 + i), i < row.length ? row[i] : -1);
    }

    // "none two PARTS of which hours on stage are in common": FROM one hour TILL another one.
    static void p38HoursInCommon() {
        cast(parts(2, 0, 8, 8, 16), 2, 0, 0);
        cast(parts(2, 8, 16, 0, 8), 2, 0, 0);
        cast(parts(2, 0, 9, 8, 16), 2, 0, 1);
        cast(parts(2, 8, 16, 0, 9), 2, 0, 1);
        cast(parts(2, 0, 24, 5, 6), 2, 0, 1);
        cast(parts(2, 5, 6, 0, 24), 2, 0, 1);
        cast(parts(2, 5, 6, 5, 6), 2, 0, 1);
        cast(parts(2, 23, 24, 0, 1), 2, 0, 0);
    }

    // "who is ALIVE in YEAR"
    static void p38Alive() {
        DeadUnderstudies x = parts(0, 0, 24);
        x.person(10, 20, 1);
        x.person(19, 30, 1);
        int[] years = {9, 10, 18, 19, 20, 29, 30};
        int[] rows = {0, 1, 1, 2, 1, 1, 0};
        int[] first = {-1, 0, 0, 0, 1, 1, -1};
        for (int i = 0; i < 7; i++) {
            x.terms(0, years[i]);
            due("rows in " + years[i], x.cast(20), rows[i]);
            due("who in " + years[i], x.cast(1), first[i]);
        }
    }

    // "not BARRED (no teacher)"
    static void p38Barred() {
        DeadUnderstudies x = parts(3, 0, 8, 8, 16);
        x.terms(0, 7);
        x.force(Checks.law(x, "bars if teacher = 0-1 and part = 1 and person < 2 and year = 7"));
        cast(x, 1, 2, 2);
        x.put(2, 0, 7);
        cast(x, 0);
        x.terms(0, 6);
        cast(x, 3, 0, 0);
    }

    // "the fewest PEOPLE", "in how many rows of PEOPLE with so few (20)"
    static void p38FewestPeople() {
        cast(parts(3, 0, 8, 8, 16, 16, 24), 3, 0, 0, 0);
        cast(parts(3, 0, 8, 7, 16, 16, 24), 12, 0, 1, 0);
        cast(parts(3, 0, 10, 9, 16, 9, 24), 6, 0, 1, 2);
        cast(parts(2, 0, 10, 9, 16, 9, 24), 0);
    }

    // "the first row of PEOPLE by PARTS": of those with the fewest PEOPLE.
    static void p38FirstRow() {
        DeadUnderstudies x = parts(3, 0, 8, 8, 16);
        x.force(Checks.law(x, "bars if person = 0 and part = 1"));
        cast(x, 2, 1, 1);
        x.force(Checks.law(x, "bars if person = 0 and part = 1 or person = 1 and part = 0 or person = 2"));
        cast(x, 1, 0, 1);
    }

    // One who was tried in vain for a PART ahead plays nothing by that.
    static void p38TriedInVain() {
        DeadUnderstudies x = parts(2, 0, 4, 4, 8, 8, 12);
        x.force(Checks.law(x, "bars if person = 0 and part = 2"));
        cast(x, 1, 1, 1, 1);
    }

    // Hours of PARTS that there are no more are no matter.
    static void p38OfPartsThatThereAre() {
        DeadUnderstudies x = parts(2);
        x.image(0);
        x.part(0, 24);
        x.part(0, 24);
        cast(x, 2, 0, 1);
        x.back(0);
        x.part(0, 8);
        x.part(8, 16);
        cast(x, 2, 0, 0);
        x.back(0);
        cast(x, 1);
    }

    // "(.. no PARTS: 0 PEOPLE, in 1 row)"
    static void p38NoParts() {
        cast(parts(0), 1);
        cast(parts(8), 1);
    }

    // "NONE (it can't be, but 0 for 20 ..)"
    static void p38CantBe() {
        cast(parts(0, 0, 24), 0);
        DeadUnderstudies x = parts(8, 0, 24, 3, 4);
        x.force(Checks.law(x, "bars if part = 1"));
        cast(x, 0);
    }

    static void p38MostPartsAndPeople() {
        cast(parts(8, 0, 24, 0, 24, 0, 24, 0, 24, 0, 24, 0, 24), 20160, 0, 1, 2, 3, 4, 5);
        cast(parts(6, 0, 24, 0, 24, 0, 24, 0, 24, 0, 24, 0, 24), 720, 0, 1, 2, 3, 4, 5);
        cast(parts(5, 0, 24, 0, 24, 0, 24, 0, 24, 0, 24, 0, 24), 0);
        cast(parts(8, 0, 4, 4, 8, 8, 12, 12, 16, 16, 20, 20, 24), 8, 0, 0, 0, 0, 0, 0);
    }

    static void p38Nones() {
        DeadUnderstudies x = parts(8, 0, 24, 0, 24, 0, 24, 0, 24, 0, 24, 0, 24);
        for (int what : new int[] {-1, 7, 19, 21, Integer.MIN_VALUE, Integer.MAX_VALUE}) {
            due("what " + what, x.cast(what), -1);
        }
        due("the last PART", x.cast(6), 5);
        DeadUnderstudies y = parts(1, 0, 24);
        due("no PART 1", y.cast(2), -1);
        due("PART 0", y.cast(1), 0);
    }
}
