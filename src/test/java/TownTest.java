/** Promises 37 and 38: CHAINS of pupils and CASTS. */
public final class TownTest {
    public static void main(String[] args) {
        chain();
        chainOfAlike();
        chainLaw();
        cast();
        castLaw();
        castMost();
        Checks.close();
    }

    private static void due(String call, long got, long want) {
        Checks.due(call, got, want);
    }

    private static void row(String call, DeadUnderstudies x, int first, int... people) {
        due(call + ": how many", x.chain(0, first, 1), people.length);
        for (int i = 0; i < people.length; i++) due(call + ": " + i, x.chain(0, first, 2 + i), people[i]);
        due(call + ": behind", x.chain(0, first, 2 + people.length), -1);
    }

    private static void chain() {
        DeadUnderstudies x = new DeadUnderstudies();
        x.part(0, 24);
        x.person(0, 50, 1);
        x.person(100, 160, 1);
        x.person(49, 101, 1);
        x.person(50, 120, 1);
        x.person(101, 130, 1);
        due("37: YEAR", x.chain(0, 0, 0), 159);
        row("37: the row", x, 0, 0, 2, 1);
        due("37: NEEDLESS", x.chain(0, 0, 20), 1 << 3 | 1 << 4);
        due("37: ends with himself", x.chain(0, 1, 0), 159);
        row("37: alone", x, 1, 1);
        due("37: NEEDLESS, all others", x.chain(0, 1, 20), 1 | 1 << 2 | 1 << 3 | 1 << 4);
        x.put(2, 0, 100);
        due("37: a gap", x.chain(0, 0, 0), 159);
        row("37: round it", x, 0, 0, 2, 3, 1);
        due("37: NEEDLESS", x.chain(0, 0, 20), 1 << 4);
        x.put(2, 0, 50);
        due("37: no YEAR in common", x.chain(0, 0, 0), 49);
        row("37: alone", x, 0, 0);
        due("37: YEAR is no matter", x.terms(0, 300), 0);
        due("37: so", x.chain(0, 0, 0), 49);
        due("37: no PART", x.chain(1, 0, 0), -1);
        due("37: no PERSON", x.chain(0, 5, 0), -1);
        due("37: PERSON -1", x.chain(0, -1, 0), -1);
        due("37: what -1", x.chain(0, 0, -1), -1);
        due("37: what 10", x.chain(0, 0, 10), -1);
        due("37: what 21", x.chain(0, 0, 21), -1);
    }

    private static void chainOfAlike() {
        DeadUnderstudies x = new DeadUnderstudies();
        x.part(0, 24);
        x.person(0, 50, 1);
        x.person(60, 90, 1);
        x.person(40, 70, 1);
        x.person(40, 70, 1);
        x.person(65, 90, 1);
        row("37: the first row", x, 0, 0, 2, 1);
        due("37: any of two", x.chain(0, 0, 20), 30);
        x.put(0, 0, 90);
        row("37: the fewest PEOPLE", x, 0, 0);
        due("37: all are NEEDLESS", x.chain(0, 0, 20), 30);
    }

    private static void chainLaw() {
        DeadUnderstudies x = new DeadUnderstudies();
        x.part(0, 24);
        x.part(0, 24);
        x.person(0, 50, 1);
        x.person(40, 90, 2);
        x.person(30, 120, 3);
        x.force(Checks.law(x, "hours 10;hours 11 if year = 40 and memory = 2 and teacher = 0 and part = 0"));
        due("37: not ENOUGH", x.chain(0, 1, 0), 119);
        row("37: one of them", x, 0, 0, 2);
        x.put(2, 0, 80);
        row("37: round it", x, 0, 0, 2, 1);
        due("37: the other PART", x.chain(1, 0, 1), 2);
        x.force(Checks.law(x, "bars if person = 2 and year = 30 and teacher = 0 and part = 0;bars if person = 1 and teacher = 0"));
        row("37: BARRED", x, 0, 0);
        due("37: the other PART", x.chain(1, 0, 1), 3);
        x.force(Checks.law(x, "bars if person = 0"));
        due("37: the first BARRED is no matter", x.chain(0, 0, 0), 89);
        x.force(Checks.law(x, "hours 0"));
        x.put(0, 0, 40);
        row("37: at least one YEAR", x, 0, 0, 2, 1);
        x.force(Checks.law(x, "hours mood"));
        x.terms(1, 9);
        x.put(0, 0, 38);
        due("37: MOOD as it is", x.chain(0, 0, 1), 1);
        x.terms(1, 8);
        due("37: MOOD as it is", x.chain(0, 0, 1), 3);
    }

    private static void cast() {
        DeadUnderstudies x = new DeadUnderstudies();
        due("38: no PARTS", x.cast(0), 0);
        due("38: no PARTS, rows", x.cast(20), 1);
        due("38: no PARTS, the first", x.cast(1), -1);
        x.part(0, 8);
        due("38: no PEOPLE", x.cast(0), -1);
        due("38: no PEOPLE, rows", x.cast(20), 0);
        due("38: no PEOPLE, who", x.cast(1), -1);
        x.part(8, 16);
        x.part(7, 9);
        x.person(10, 50, 1);
        x.person(0, 50, 1);
        x.person(0, 50, 1);
        due("38: two", x.cast(0), 2);
        due("38: the first row, without the unborn", x.cast(1) * 100 + x.cast(2) * 10 + x.cast(3), 112);
        due("38: rows", x.cast(20), 2);
        x.terms(0, 10);
        due("38: the first row", x.cast(1) * 100 + x.cast(2) * 10 + x.cast(3), 1);
        due("38: rows", x.cast(20), 6);
        due("38: no PART 3", x.cast(4), -1);
        due("38: what -1", x.cast(-1), -1);
        due("38: what 19", x.cast(19), -1);
        due("38: what 21", x.cast(21), -1);
        x.part(0, 24);
        due("38: three", x.cast(0), 3);
        due("38: its row", x.cast(1) * 1000 + x.cast(2) * 100 + x.cast(3) * 10 + x.cast(4), 12);
        x.part(0, 24);
        due("38: it can't be", x.cast(0), -1);
        due("38: it can't be, rows", x.cast(20), 0);
        due("38: it can't be, who", x.cast(1), -1);
    }

    private static void castLaw() {
        DeadUnderstudies x = new DeadUnderstudies();
        x.part(0, 8);
        x.part(8, 16);
        x.part(16, 24);
        for (int i = 0; i < 4; i++) x.person(0, 50, 1);
        due("38: one", x.cast(0), 1);
        due("38: rows of one", x.cast(20), 4);
        x.force(Checks.law(x, "bars if part = 0 and person < 2 and teacher < 0;bars if part = 2 and person > 1"));
        due("38: two", x.cast(0), 2);
        due("38: the first", x.cast(1) * 100 + x.cast(2) * 10 + x.cast(3), 200);
        due("38: rows", x.cast(20), 8);
        x.force(Checks.law(x, "bars if part = 1"));
        due("38: it can't be", x.cast(0), -1);
    }

    private static void castMost() {
        DeadUnderstudies x = new DeadUnderstudies();
        for (int i = 0; i < 6; i++) x.part(0, 24);
        for (int i = 0; i < 8; i++) x.person(0, 50, 1);
        due("38: six", x.cast(0), 6);
        due("38: rows of six", x.cast(20), 20160);
        due("38: the last of the first row", x.cast(6), 5);
    }
}
