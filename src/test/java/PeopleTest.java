/** Promises 7 to 10: PEOPLE and TERMS. */
public final class PeopleTest {
    public static void main(String[] args) {
        person();
        put();
        fact();
        terms();
        Checks.close();
    }

    private static void due(String call, long got, long want) {
        Checks.due(call, got, want);
    }

    private static void person() {
        DeadUnderstudies x = new DeadUnderstudies();
        due("7: born 0", x.person(0, 1, 1), 0);
        due("7: born 200, dead 300", x.person(200, 300, 9), 1);
        due("7: born 201", x.person(201, 300, 9), -1);
        due("7: born -1", x.person(-1, 300, 9), -1);
        due("7: dead as born", x.person(5, 5, 9), -1);
        due("7: dead 301", x.person(5, 301, 9), -1);
        due("7: MEMORY 0", x.person(5, 6, 0), -1);
        due("7: MEMORY 10", x.person(5, 6, 10), -1);
        for (int i = 2; i < 8; i++) due("7: number " + i, x.person(5, 6, 5), i);
        due("7: no room", x.person(5, 6, 5), -5);
        due("7: -1 ahead of -5", x.person(5, 6, 0), -1);
        due("7: eight there are", x.count(1), 8);
    }

    private static void put() {
        DeadUnderstudies x = new DeadUnderstudies();
        x.person(10, 60, 4);
        due("8: DEAD", x.put(0, 0, 11), 60);
        due("8: DEAD is so", x.fact(0, 1), 11);
        due("8: DEAD 300", x.put(0, 0, 300), 11);
        due("8: MEMORY", x.put(0, 1, 9), 4);
        due("8: MEMORY is so", x.fact(0, 2), 9);
        due("8: MEMORY 1", x.put(0, 1, 1), 9);
        due("8: MEMORY 0", x.put(0, 1, 0), -1);
        due("8: MEMORY 10", x.put(0, 1, 10), -1);
        due("8: DEAD as BORN", x.put(0, 0, 10), -1);
        due("8: DEAD 301", x.put(0, 0, 301), -1);
        due("8: what 2", x.put(0, 2, 5), -1);
        due("8: what -1", x.put(0, -1, 5), -1);
        due("8: -1 ahead of -2", x.put(1, 0, 301), -1);
        due("8: DEAD not above BORN behind -2", x.put(1, 0, 10), -2);
        due("8: DEAD 0 behind -2", x.put(1, 0, 0), -2);
        due("8: DEAD below 0 ahead of -2", x.put(1, 0, -1), -1);
        due("8: DEAD far below 0 ahead of -2", x.put(1, 0, Integer.MIN_VALUE), -1);
        due("8: DEAD 300 behind -2", x.put(1, 0, 300), -2);
        due("8: DEAD 0", x.put(0, 0, 0), -1);
        due("8: DEAD below 0", x.put(0, 0, -7), -1);
        due("8: MEMORY 0 ahead of -2", x.put(1, 1, 0), -1);
        due("8: PERSON -1", x.put(-1, 1, 5), -2);
        due("8: nothing else came of it", x.fact(0, 0) * 10000 + x.fact(0, 1) * 10 + x.fact(0, 2), 103001);
    }

    private static void fact() {
        DeadUnderstudies x = new DeadUnderstudies();
        x.person(10, 60, 4);
        due("9: BORN", x.fact(0, 0), 10);
        due("9: DEAD", x.fact(0, 1), 60);
        due("9: MEMORY", x.fact(0, 2), 4);
        int[][] alive = {{0, 0}, {9, 0}, {10, 1}, {59, 1}, {60, 0}, {300, 0}};
        for (int[] a : alive) {
            x.terms(0, a[0]);
            due("9: ALIVE in " + a[0], x.fact(0, 3), a[1]);
        }
        due("9: what 4", x.fact(0, 4), -1);
        due("9: what -1", x.fact(0, -1), -1);
        due("9: no PERSON", x.fact(1, 0), -1);
        due("9: PERSON -1", x.fact(-1, 0), -1);
    }

    private static void terms() {
        DeadUnderstudies x = new DeadUnderstudies();
        int[] at = {0, 0, 10};
        int[] most = {300, 9, 100};
        for (int what = 0; what < 3; what++) {
            due("10: most of " + what, x.terms(what, most[what]), at[what]);
            due("10: above it " + what, x.terms(what, most[what] + 1), -1);
            due("10: status", x.status(), -1);
            due("10: below 0 " + what, x.terms(what, -1), -1);
            due("10: least of " + what, x.terms(what, 0), most[what]);
            due("10: status", x.status(), 0);
        }
        due("10: what 3", x.terms(3, 0), -1);
        due("10: what -1", x.terms(-1, 0), -1);
    }
}
