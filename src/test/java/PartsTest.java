/** Promises 1 to 6: a new object, PARTS and their RULES. */
public final class PartsTest {
    public static void main(String[] args) {
        newObject();
        part();
        rule();
        hush();
        of();
        stage();
        Checks.close();
    }

    private static void due(String call, long got, long want) {
        Checks.due(call, got, want);
    }

    private static void newObject() {
        DeadUnderstudies x = new DeadUnderstudies();
        for (int what = 0; what <= 11; what++) due("1: count " + what, x.count(what), 0);
        due("1: no LAW in FORCE", x.count(12), -1);
        due("1: YEAR", x.count(13), 0);
        due("1: MOOD", x.count(14), 0);
        due("1: SLIP", x.count(15), 10);
        due("1: status", x.status(), 0);
        due("1: fault", x.fault(), -1);
        due("1: prattle", x.prattle(), 0);
        due("1: no CENTURY", x.drawn(0, 0, 0), -1);
        due("1: no pupils", x.drawn(0, 0, 1), -1);
        due("1: NONE", DeadUnderstudies.NONE, -1);
    }

    private static void part() {
        DeadUnderstudies x = new DeadUnderstudies();
        due("2: the first", x.part(0, 1), 0);
        due("2: the widest", x.part(0, 24), 1);
        due("2: the latest", x.part(23, 24), 2);
        due("2: from below 0", x.part(-1, 5), -1);
        due("2: from 24", x.part(24, 25), -1);
        due("2: till as from", x.part(7, 7), -1);
        due("2: till below from", x.part(7, 6), -1);
        due("2: till 25", x.part(7, 25), -1);
        due("2: fourth", x.part(3, 4), 3);
        due("2: fifth", x.part(3, 4), 4);
        due("2: sixth", x.part(3, 4), 5);
        due("2: no room", x.part(3, 4), -5);
        due("2: -1 ahead of -5", x.part(4, 4), -1);
        due("2: six there are", x.count(0), 6);
        due("2: all HOLES at first", x.stage(5, 2), 0);
    }

    private static void rule() {
        DeadUnderstudies x = new DeadUnderstudies();
        due("3: no PART", x.rule(0, 0, 0, 0, 0), -2);
        x.part(0, 24);
        due("3: was a HOLE", x.rule(0, 5, 5, 9, 5), -1);
        due("3: status of that", x.status(), 0);
        due("3: had a WORD", x.rule(0, 5, 5, 0, 0), 9);
        due("3: that WORD", x.of(0, 5, 5, 0), 0);
        due("3: that STATE", x.of(0, 5, 5, 1), 0);
        int[][] wrong = {{0, 6, 0, 0, 0}, {0, -1, 0, 0, 0}, {0, 0, 6, 0, 0}, {0, 0, -1, 0, 0}, {0, 0, 0, 10, 0},
            {0, 0, 0, -1, 0}, {0, 0, 0, 0, 6}, {0, 0, 0, 0, -1}, {7, 6, 0, 0, 0}};
        for (int[] w : wrong) {
            due("3: " + java.util.Arrays.toString(w), x.rule(w[0], w[1], w[2], w[3], w[4]), -1);
            due("3: status " + java.util.Arrays.toString(w), x.status(), -1);
        }
        due("3: PART 1", x.rule(1, 0, 0, 0, 0), -2);
        due("3: PART -1", x.rule(-1, 0, 0, 0, 0), -2);
        due("3: one RULE in all", x.stage(0, 2), 1);
    }

    private static void hush() {
        DeadUnderstudies x = new DeadUnderstudies();
        x.part(0, 24);
        x.rule(0, 2, 3, 7, 4);
        due("4: had a WORD", x.hush(0, 2, 3), 7);
        due("4: is a HOLE", x.of(0, 2, 3, 0), -1);
        due("4: goes nowhere", x.of(0, 2, 3, 1), -1);
        due("4: was a HOLE", x.hush(0, 2, 3), -1);
        due("4: status of that", x.status(), 0);
        due("4: STATE 6", x.hush(0, 6, 0), -1);
        due("4: status of that", x.status(), -1);
        due("4: CUE -1", x.hush(4, 0, -1), -1);
        due("4: no PART", x.hush(1, 0, 0), -2);
        due("4: PART -1", x.hush(-1, 0, 0), -2);
    }

    private static void of() {
        DeadUnderstudies x = new DeadUnderstudies();
        x.part(0, 24);
        x.part(0, 24);
        x.rule(1, 2, 3, 7, 4);
        due("5: WORD", x.of(1, 2, 3, 0), 7);
        due("5: STATE", x.of(1, 2, 3, 1), 4);
        due("5: other RULE", x.of(1, 3, 2, 0), -1);
        due("5: other PART", x.of(0, 2, 3, 0), -1);
        due("5: what 2", x.of(1, 2, 3, 2), -1);
        due("5: what -1", x.of(1, 2, 3, -1), -1);
        due("5: no PART", x.of(2, 2, 3, 0), -1);
        due("5: no PART -1", x.of(-1, 2, 3, 0), -1);
        due("5: STATE 6", x.of(1, 6, 3, 0), -1);
        due("5: CUE 9", x.of(1, 1, 9, 0), -1);
        due("5: no call that is REFUSED", x.status(), 0);
    }

    private static void stage() {
        DeadUnderstudies x = new DeadUnderstudies();
        x.part(3, 17);
        x.part(0, 2);
        x.person(0, 9, 1);
        x.rule(0, 0, 0, 1, 1);
        x.rule(0, 1, 1, 1, 1);
        x.begin(0, 0);
        x.begin(0, 0);
        x.begin(1, 0);
        due("6: FROM", x.stage(0, 0), 3);
        due("6: TILL", x.stage(0, 1), 17);
        due("6: RULES", x.stage(0, 2), 2);
        due("6: VERSIONS", x.stage(0, 3), 2);
        due("6: of the other", x.stage(1, 3), 1);
        due("6: what 4", x.stage(0, 4), -1);
        due("6: what -1", x.stage(0, -1), -1);
        due("6: no PART", x.stage(2, 0), -1);
        due("6: PART -1", x.stage(-1, 0), -1);
    }
}
