/** Promises 39 to 43: DEEDS, the LEAST PART and what he WOULD say. */
public final class DeedTest {
    public static void main(String[] args) {
        deed();
        judge();
        least();
        leastOfRows();
        would();
        Checks.close();
    }

    private static void due(String call, long got, long want) {
        Checks.due(call, got, want);
    }

    /** Deeds as "row cue word" by threes of digits. */
    private static DeadUnderstudies told(String deeds) {
        DeadUnderstudies x = new DeadUnderstudies();
        for (String d : deeds.split(" ")) x.deed(d.charAt(0) - '0', d.charAt(1) - '0', d.charAt(2) - '0');
        return x;
    }

    private static void deed() {
        DeadUnderstudies x = new DeadUnderstudies();
        due("40: of none", x.forget(), 0);
        due("39: ROW 4", x.deed(4, 0, 0), -1);
        due("39: ROW -1", x.deed(-1, 0, 0), -1);
        due("39: CUE 6", x.deed(0, 6, 0), -1);
        due("39: CUE -1", x.deed(0, -1, 0), -1);
        due("39: WORD 10", x.deed(0, 0, 10), -1);
        due("39: WORD -1", x.deed(0, 0, -1), -1);
        for (int i = 1; i <= 12; i++) due("39: how many", x.deed(3, 5, 9), i);
        due("39: no room", x.deed(0, 0, 0), -5);
        due("39: -1 ahead of -5", x.deed(4, 0, 0), -1);
        due("39: twelve", x.count(5), 12);
        due("40: there were", x.forget(), 12);
        due("40: none are", x.count(5), 0);
        due("39: anew", x.deed(0, 0, 0), 1);
    }

    private static void judge() {
        DeadUnderstudies x = new DeadUnderstudies();
        x.part(0, 24);
        x.person(0, 50, 1);
        x.rule(0, 0, 0, 3, 1);
        x.rule(0, 1, 0, 4, 0);
        x.begin(0, 0);
        due("41: no DEEDS", x.judge(0), -1);
        x.deed(0, 0, 3);
        x.deed(2, 0, 3);
        x.deed(0, 0, 4);
        x.deed(0, 0, 3);
        due("41: all are so", x.judge(0), -1);
        x.deed(2, 0, 5);
        due("41: another WORD", x.judge(0), 4);
        x.deed(1, 1, 0);
        due("41: the first", x.judge(0), 4);
        x.forget();
        x.deed(2, 0, 3);
        x.deed(1, 1, 0);
        x.deed(1, 0, 3);
        due("41: STOPS", x.judge(0), 1);
        due("41: no VERSION", x.judge(1), -1);
        due("41: VERSION -1", x.judge(-1), -1);
        x.forget();
        x.deed(0, 0, 9);
        x.deed(0, 0, 4);
        due("41: the first of one ROW", x.judge(0), 0);
    }

    private static void least() {
        DeadUnderstudies x = new DeadUnderstudies();
        due("42: no DEEDS", x.least(0), 1);
        due("42: no DEEDS, ways", x.least(1), 1);
        x = told("003 003 013 015");
        due("42: two unlike WORDS at a CUE", x.least(0), 2);
        x = told("003 003 003 015 003");
        due("42: one STATE", x.least(0), 1);
        due("42: one way", x.least(1), 1);
        x = told("003 004 003");
        due("42: two STATES", x.least(0), 2);
        due("42: two STATES, ways", x.least(1), 1);
        x = told("003 010 004");
        due("42: by way of the second CUE", x.least(0), 2);
        // The third can't be at STATE 0: 0 0 1, 0 1 1.
        due("42: ways", x.least(1), 2);
        x = told("001 002 003");
        due("42: three STATES", x.least(0), 3);
        due("42: three STATES, ways", x.least(1), 1);
        x = told("001 002 003 004");
        due("42: not by 3", x.least(0), -1);
        due("42: not by 3, ways", x.least(1), 0);
        due("42: what 2", x.least(2), -1);
        due("42: what -1", x.least(-1), -1);
        x = told("001 002 003 001 002 003 001 002 003 001 002 003");
        due("42: a ROW of twelve", x.least(0), 3);
        due("42: a ROW of twelve, ways", x.least(1), 1);
        due("43: behind twelve", x.would(0, 0), 1 << 1);
        x = told("011 001 002 003");
        // 0 0 1 2, 0 1 0 2, 0 1 2 0.
        due("42: STATES numbered as they are met", x.least(1), 3);
        x = told("000 009");
        due("42: WORDS 0 and 9", x.least(0), 2);
        due("43: WORDS 0 and 9", x.would(1, 0), 1);
        x = told("001 012 023 002");
        // The fourth can't be at STATE 0: 0 0 0 1, 0 0 1 1, 0 1 0 1, 0 1 1 1.
        due("42: ways of four", x.least(1), 4);
    }

    private static void leastOfRows() {
        DeadUnderstudies x = told("001 101 201 301");
        due("42: four ROWS alike", x.least(0), 1);
        x = told("001 102");
        due("42: ROWS begin alike", x.least(0), -1);
        due("43: not by 3", x.would(0, 0), -1);
        x = told("001 101 012 113");
        due("42: one way on", x.least(0), -1);
        x = told("011 002 101 113");
        due("42: 0 1 in the first ROW, then 0 and another", x.least(0), 2);
        due("42: ROW by ROW, told in any order", x.least(1), told("011 101 002 113").least(1));
    }

    private static void would() {
        DeadUnderstudies x = new DeadUnderstudies();
        due("43: no DEEDS", x.would(0, 0), 1023);
        x = told("003 004 003");
        due("43: behind the ROW", x.would(0, 0), 1 << 4);
        due("43: a CUE of no DEED", x.would(0, 1), 1023);
        due("43: another ROW is at its beginning", x.would(1, 0), 1 << 3);
        x = told("003");
        due("43: no DEED tells to which STATE", x.would(0, 0), 1 << 3);
        x = told("003 004");
        due("43: of any of the STATES", x.would(0, 0), 1 << 3 | 1 << 4);
        due("43: a CUE of no DEED", x.would(0, 5), 1023);
        x = told("003 004 103");
        due("43: told by another ROW", x.would(1, 0), 1 << 4);
        due("43: not told", x.would(0, 0), 1 << 3 | 1 << 4);
        x = told("001 002 003");
        due("43: three STATES", x.would(0, 0), 14);
        x = told("001 012 002 113");
        due("43: not told, all STATES met there", x.would(1, 1), 1 << 3 | 1 << 2);
        x = told("001 012 023 002");
        // The STATES stand in four ways; in two of them no DEED is at CUE 1 in STATE 0, where ROW 1 begins.
        due("43: of all ways", x.would(1, 1), 1023);
        due("43: ROW 4", x.would(4, 0), -1);
        due("43: ROW -1", x.would(-1, 0), -1);
        due("43: CUE 6", x.would(0, 6), -1);
        due("43: CUE -1", x.would(0, -1), -1);
    }
}
