/** Promises 11 to 14: the TAPE and ROWS of bytes. */
public final class TapeTest {
    public static void main(String[] args) {
        feed();
        end();
        row();
        Checks.close();
    }

    private static void due(String call, long got, long want) {
        Checks.due(call, got, want);
    }

    private static void feed() {
        DeadUnderstudies x = new DeadUnderstudies();
        x.part(0, 24);
        due("11: bytes", x.feed(0x01020304, 0x05050905, -1, 0x00000000, 0x80000000), 20);
        due("11: count", x.count(6), 20);
        due("11: RULES of them", x.row(0), 3);
        due("11: the highest first", x.of(0, 1, 2, 0) * 10 + x.of(0, 1, 2, 1), 34);
        due("11: the second", x.of(0, 5, 5, 0) * 10 + x.of(0, 5, 5, 1), 95);
        due("11: the fourth", x.of(0, 0, 0, 0), 0);
        for (int i = 1; i <= 20; i++) due("11: up to 400", x.feed(0, 0, 0, 0, 0), 20 * i);
        due("11: more than 400", x.feed(0, 0, 0, 0, 0), -1);
        due("11: none came", x.count(6), 400);
        x.end(381);
        due("11: 401 would be", x.feed(0, 0, 0, 0, 0), -1);
        x.end(380);
        due("11: 400 just so", x.feed(0, 0, 0, 0, 0), 400);
        due("11: not counted as REFUSED", x.count(7) + x.count(8) + x.count(9) + x.count(10) + x.count(11), 0);
    }

    private static void end() {
        DeadUnderstudies x = new DeadUnderstudies();
        due("12: of none", x.end(0), 0);
        due("12: not so many", x.end(1), -1);
        x.feed(0, 0, 0, 0, 0);
        due("12: below 0", x.end(-1), -1);
        due("12: too many", x.end(21), -1);
        due("12: stays", x.count(6), 20);
        due("12: all", x.end(20), 20);
        due("12: some", x.end(7), 7);
        due("12: not back", x.end(8), -1);
        due("12: goes on behind", x.feed(0, 0, 0, 0, 0), 27);
    }

    private static void row() {
        DeadUnderstudies x = new DeadUnderstudies();
        x.part(0, 24);
        due("14: ahead of any", x.prattle(), 0);
        x.feed(0x00000300, 0x00000400, 0x06000000, 0x00060000, 0x00000A00);
        x.feed(0x00000006, 0x05050905, 0xFF000000, 0x01010101, 0x02020202);
        x.end(39);
        due("13: no PART", x.row(1), -2);
        due("13: the TAPE stays", x.count(6), 39);
        due("13: PART -1", x.row(-1), -2);
        due("13: RULES", x.row(0), 4);
        due("14: PRATTLE", x.prattle(), 6);
        due("13: the TAPE is empty", x.count(6), 0);
        due("13: a later one over an earlier", x.of(0, 0, 0, 0), 4);
        due("13: the edge", x.of(0, 5, 5, 0) * 10 + x.of(0, 5, 5, 1), 95);
        due("13: RULES that stand", x.stage(0, 2), 3);
        due("13: empty", x.row(0), -6);
        due("13: status", x.status(), -6);
        due("14: of one not REFUSED", x.prattle(), 6);
        due("13: -2 ahead of -6", x.row(1), -2);
        x.feed(0x00000000, 0, 0, 0, 0);
        x.end(1);
        due("13: half a RULE", x.row(0), 0);
        due("14: half a RULE", x.prattle(), 1);
        due("13: was not REFUSED", x.status(), 0);
        x.feed(0x00000000, 0, 0, 0, 0);
        due("13: five times the same", x.row(0), 5);
        due("14: none", x.prattle(), 0);
    }
}
