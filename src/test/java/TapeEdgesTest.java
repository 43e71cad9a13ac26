/** Promises 11 to 14 at their edges, a method for each sentence: the TAPE and ROWS of bytes. */
public final class TapeEdgesTest {
    public static void main(String[] args) {
        Checks.sentences(TapeEdgesTest.class);
    }

    private static void due(String call, long got, long want) {
        Checks.due(call, got, want);
    }

    private static DeadUnderstudies town() {
        DeadUnderstudies x = new DeadUnderstudies();
        x.part(0, 24);
        return x;
    }

    private static int blank(DeadUnderstudies x) {
        return x.feed(0x20202020, 0x20202020, 0x20202020, 0x20202020, 0x20202020);
    }

    /** A ROW of just the bytes told: how many RULES came. */
    private static int row(DeadUnderstudies x, int... bytes) {
        StringBuilder text = new StringBuilder();
        for (int b : bytes) text.append((char) b);
        Checks.tape(x, text.toString());
        return x.row(0);
    }

    // "four of each number, the highest first".
    static void p11HighestFirst() {
        DeadUnderstudies x = town();
        due("bytes", x.feed(0x00010203, 0x01020304, 0x02030405, 0x03040500, 0x04050001), 20);
        due("RULES", x.row(0), 5);
        int[][] rules = {{0, 1, 2, 3}, {1, 2, 3, 4}, {2, 3, 4, 5}, {3, 4, 5, 0}, {4, 5, 0, 1}};
        for (int[] r : rules) due("RULE " + r[0], x.of(0, r[0], r[1], 0) * 10 + x.of(0, r[0], r[1], 1), r[2] * 10 + r[3]);
    }

    // A byte above 127 at the head of a number is none below 0.
    static void p11BytesTo255() {
        DeadUnderstudies x = town();
        x.feed(0xFF000000, 0x00FF0000, 0x0000FF00, 0x000000FF, 0x80808080);
        due("RULES", x.row(0), 0);
        due("PRATTLE", x.prattle(), 5);
        x.feed(0x696E2030, 0x20617420, 0x30206875, 0x7368FF20, 0x20202020);
        due("a TEXT", x.play(0), -6);
        due("FAULT at the byte 255", x.fault(), 14);
    }

    // "how many it has. NONE, if there would be more than 400."
    static void p11FourHundredBytes() {
        DeadUnderstudies x = town();
        for (int i = 1; i <= 20; i++) due("bytes", blank(x), 20 * i);
        due("more than 400", blank(x), -1);
        due("they stay 400", x.count(6), 400);
        x.end(381);
        due("401 would be", blank(x), -1);
        due("they stay 381", x.count(6), 381);
        x.end(380);
        due("400 just so", blank(x), 400);
    }

    // NONE of feed() and end() is no number that a call was REFUSED by.
    static void p11NotRefused() {
        DeadUnderstudies x = town();
        for (int i = 1; i <= 21; i++) blank(x);
        x.end(401);
        x.end(-1);
        due("status", x.status(), 0);
        due("counts", x.count(7) + x.count(8) + x.count(9) + x.count(10) + x.count(11), 0);
    }

    static void p11BehindWhatIsThere() {
        DeadUnderstudies x = town();
        x.feed(0x00000100, 0x00000200, 0, 0, 0);
        x.end(2);
        x.feed(0x07050001, 0x01010101, 0, 0, 0);
        x.end(6);
        due("RULES", x.row(0), 1);
        due("of both feeds", x.of(0, 0, 0, 0) * 10 + x.of(0, 0, 0, 1), 75);
        due("PRATTLE", x.prattle(), 1);
    }

    // "The TAPE has its first n bytes alone: n."
    static void p12FirstBytes() {
        DeadUnderstudies x = town();
        due("0 of none", x.end(0), 0);
        blank(x);
        due("all", x.end(20), 20);
        due("one less", x.end(19), 19);
        due("count", x.count(6), 19);
        due("none", x.end(0), 0);
        due("count", x.count(6), 0);
    }

    // "NONE, if it has not so many, or n is below 0."
    static void p12NotSoMany() {
        DeadUnderstudies x = town();
        due("1 of none", x.end(1), -1);
        blank(x);
        for (int n : new int[] {21, -1, 400, 401, Integer.MIN_VALUE, Integer.MAX_VALUE}) due("end " + n, x.end(n), -1);
        due("the TAPE stays", x.count(6), 20);
    }

    // "A ROW of bytes for a PART, the TAPE is empty then: how many RULES came."
    static void p13HowManyCame() {
        DeadUnderstudies x = town();
        due("one", row(x, 5, 5, 9, 5), 1);
        due("the TAPE is empty", x.count(6), 0);
        due("that RULE", x.of(0, 5, 5, 0) * 10 + x.of(0, 5, 5, 1), 95);
        due("two alike", row(x, 0, 0, 0, 0, 0, 0, 0, 0), 2);
        due("a hundred", hundred(x), 100);
        due("no PRATTLE", x.prattle(), 0);
        due("the last of the TAPE", x.of(0, 4, 3, 0), 9);
    }

    private static int hundred(DeadUnderstudies x) {
        for (int i = 0; i < 19; i++) x.feed(0, 0, 0, 0, 0);
        x.feed(0, 0, 0, 0, 0x04030900);
        return x.row(0);
    }

    // "RULES by fours: STATE, CUE, WORD, next of a PART; one that can't be .. is PRATTLE".
    static void p13OneThatCantBe() {
        DeadUnderstudies x = town();
        for (int place = 0; place < 4; place++) {
            int most = place == 2 ? 9 : 5;
            int[] bytes = {0, 0, 0, 0};
            bytes[place] = most;
            due("the last taken at " + place, row(x, bytes), 1);
            due("no PRATTLE", x.prattle(), 0);
            for (int b : new int[] {most + 1, 127, 128, 255}) {
                bytes[place] = b;
                due("byte " + b + " at " + place, row(x, bytes), 0);
                Checks.taken(x, "PRATTLE", x.prattle(), 1);
            }
        }
    }

    // "one within which the TAPE ends is PRATTLE: none".
    static void p13TapeEndsWithin() {
        DeadUnderstudies x = town();
        for (int n = 1; n <= 3; n++) {
            Checks.taken(x, "a RULE of " + n + " bytes", row(x, new int[n]), 0);
            due("PRATTLE", x.prattle(), 1);
            due("a RULE and " + n + " bytes", row(x, new int[4 + n]), 1);
            due("PRATTLE", x.prattle(), 1);
        }
    }

    // What stood behind the end before is no byte of the TAPE.
    static void p13NoByteBehindTheEnd() {
        for (int n = 1; n <= 3; n++) {
            DeadUnderstudies x = town();
            x.feed(0, 0, 0, 0, 0);
            x.end(n);
            due("a RULE of " + n + " bytes", x.row(0), 0);
            due("PRATTLE", x.prattle(), 1);
            due("none came", x.stage(0, 2), 0);
        }
    }

    // PRATTLE leaves the RULE as it is, and what stands behind it is read by fours all the same.
    static void p13PrattleComesToNothing() {
        DeadUnderstudies x = town();
        x.rule(0, 1, 1, 4, 4);
        due("the one behind it", row(x, 1, 1, 10, 0, 1, 2, 3, 4), 1);
        due("it stays", x.of(0, 1, 1, 0) * 10 + x.of(0, 1, 1, 1), 44);
        due("it came", x.of(0, 1, 2, 0) * 10 + x.of(0, 1, 2, 1), 34);
    }

    // "-2 .. (At -2 the TAPE stays.)"
    static void p13NoSuchPart() {
        DeadUnderstudies x = town();
        x.feed(0, 0, 0, 0, 0);
        for (int part : new int[] {-1, 1, 6, Integer.MIN_VALUE, Integer.MAX_VALUE}) {
            Checks.refused(x, "PART " + part, i -> x.row(part), -2);
            due("the TAPE stays", x.count(6), 20);
        }
        Checks.taken(x, "PART 0", x.row(0), 5);
    }

    // "-6 the TAPE is empty."
    static void p13EmptyTape() {
        DeadUnderstudies x = town();
        Checks.refused(x, "of none", i -> x.row(0), -6);
        x.feed(0, 0, 0, 0, 0);
        x.end(1);
        Checks.taken(x, "of one byte", x.row(0), 0);
        Checks.refused(x, "behind a ROW", i -> x.row(0), -6);
    }

    static void p13NoPartAheadOfEmptyTape() {
        DeadUnderstudies x = town();
        Checks.refused(x, "PART 1, empty", i -> x.row(1), -2);
    }

    // "(0 ahead of any)".
    static void p14AheadOfAny() {
        DeadUnderstudies x = town();
        due("ahead of any", x.prattle(), 0);
        x.row(0);
        due("ahead of any that was not REFUSED", x.prattle(), 0);
    }

    // "the latest row() that was not REFUSED".
    static void p14LatestThatWasNotRefused() {
        DeadUnderstudies x = town();
        row(x, 9, 9, 9, 9, 9);
        due("two", x.prattle(), 2);
        x.row(0);
        due("not of one REFUSED by -6", x.prattle(), 2);
        x.feed(0, 0, 0, 0, 0);
        x.row(1);
        due("not of one REFUSED by -2", x.prattle(), 2);
        x.row(0);
        due("of the latest", x.prattle(), 0);
    }

    static void p14HowMuchAtMost() {
        DeadUnderstudies x = town();
        for (int i = 0; i < 20; i++) x.feed(-1, -1, -1, -1, -1);
        due("none came", x.row(0), 0);
        due("PRATTLE", x.prattle(), 100);
    }
}
