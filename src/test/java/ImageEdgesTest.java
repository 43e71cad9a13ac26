import java.util.function.IntConsumer;
import java.util.function.IntSupplier;

/** Promises 46 to 49 at their edges, a method for each sentence: IMAGES, what is counted, status. */
public final class ImageEdgesTest {
    public static void main(String[] args) {
        Checks.sentences(ImageEdgesTest.class);
    }

    private static void due(String call, long got, long want) {
        Checks.due(call, got, want);
    }

    /** Two PARTS, two PEOPLE, a LAW in FORCE, a CUE, two VERSIONS, a DEED. */
    private static DeadUnderstudies town() {
        DeadUnderstudies x = new DeadUnderstudies();
        x.part(1, 23);
        x.part(2, 3);
        x.rule(0, 0, 0, 5, 3);
        x.person(0, 50, 4);
        x.person(0, 60, 7);
        x.force(Checks.law(x, "slips memory"));
        x.cue(0);
        x.begin(0, 0);
        x.learn(0, 1, 0);
        x.deed(0, 0, 5);
        return x;
    }

    // "IMAGE k is kept: 0; -1."
    static void p46Image() {
        DeadUnderstudies x = town();
        Checks.taken(x, "image(0)", x.image(0), 0);
        Checks.taken(x, "image(1)", x.image(1), 0);
        Checks.tooFar(x, "image", k -> x.image(k), 0, 1);
    }

    // "BACK to IMAGE k: 0. -1; -2 it was not kept."
    static void p47Back() {
        DeadUnderstudies x = town();
        Checks.refused(x, "back(0)", i -> x.back(0), -2);
        Checks.refused(x, "back(1)", i -> x.back(1), -2);
        Checks.tooFar(x, "back", k -> x.back(k), 0, 1);
        x.image(1);
        Checks.refused(x, "back(0), the other one was kept", i -> x.back(0), -2);
        Checks.taken(x, "back(1)", x.back(1), 0);
        x.image(0);
        Checks.taken(x, "back(0)", x.back(0), 0);
    }

    // "all that it keeps is as it was then": each call that changes something, and what tells of it.
    static void p47AllIsAsItWas() {
        DeadUnderstudies x = town();
        changes(x, "part", i -> x.part(0, 1), () -> x.count(0));
        changes(x, "person", i -> x.person(0, 1, 1), () -> x.count(1));
        changes(x, "begin", i -> x.begin(0, 0), () -> x.count(2));
        changes(x, "learn", i -> x.learn(0, 1, 0), () -> x.stage(0, 3));
        changes(x, "undo", i -> x.undo(), () -> x.version(1, 1));
        changes(x, "law", i -> Checks.law(x, "bars"), () -> x.count(3));
        changes(x, "cue", i -> x.cue(1), () -> x.count(4));
        changes(x, "still", i -> x.still(), () -> x.says(0, 0));
        changes(x, "deed", i -> x.deed(0, 0, 0), () -> x.count(5));
        changes(x, "forget", i -> x.forget(), () -> x.count(5));
        changes(x, "force", i -> x.force(-1), () -> x.count(12));
        changes(x, "YEAR", i -> x.terms(0, 300), () -> x.count(13));
        changes(x, "MOOD", i -> x.terms(1, 9), () -> x.count(14));
        changes(x, "SLIP", i -> x.terms(2, 100), () -> x.count(15));
        changes(x, "rule", i -> x.rule(0, 0, 0, 6, 3), () -> x.of(0, 0, 0, 0));
        changes(x, "next STATE", i -> x.rule(0, 0, 0, 5, 4), () -> x.of(0, 0, 0, 1));
        changes(x, "the last RULE", i -> x.rule(1, 5, 5, 5, 4), () -> x.stage(1, 2));
        changes(x, "hush", i -> x.hush(0, 0, 0), () -> x.of(0, 0, 0, 0));
        changes(x, "play", i -> Checks.play(x, 0, "in 0 at 0 say 9"), () -> x.of(0, 0, 0, 0));
        changes(x, "DEAD", i -> x.put(1, 0, 61), () -> x.fact(1, 1));
        changes(x, "MEMORY", i -> x.put(1, 1, 1), () -> x.fact(1, 2));
    }

    private static void changes(DeadUnderstudies x, String call, IntConsumer change, IntSupplier tells) {
        int was = tells.getAsInt();
        x.image(0);
        change.accept(0);
        due(call + " changes nothing", tells.getAsInt() == was ? 1 : 0, 0);
        x.image(1);
        int is = tells.getAsInt();
        x.back(0);
        due("back(0) behind " + call, tells.getAsInt(), was);
        x.back(1);
        due("back(1) behind " + call, tells.getAsInt(), is);
        x.back(0);
    }

    // What stands in place of what an IMAGE keeps goes, and that comes back: two towns, each number of them another.
    static void p47AnotherTownInPlace() {
        DeadUnderstudies x = new DeadUnderstudies();
        x.image(0);
        for (int town = 0; town < 2; town++) {
            x.back(0);
            found(x, town);
            look(x, town);
            if (town == 0) x.image(1);
        }
        x.back(1);
        look(x, 0);
    }

    private static void found(DeadUnderstudies x, int n) {
        x.part(1 + n, 2 + n);
        x.part(3 + n, 5 + n);
        for (int i = 0; i < 36; i++) x.rule(i % 2, i / 6, i % 6, n + i % 9, (n + i) % 6);
        x.person(n, 50 + n, 1 + n);
        x.person(1 + n, 60 + n, 3 + n);
        x.terms(0, 20 + n);
        x.terms(1, n);
        x.terms(2, n);
        Checks.law(x, "slips memory+" + n);
        Checks.law(x, n == 0 ? "hours 7;bars if person = 1 and part = 1" : "slips 44 if person = 1");
        x.force(1 - n);
        x.cue(2 * n);
        x.cue(n);
        x.begin(n, n);
        x.begin(0, n);
        x.force(-1);
        x.learn(n, 1 - n, 0);
        x.force(1 - n);
        x.deed(0, 2 * n, n);
        x.deed(n, 2 * n, 1);
    }

    private static void look(DeadUnderstudies x, int n) {
        int[] counts = {2, 2, 3, 2, 2, 2};
        for (int i = 0; i < 6; i++) due("count " + i + " of " + n, x.count(i), counts[i]);
        for (int i = 0; i < 2; i++) {
            due("hours of " + n, x.stage(i, 0) * 100 + x.stage(i, 1), (1 + 2 * i + n) * 100 + 2 + 3 * i + n);
            due("BORN of " + n, x.fact(i, 0), i + n);
            due("DEAD of " + n, x.fact(i, 1), 50 + 10 * i + n);
            due("MEMORY of " + n, x.fact(i, 2), 1 + 2 * i + n);
        }
        for (int i = 0; i < 36; i++) {
            due("RULE of " + n, x.of(i % 2, i / 6, i % 6, 0) * 10 + x.of(i % 2, i / 6, i % 6, 1),
                (n + i % 9) * 10 + (n + i) % 6);
            due("HOLE of " + n, x.of(1 - i % 2, i / 6, i % 6, 0), -1);
        }
        due("TERMS of " + n, x.count(13) * 100 + x.count(14) * 10 + x.count(15), (20 + n) * 100 + n * 11);
        due("LAW in FORCE of " + n, x.count(12), 1 - n);
        due("HOURS of " + n, x.asks(1, 1, -1, 1), n == 0 ? 7 : 1);
        due("BARRED of " + n, x.asks(1, 1, -1, 2), 1 - n);
        due("SLIPS of " + n, x.asks(1, 1, -1, 0), n == 0 ? 0 : 5);
        x.force(0);
        due("LAW 0 of " + n, x.asks(0, 0, -1, 0), 1 + 2 * n);
        x.force(1 - n);
        due("VERSION 0 of " + n, x.version(0, 0) * 100 + x.version(0, 1) * 10 + x.version(0, 2), n * 110 - 1);
        due("VERSION 2 of " + n, x.version(2, 0) * 100 + x.version(2, 1) * 10 + x.version(2, 2), n == 0 ? 10 : 1);
        due("RULES of " + n, x.version(0, 3) * 100 + x.version(2, 3), 1801);
        // CUES 0 0 stay in STATE 0, which says 0; at CUES 2 1 a 3 is said, then it STOPS: PART 0 has no RULE at CUE 1.
        due("CUES of " + n, x.stops(n), n == 0 ? -1 : 1);
        due("first CUE of " + n, x.says(n, 0), n == 0 ? 0 : 3);
        // 0, 1 in one ROW; a 1 in each of two.
        due("DEEDS of " + n, x.judge(0), 1 - n);
        due("ROWS of DEEDS of " + n, x.least(0), 2 - n);
    }

    // "IMAGES stay", and a call behind BACK changes none of them.
    static void p47ImagesStay() {
        DeadUnderstudies x = town();
        x.image(0);
        x.part(0, 1);
        x.image(1);
        for (int i = 0; i < 2; i++) {
            x.back(0);
            due("PARTS of IMAGE 0", x.count(0), 2);
            x.rule(0, 0, 0, 9, 0);
            x.person(0, 1, 1);
            x.back(1);
            due("PARTS of IMAGE 1", x.count(0), 3);
            due("PEOPLE of IMAGE 1", x.count(1), 2);
            due("RULE of IMAGE 1", x.of(0, 0, 0, 0), 5);
            x.rule(0, 0, 0, 8, 0);
        }
    }

    // An IMAGE that is kept anew is the newer one; the other one stays.
    static void p46KeptAnew() {
        DeadUnderstudies x = town();
        x.image(0);
        x.image(1);
        x.cue(1);
        x.image(0);
        x.cue(2);
        x.back(0);
        due("the newer", x.count(4), 2);
        x.back(1);
        due("the other one", x.count(4), 1);
    }

    // "IMAGES 0, 1 keep all but the TAPE, FAULT, PRATTLE, the latest CENTURY"
    static void p46KeepNot() {
        DeadUnderstudies x = town();
        x.feed(-1, -1, -1, -1, 0);
        x.image(0);
        x.row(0);
        x.century(5, 0, 3);
        Checks.play(x, 0, "in x");
        Checks.tape(x, "abc");
        x.back(0);
        due("TAPE", x.count(6), 3);
        due("FAULT", x.fault(), 3);
        due("PRATTLE", x.prattle(), 4);
        due("CENTURY", x.drawn(0, 0, 1) + x.drawn(1, 0, 1), 3);
        due("CENTURY's WORD", x.drawn(0, 0, 0) < 0 ? 1 : 0, 0);
    }

    // "how many calls were REFUSED .. (IMAGES do not keep that)"
    static void p48RefusedStaysAtBack() {
        DeadUnderstudies x = town();
        x.image(0);
        x.cue(6);
        x.begin(9, 9);
        x.learn(0, 0, 0);
        for (int i = 0; i < 12; i++) x.cue(0);
        x.end(0);
        x.row(0);
        x.back(0);
        for (int what = 7; what <= 11; what++) due("count " + what, x.count(what), 1);
    }

    // "7 .. 11 how many calls were REFUSED by -1, -2, -3, -5, -6"
    static void p48Refused() {
        DeadUnderstudies x = town();
        IntSupplier[] calls = {() -> x.cue(6), () -> x.begin(9, 9), () -> x.learn(0, 0, 0), () -> x.begin(0, 0),
            () -> x.row(0)};
        int[] by = {-1, -2, -3, -5, -6};
        for (int i = 2; i < 12; i++) x.begin(0, 0);
        for (int i = 0; i < 5; i++) {
            for (int k = 0; k <= i; k++) due("call " + i, calls[i].getAsInt(), by[i]);
        }
        for (int what = 7; what <= 11; what++) due("count " + what, x.count(what), what - 6);
    }

    // "0 PARTS, 1 PEOPLE, 2 VERSIONS, 3 LAWS, 4 CUES, 5 DEEDS": none, and all that there is room for.
    static void p48Counts() {
        DeadUnderstudies x = new DeadUnderstudies();
        for (int what = 0; what <= 6; what++) due("none, count " + what, x.count(what), 0);
        int[] rooms = {6, 8, 12, 6, 12, 12};
        for (int i = 0; i < 13; i++) {
            x.part(0, 24);
            x.person(0, 9, 1);
            x.begin(0, 0);
            Checks.law(x, "bars");
            x.cue(0);
            x.deed(0, 0, 0);
            for (int what = 0; what < 6; what++) due("count " + what, x.count(what), Math.min(i + 1, rooms[what]));
        }
    }

    // "6 bytes of the TAPE"
    static void p48BytesOfTheTape() {
        DeadUnderstudies x = town();
        for (int i = 1; i <= 20; i++) {
            x.feed(0, 0, 0, 0, 0);
            due("bytes", x.count(6), 20 * i);
        }
        x.feed(0, 0, 0, 0, 0);
        due("bytes", x.count(6), 400);
        x.end(399);
        due("bytes", x.count(6), 399);
        x.row(0);
        due("bytes", x.count(6), 0);
    }

    // "12 the LAW in FORCE, 13 .. 15 TERMS 0 .. 2. NONE for others."
    static void p48ForceAndTerms() {
        DeadUnderstudies x = town();
        x.terms(0, 300);
        x.terms(1, 9);
        x.terms(2, 100);
        int[] counts = {0, 300, 9, 100};
        for (int i = 0; i < 4; i++) due("count " + (12 + i), x.count(12 + i), counts[i]);
        x.force(-1);
        due("none in FORCE", x.count(12), -1);
        Checks.noneBeyond("count", what -> x.count(what), 0, 15);
    }

    // "0 if it was not, or ahead of any"
    static void p49AheadOfAny() {
        DeadUnderstudies x = new DeadUnderstudies();
        due("status", x.status(), 0);
        x.of(0, 0, 0, 0);
        x.end(1);
        x.count(99);
        due("status", x.status(), 0);
    }

    // "What the latest call of part, rule, .. was REFUSED by": of these eighteen, here each is REFUSED ..
    static void p49CallsThatAreRefused() {
        DeadUnderstudies x = town();
        Checks.refused(x, "part", i -> x.part(0, 0), -1);
        Checks.refused(x, "rule", i -> x.rule(9, 0, 0, 0, 0), -2);
        Checks.refused(x, "hush", i -> x.hush(0, 6, 0), -1);
        Checks.refused(x, "person", i -> x.person(0, 0, 0), -1);
        Checks.refused(x, "put", i -> x.put(9, 1, 1), -2);
        Checks.refused(x, "terms", i -> x.terms(3, 0), -1);
        Checks.refused(x, "row", i -> x.row(0), -6);
        Checks.refused(x, "play", i -> x.play(9), -2);
        Checks.refused(x, "law", i -> x.law(), -6);
        Checks.refused(x, "force", i -> x.force(9), -2);
        Checks.refused(x, "cue", i -> x.cue(6), -1);
        Checks.refused(x, "begin", i -> x.begin(0, 9), -2);
        Checks.refused(x, "learn", i -> x.learn(0, 0, 0), -3);
        Checks.refused(x, "century", i -> x.century(0, 9, 0), -2);
        Checks.refused(x, "deed", i -> x.deed(0, 0, 10), -1);
        Checks.refused(x, "image", i -> x.image(2), -1);
        Checks.refused(x, "back", i -> x.back(1), -2);
        x.undo();
        x.undo();
        Checks.refused(x, "undo", i -> x.undo(), -3);
    }

    // .. and here each is taken: then status is 0, also where its answer is NONE.
    static void p49CallsThatAreTaken() {
        DeadUnderstudies x = town();
        IntSupplier[] calls = {() -> x.part(0, 1), () -> x.rule(0, 5, 5, 0, 0), () -> x.hush(0, 4, 4),
            () -> x.person(0, 1, 1),
            () -> x.put(0, 1, 1), () -> x.terms(0, 0), () -> x.row(0), () -> x.play(0), () -> x.law(), () -> x.force(-1),
            () -> x.force(-1), () -> x.cue(0), () -> x.begin(0, 0), () -> x.learn(0, 1, -1), () -> x.undo(),
            () -> x.century(0, 0, 0), () -> x.deed(0, 0, 0), () -> x.image(0), () -> x.back(0)};
        for (int i = 0; i < calls.length; i++) {
            x.feed(0, 0, 0, 0, 0);
            if (i == 7) Checks.tape(x, "in 0 at 0 hush");
            if (i == 8) Checks.tape(x, "bars");
            x.cue(6);
            due("ahead of call " + i, x.status(), -1);
            calls[i].getAsInt();
            due("behind call " + i, x.status(), 0);
        }
    }

    // All other calls leave status and the counts of what was REFUSED as they are, whatever they answer.
    static void p49OtherCalls() {
        for (int number : new int[] {-1, 0, 99}) {
            DeadUnderstudies x = town();
            x.deed(0, 0, 10);
            int n = number;
            IntSupplier[] calls = {() -> x.of(n, n, n, n), () -> x.stage(n, n), () -> x.fact(n, n), () -> x.feed(n, n,
                n, n, n),
                () -> x.end(n), () -> x.prattle(), () -> x.fault(), () -> x.asks(n, n, n, n), () -> x.version(n, n),
                () -> x.knows(n, n, n, n), () -> x.says(n, n), () -> x.stops(n), () -> x.apart(n, n, n), () -> x.trap(n, n),
                () -> x.talk(n, n, n, n), () -> x.mends(n, n, n, n), () -> x.vote(n, n), () -> (int) x.drift(n, n),
                () -> x.origin(n, n, n), () -> (int) x.origins(n, n), () -> x.chain(n, n, n), () -> x.cast(n),
                    () -> x.judge(n),
                () -> x.least(n), () -> x.would(n, n), () -> x.drawn(n, n, n), () -> x.count(n), () -> x.still(),
                    () -> x.forget()};
            for (int i = 0; i < calls.length; i++) {
                calls[i].getAsInt();
                due("status behind call " + i + " of " + n, x.status(), -1);
            }
            due("counts behind calls of " + n, x.count(7) + x.count(8) + x.count(9) + x.count(10) + x.count(11), 1);
        }
    }

    // "An object is used for at most 512 calls": the last one is answered as the first ones are.
    static void p48FiveHundredAndTwelveCalls() {
        DeadUnderstudies x = new DeadUnderstudies();
        for (int i = 1; i < 512; i++) due("call " + i, x.cue(6), -1);
        due("call 512", x.count(7), 511);
    }
}
