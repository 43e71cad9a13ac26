/** Promises 44 and 45: CENTURIES. */
public final class CenturyTest {
    public static void main(String[] args) {
        refused();
        byHand();
        slips();
        withoutPeople();
        latest();
        pupilsBehindBack();
        Checks.close();
    }

    private static void due(String call, long got, long want) {
        Checks.due(call, got, want);
    }

    static DeadUnderstudies town(int people) {
        DeadUnderstudies x = new DeadUnderstudies();
        x.part(0, 24);
        x.part(0, 24);
        for (int i = 0; i < people; i++) x.person(100, 150, 1);
        return x;
    }

    private static void refused() {
        DeadUnderstudies x = town(1);
        due("44: SEED -1", x.century(-1, 0, 0), -1);
        due("44: SEED 1,000,001", x.century(1000001, 0, 0), -1);
        due("44: n -1", x.century(0, 0, -1), -1);
        due("44: n 101", x.century(0, 0, 101), -1);
        due("44: -1 ahead of -2", x.century(0, 2, 101), -1);
        due("44: no PART", x.century(0, 2, 0), -2);
        due("44: PART -1", x.century(0, -1, 0), -2);
        due("45: none yet", x.drawn(0, 0, 1), -1);
        due("44: the edges", x.century(1000000, 1, 100), 0);
        due("44: status", x.status(), 0);
        due("45: 100 lessons", x.drawn(0, 0, 1), 100);
    }

    private static void byHand() {
        // From 5 the DRAWS are 17860 (of 4: 0), then for a RULE each 711868 (of 100: 68) and 200394 (94).
        DeadUnderstudies x = town(4);
        x.rule(0, 0, 0, 9, 1);
        x.rule(0, 3, 2, 4, 1);
        x.terms(2, 69);
        due("44: one of two", x.century(5, 0, 1), 1);
        due("45: 0 behind 9", x.drawn(0, 0, 0), 0);
        due("45: the other", x.drawn(3, 2, 0), 4);
        due("45: a HOLE", x.drawn(1, 1, 0), -1);
        due("45: the pupil", x.drawn(0, 0, 1), 1);
        due("45: no pupil", x.drawn(1, 0, 1), 0);
        due("45: CUE 1", x.drawn(0, 1, 1), -1);
        due("45: no PERSON", x.drawn(4, 0, 1), -1);
        due("45: PERSON -1", x.drawn(-1, 0, 1), -1);
        due("45: what 2", x.drawn(0, 0, 2), -1);
        due("45: STATE 6", x.drawn(6, 0, 0), -1);
        due("45: CUE -1", x.drawn(0, -1, 0), -1);
        due("44: on paper", x.of(0, 0, 0, 0), 9);
        x.terms(2, 68);
        due("44: not below", x.century(5, 0, 1), 0);
        x.terms(2, 95);
        due("44: both", x.century(5, 0, 1), 2);
        long s = 5;
        int[] pupils = new int[4];
        for (int lesson = 0; lesson < 100; lesson++) {
            s = (s * 1103 + 12345) % 1000003;
            pupils[(int) (s % 4)]++;
            for (int i = 0; i < 2; i++) s = (s * 1103 + 12345) % 1000003;
        }
        x.century(5, 0, 100);
        for (int p = 0; p < 4; p++) due("45: pupil " + p, x.drawn(p, 0, 1), pupils[p]);
    }

    private static void slips() {
        DeadUnderstudies x = town(1);
        Checks.play(x, 0, "in any at any say cue");
        x.terms(2, 100);
        due("44: always", x.century(7, 0, 3), 36);
        due("45: three more", x.drawn(2, 5, 0), 8);
        due("44: ten are none", x.century(7, 0, 10), 0);
        due("44: n 0", x.century(7, 0, 0), 0);
        due("45: no lesson", x.drawn(0, 0, 1), 0);
        x.terms(0, 77);
        x.force(Checks.law(x, "slips 0;slips 100 if year = 77 and teacher = 0 - 1 and part = 1 and person = 0"));
        due("44: the LAW, another PART", x.century(7, 0, 3), 0);
        Checks.play(x, 1, "in any at 3 say 5");
        due("44: the LAW", x.century(7, 1, 3), 6);
        x.terms(0, 76);
        due("44: YEAR as told", x.century(7, 1, 3), 0);
    }

    private static void withoutPeople() {
        DeadUnderstudies x = town(0);
        x.rule(0, 0, 0, 3, 0);
        x.terms(2, 100);
        due("44: without PEOPLE", x.century(5, 0, 100), 0);
        due("45: as it was", x.drawn(0, 0, 0), 3);
        due("45: nobody", x.drawn(0, 0, 1), -1);
    }

    private static void latest() {
        DeadUnderstudies x = town(1);
        x.rule(0, 0, 0, 3, 0);
        x.rule(1, 0, 0, 7, 0);
        x.image(0);
        x.century(5, 0, 0);
        due("45: of PART 0", x.drawn(0, 0, 0), 3);
        x.century(5, 1, 0);
        due("45: of PART 1", x.drawn(0, 0, 0), 7);
        x.century(5, 2, 0);
        x.century(-5, 0, 0);
        due("45: not of one REFUSED", x.drawn(0, 0, 0), 7);
        x.back(0);
        due("45: stays at BACK", x.drawn(0, 0, 0), 7);
        x.rule(1, 0, 0, 8, 0);
        due("45: as it was then", x.drawn(0, 0, 0), 7);
    }

    private static void pupilsBehindBack() {
        DeadUnderstudies x = town(1);
        x.image(0);
        x.person(100, 150, 1);
        x.century(5, 0, 100);
        int first = x.drawn(0, 0, 1);
        int second = x.drawn(1, 0, 1);
        due("45: all lessons", first + second, 100);
        x.back(0);
        due("45: who stays at BACK", x.drawn(0, 0, 1), first);
        due("45: who went by BACK", x.drawn(1, 0, 1), second);
        due("45: nobody then and now", x.drawn(2, 0, 1), -1);
        due("45: PERSON -1", x.drawn(-1, 0, 1), -1);
        due("45: PERSON 8", x.drawn(8, 0, 1), -1);
        x.person(100, 150, 1);
        x.person(100, 150, 1);
        due("45: who came behind it", x.drawn(2, 0, 1), 0);
        x.century(5, 0, 0);
        x.back(0);
        due("45: of the latest CENTURY", x.drawn(1, 0, 1) * 10 + x.drawn(2, 0, 1), 0);
        due("45: nobody then and now", x.drawn(3, 0, 1), -1);
    }
}
