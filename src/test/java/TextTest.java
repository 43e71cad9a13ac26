/** Promises 15 to 19: PLAYS, LAWS and their FAULTS. */
public final class TextTest {
    public static void main(String[] args) {
        play();
        playOrder();
        playValues();
        broken();
        law();
        faultOfTokens();
        faultOfLimits();
        force();
        asks();
        lawWords();
        Checks.close();
    }

    private static void due(String call, long got, long want) {
        Checks.due(call, got, want);
    }

    private static DeadUnderstudies town() {
        DeadUnderstudies x = new DeadUnderstudies();
        x.part(0, 24);
        x.part(0, 24);
        x.person(0, 50, 4);
        x.person(10, 60, 3);
        return x;
    }

    private static void play() {
        DeadUnderstudies x = town();
        due("15: all RULES", Checks.play(x, 0, "in any at any say 3"), 36);
        due("15: the TAPE is empty", x.count(6), 0);
        due("15: the STATE itself", x.of(0, 4, 2, 1), 4);
        due("15: one RULE", Checks.play(x, 0, "in 2 at 5 say 7 go 1"), 1);
        due("15: that", x.of(0, 2, 5, 0) * 10 + x.of(0, 2, 5, 1), 71);
        due("15: one STATE", Checks.play(x, 0, "in 2 at any hush"), 6);
        due("15: HOLES", x.stage(0, 2), 30);
        due("15: HOLES once more, each time", Checks.play(x, 0, "in any at 1 hush;in 2 at any hush"), 12);
        due("15: no RULE", Checks.play(x, 0, "in any at any hush if 1 = 2"), 0);
        due("15: without blanks", Checks.play(x, 0, "in0at0say[1+1]*2go 05if(1=1)"), 1);
        due("15: that", x.of(0, 0, 0, 0) * 10 + x.of(0, 0, 0, 1), 45);
        Checks.tape(x, "in any at any hush");
        due("15: no PART", x.play(2), -2);
        due("15: the TAPE stays", x.count(6), 18);
        due("15: PART -1", x.play(-1), -2);
        due("15: on the other PART", x.play(1), 36);
        due("15: blanks alone", Checks.play(x, 0, "   "), -6);
        due("17: of blanks", x.fault(), 3);
        due("15: the TAPE is empty then", x.count(6), 0);
        due("15: nothing", x.play(0), -6);
        due("17: of nothing", x.fault(), 0);
        due("15: a FAULT behind a CLAUSE", Checks.play(x, 0, "in 0 at 0 say 9; in"), -6);
        due("15: runs nothing", x.of(0, 0, 0, 0), 4);
    }

    private static void playOrder() {
        DeadUnderstudies x = town();
        due("15: CLAUSE by CLAUSE", Checks.play(x, 0, "in 0 at any say cue;in 0 at any say word + 1 if word > 1"), 10);
        due("15: twice", x.of(0, 0, 5, 0), 6);
        due("15: once", x.of(0, 0, 1, 0), 1);
        x.rule(0, 1, 0, 4, 2);
        due("15: both of the RULE as it was", Checks.play(x, 0, "in 1 at 0 say next go word"), 1);
        due("15: WORD of the STATE, STATE of the WORD", x.of(0, 1, 0, 0) * 10 + x.of(0, 1, 0, 1), 24);
        due("15: a HOLE has -1 and -1", Checks.play(x, 0, "in 5 at 5 say 2 - word go 1 - next"), 1);
        due("15: that", x.of(0, 5, 5, 0) * 10 + x.of(0, 5, 5, 1), 32);
        due("15: hushed and said anew", Checks.play(x, 0, "in 0 at 3 hush; in 0 at 3 say 5 if word = 0 - 1"), 2);
        due("15: that", x.of(0, 0, 3, 0), 5);
    }

    private static void playValues() {
        DeadUnderstudies x = town();
        x.terms(1, 6);
        Checks.play(x, 1, "in 3 at 4 say state go cue;in 3 at 5 say part go part;in 3 at 3 say mood go mood");
        due("15: state, cue", x.of(1, 3, 4, 0) * 10 + x.of(1, 3, 4, 1), 34);
        due("15: part", x.of(1, 3, 5, 0) * 10 + x.of(1, 3, 5, 1), 11);
        due("15: mood, the nearest STATE", x.of(1, 3, 3, 0) * 10 + x.of(1, 3, 3, 1), 65);
        Checks.play(x, 1, "in 0 at 0 say 10 go 6;in 0 at 1 say 0-1 go 0-1;in 0 at 2 say 9 go 5");
        due("15: the nearest above", x.of(1, 0, 0, 0) * 10 + x.of(1, 0, 0, 1), 95);
        due("15: the nearest below", x.of(1, 0, 1, 0) * 10 + x.of(1, 0, 1, 1), 0);
        due("15: just so", x.of(1, 0, 2, 0) * 10 + x.of(1, 0, 2, 1), 95);
        due("15: * ahead of +", says(x, "2+3*4-6"), 8);
        due("15: from the left", says(x, "9-3-2"), 4);
        due("15: / and % from the left", says(x, "17/5%2"), 1);
        due("15: cut towards 0", says(x, "5+[0-7]/2"), 2);
        due("15: what is left then", says(x, "5+[0-7]%4"), 2);
        due("15: [ ]", says(x, "[1+2]*[4-1]"), 9);
        due("15: 1000", says(x, "1000-999"), 1);
        due("15: or behind and", tests(x, "1=1 or 1=1 and 1=2"), 1);
        due("15: ( )", tests(x, "(1=1 or 1=1) and 1=2"), 0);
        due("15: not of the first alone", tests(x, "not 1=2 and 1=2"), 0);
        due("15: not not", tests(x, "not not 1=1"), 1);
        due("15: not ( )", tests(x, "not (1=2 and 1=2)"), 1);
        due("15: <", tests(x, "1<2") * 100 + tests(x, "2<2") * 10 + tests(x, "3<2"), 100);
        due("15: >", tests(x, "1>2") * 100 + tests(x, "2>2") * 10 + tests(x, "3>2"), 1);
        due("15: =", tests(x, "1=2") * 100 + tests(x, "2=2") * 10 + tests(x, "3=2"), 10);
    }

    /** The WORD that a SUM makes, NONE where it is BROKEN. */
    private static int says(DeadUnderstudies x, String sum) {
        x.hush(0, 0, 0);
        Checks.play(x, 0, "in 0 at 0 say " + sum);
        return x.of(0, 0, 0, 0);
    }

    /** 1 if a TEST is so, else 0. */
    private static int tests(DeadUnderstudies x, String test) {
        return Checks.play(x, 0, "in 0 at 0 say 1 if " + test);
    }

    private static void broken() {
        DeadUnderstudies x = town();
        due("15: divided by 0", says(x, "1/0"), -1);
        due("15: % 0", says(x, "1%0"), -1);
        due("15: 0 times it, too", says(x, "0*[1/0]"), -1);
        due("15: 1,000,000,000", says(x, "1000*1000*1000-1000*1000*1000+4"), 4);
        due("15: beyond it", says(x, "1000*1000*1000+1-1"), -1);
        due("15: 1,000,000,000 below", says(x, "0-1000*1000*1000+1000*1000*1000+4"), 4);
        due("15: beyond it below", says(x, "0-1000*1000*1000-1+1"), -1);
        due("15: times", says(x, "1000*1000*1000*1000*0"), -1);
        due("15: the RULE stays", Checks.play(x, 0, "in 1 at 1 say 4 go 2;in 1 at 1 say 1/0;in 1 at 1 say 5 go 1/0"), 1);
        due("15: WORD stays", x.of(0, 1, 1, 0) * 10 + x.of(0, 1, 1, 1), 42);
        due("15: hush with a BROKEN if", Checks.play(x, 0, "in 1 at 1 hush if 1/0=1"), 0);
        due("15: not BROKEN", tests(x, "not 1/0=1"), 0);
        due("15: or asks no more", tests(x, "1=1 or 1/0=1"), 1);
        due("15: or asks on", tests(x, "1=2 or 1/0=1"), 0);
        due("15: BROKEN ahead of or", tests(x, "1/0=1 or 1=1"), 0);
        due("15: and asks no more", tests(x, "not (1=2 and 1/0=1)"), 1);
        due("15: and asks on", tests(x, "not (1=1 and 1/0=1)"), 0);
        due("15: or behind and that asks no more", tests(x, "1=2 and 1/0=1 or 1=1"), 1);
        due("15: three with or", tests(x, "1=2 or 1=1 or 1/0=1"), 1);
        due("15: three with and", tests(x, "not (1=1 and 1=2 and 1/0=1)"), 1);
    }

    private static void law() {
        DeadUnderstudies x = town();
        due("16: the first", Checks.law(x, "slips 5"), 0);
        due("16: the TAPE is empty", x.count(6), 0);
        due("16: a FAULT", Checks.law(x, "slips"), -6);
        due("17: its place", x.fault(), 5);
        due("16: blanks", Checks.law(x, " "), -6);
        due("17: of blanks", x.fault(), 1);
        due("16: none came", x.count(3), 1);
        for (int i = 1; i < 6; i++) due("16: number " + i, Checks.law(x, "bars if person = 1;hours 2"), i);
        due("17: without", x.fault(), -1);
        due("16: no room", Checks.law(x, "slips"), -5);
        due("16: status", x.status(), -5);
        due("16: the TAPE is empty then, too", x.count(6), 0);
        due("17: was not read", x.fault(), -1);
        due("15: a PLAY", Checks.play(x, 0, "in"), -6);
        due("16: no room", Checks.law(x, "slips 1"), -5);
        due("17: of the PLAY still", x.fault(), 2);
        x.play(9);
        due("17: REFUSED by -2, not read", x.fault(), 2);
    }

    private static void faultOfTokens() {
        DeadUnderstudies x = town();
        String[] plays = {"in", "on 1", " 1", "in 6 at 0 say 1", "in 99999999999 at 0 say 1", "in state at 0 say 1",
            "in 0 0", "in 0 at 6 say 1", "in 0 at any go 1", "in 0 at 0 say", "in 0 at 0 say 1001", "in 0 at 0 say year",
            "in 0 at 0 say (1)", "in 0 at 0 say 1 2", "in 0 at 0 say 1 = 1", "in 0 at 0 say 1 go", "in 0 at 0 say 1 go 2 go 3",
            "in 0 at 0 hush go 1", "in 0 at 0 hush if", "in 0 at 0 hush if 1", "in 0 at 0 hush if 1 + 2 ;",
            "in 0 at 0 hush if 1 = ", "in 0 at 0 hush if 1 = 2 = 3", "in 0 at 0 hush if (1 + 2) = 3",
            "in 0 at 0 hush if [1 = 2]", "in 0 at 0 hush if ((1 = 2) and", "in 0 at 0 hush if (1 = 2",
            "in 0 at 0 hush if 1 = 2)", "in 0 at 0 hush if not", "in 0 at 0 hush if 1 = 2 and or", "in 0 at 0 hush;",
            "in 0 at 0 hush;;", "in 0 at 0 hush if 1 = 2 if 1 = 2", "in 0 at 0 Say 1", "inn 0 at 0 hush", "in 0 at 0 say 1]",
            "in 0 at 0 say [1", "in 0 at 0 say [1)", "in 0 at 0 hush if (1 = 2]", "in 0 at 0 say 1\n", "in 0 at 0 hush  ;  ",
            "in 0 at 0 hush if (1 = 2) + 3", "in 0 at 0 hush if 1 < not 2", "in 0 at 0 say -1", "in 0 at 0 say 1 + * 2",
            "in 0 at 0 hush if (1 = 2) = 3", "in 0 at 0 hush if 2 * (1 = 2)", "in 0 at 0 say 2 if [(1 = 2)]"};
        int[] faults = {2, 0, 1, 3, 3, 3, 5, 8, 12, 13, 14, 14, 14, 16, 16, 18, 21, 15, 17, 19, 24, 22, 24, 24, 21, 30, 24,
            23, 21, 28, 15, 15, 24, 10, 0, 15, 16, 16, 24, 15, 19, 26, 22, 14, 18, 26, 22, 20};
        for (int i = 0; i < plays.length; i++) due("17: " + plays[i], Checks.faultOfPlay(x, plays[i]), faults[i]);
        due("17: letters to z", Checks.faultOfPlay(x, "inz 0"), 0);
        due("17: letters from a", Checks.faultOfPlay(x, "ina 0"), 0);
        due("17: ahead of a", Checks.faultOfPlay(x, "in` 0"), 2);
        due("17: behind z", Checks.faultOfPlay(x, "in{ 0"), 2);
        due("17: digits to 9", Checks.faultOfPlay(x, "in 0 at 0 say 1 go 19 2"), 22);
        due("17: behind 9", Checks.faultOfPlay(x, "in 0 at 0 say 1 go 1:2"), 20);
        due("17: ahead of 0", Checks.faultOfPlay(x, "in 0 at 0 say 1 go 1/"), 21);
        String[] laws = {"slip 1", "slips", "slips state", "hours 1001", "bars 1", "bars if year", "slips 1 go 2",
            "slips 1 if year = 2 ; bars ; in", "hours 1 hours 2", "slips word", "bars if \u00e9 = 1", "slips[1]if(mood=teacher)x"};
        int[] lawFaults = {0, 5, 6, 6, 5, 12, 8, 29, 8, 6, 8, 24};
        for (int i = 0; i < laws.length; i++) due("17: " + laws[i], Checks.faultOfLaw(x, laws[i]), lawFaults[i]);
    }

    private static void faultOfLimits() {
        DeadUnderstudies x = town();
        String twelve = "in 0 at 0 hush" + ";in 0 at 0 hush".repeat(11);
        due("17: 12 CLAUSES", Checks.faultOfPlay(x, twelve), -1);
        due("17: 13 CLAUSES", Checks.faultOfPlay(x, twelve + "; in 0 at 0 hush"), twelve.length() + 2);
        due("17: 12 and a ;", Checks.faultOfPlay(x, twelve + ";"), twelve.length() + 1);
        String fifty = "in 0 at 0 say 0" + "+1".repeat(24) + ";in 0 at 0 say word" + "+cue".repeat(24);
        due("17: 50 PARTS, S and C aside", Checks.faultOfPlay(x, fifty), -1);
        due("17: 51 PARTS", Checks.faultOfPlay(x, fifty + " + 1"), fifty.length() + 3);
        due("17: 51 in an if", Checks.faultOfPlay(x, fifty + " if [1=1"), fifty.length() + 5);
        due("17: no blank between letters", Checks.faultOfPlay(x, fifty + "if"), fifty.length() - 3);
        due("17: a bracket behind 50", Checks.faultOfPlay(x, fifty + "+[[1"), fifty.length() + 3);
        due("17: 8 [", Checks.faultOfPlay(x, "in 0 at 0 say [[[[[[[[1]]]]]]]]"), -1);
        due("17: 9 [", Checks.faultOfPlay(x, "in 0 at 0 say [[[[[[[[[1]]]]]]]]]"), 22);
        due("17: 8 of both", Checks.faultOfPlay(x, "in 0 at 0 hush if (((([[[[1]]]]=1))))"), -1);
        due("17: 9 of both", Checks.faultOfPlay(x, "in 0 at 0 hush if (((([[[[[1]]]]=1))))"), 26);
        due("17: 9 (", Checks.faultOfPlay(x, "in 0 at 0 hush if ((((((((("), 26);
        due("17: many beside one another", Checks.faultOfPlay(x, "in 0 at 0 say [1]" + "+[1]".repeat(20)), -1);
        due("17: eighty not", tests(x, "not ".repeat(80) + "1=1"), 1);
        due("17: eighty-one not", tests(x, "not ".repeat(81) + "1=1"), 0);
        due("17: 0001000", Checks.faultOfPlay(x, "in 00 at 005 say 0001000"), -1);
    }

    private static void force() {
        DeadUnderstudies x = town();
        due("18: no LAW", x.force(0), -2);
        Checks.law(x, "slips 5");
        Checks.law(x, "slips 6");
        due("18: none was", x.force(1), -1);
        due("18: status", x.status(), 0);
        due("18: the second", x.asks(0, 0, -1, 0), 6);
        due("18: it was", x.force(0), 1);
        due("18: in FORCE", x.count(12), 0);
        due("18: LAW 2", x.force(2), -2);
        due("18: LAW -2", x.force(-2), -2);
        due("18: none from here on", x.force(-1), 0);
        due("18: SLIP", x.asks(0, 0, -1, 0), 10);
    }

    private static void asks() {
        DeadUnderstudies x = town();
        x.terms(2, 33);
        due("19: SLIP", x.asks(0, 0, -1, 0), 33);
        due("19: HOURS", x.asks(0, 0, -1, 1), 1);
        due("19: BARRED", x.asks(0, 0, -1, 2), 0);
        due("19: no PERSON", x.asks(2, 0, -1, 0), -1);
        due("19: PERSON -1", x.asks(-1, 0, -1, 0), -1);
        due("19: no PART", x.asks(0, 2, -1, 0), -1);
        due("19: no teacher", x.asks(0, 0, 2, 0), -1);
        due("19: teacher -2", x.asks(0, 0, -2, 0), -1);
        due("19: himself", x.asks(0, 0, 0, 0), 33);
        due("19: what 3", x.asks(0, 0, -1, 3), -1);
        due("19: what -1", x.asks(0, 0, -1, -1), -1);
        x.force(Checks.law(x, "slips 1;slips 101 if person=1;slips 5/0;hours 100;hours 3 if 1=2;bars if teacher=0"));
        due("19: the last that HOLDS", x.asks(0, 0, -1, 0), 1);
        due("19: the nearest", x.asks(1, 0, -1, 0), 100);
        due("19: HOURS to 99", x.asks(0, 0, -1, 1), 99);
        due("19: not BARRED", x.asks(1, 0, -1, 2), 0);
        due("19: BARRED", x.asks(1, 0, 0, 2), 1);
        x.force(Checks.law(x, "slips 0-1;hours 0-5;bars if 1/0=1;bars if 1=1;bars if 1=2"));
        due("19: SLIPS not below 0", x.asks(0, 0, -1, 0), 0);
        due("19: HOURS not below 0", x.asks(0, 0, -1, 1), 0);
        due("19: one bars", x.asks(0, 0, -1, 2), 1);
        x.force(Checks.law(x, "bars if 1/0=1;hours 7 if 1/0=1"));
        due("19: BROKEN", x.asks(0, 0, -1, 2), 0);
        due("19: BROKEN HOURS", x.asks(0, 0, -1, 1), 1);
        x.force(Checks.law(x, "bars"));
        due("19: all are", x.asks(0, 0, -1, 2), 1);
    }

    private static void lawWords() {
        DeadUnderstudies x = town();
        x.terms(0, 77);
        x.terms(1, 8);
        String[] words = {"person", "memory", "born", "dead", "part", "teacher", "year", "mood"};
        int[] values = {1, 3, 10, 60, 1, 0, 77, 8};
        for (int i = 0; i < words.length; i++) {
            if (i == 6) x.back(0);
            x.image(0);
            x.force(Checks.law(x, "slips " + words[i]));
            due("19: " + words[i], x.asks(1, 1, 0, 0), values[i]);
            x.back(0);
        }
        x.force(Checks.law(x, "slips teacher + 5"));
        due("19: no teacher is -1", x.asks(1, 1, -1, 0), 4);
    }
}
