/** Terms II and promise 17 at their edges, a method for each sentence: what TEXTS are, FAULTS, BROKEN SUMS and TESTS. */
public final class TextEdgesTest {
    private static final String SAY = "in 0 at 0 say ";
    private static final String IF = "in 0 at 0 hush if ";

    public static void main(String[] args) {
        Checks.sentences(TextEdgesTest.class);
    }

    private static void due(String call, long got, long want) {
        Checks.due(call, got, want);
    }

    private static DeadUnderstudies town() {
        DeadUnderstudies x = new DeadUnderstudies();
        x.part(0, 24);
        x.person(0, 9, 1);
        return x;
    }

    private static void fits(String play) {
        due("FAULT of " + play, Checks.faultOfPlay(town(), play), -1);
    }

    /** FAULT at the beginning of what stands behind. */
    private static void fault(String ahead, String behind) {
        due("FAULT of " + ahead + behind, Checks.faultOfPlay(town(), ahead + behind), ahead.length());
    }

    private static void fitsLaw(String law) {
        due("FAULT of " + law, Checks.faultOfLaw(town(), law), -1);
    }

    private static void faultLaw(String ahead, String behind) {
        due("FAULT of " + ahead + behind, Checks.faultOfLaw(town(), ahead + behind), ahead.length());
    }

    /** The WORD that a SUM makes, NONE where it is BROKEN. */
    private static int says(String sum) {
        DeadUnderstudies x = town();
        Checks.play(x, 0, SAY + sum);
        return x.of(0, 0, 0, 0);
    }

    private static void saysDue(String sum, int word) {
        due(sum, says(sum), word);
    }

    /** 1: it is so; 0: it is not; NONE: it is BROKEN, as its "not" is no more so. */
    private static int tests(String test) {
        int is = Checks.play(town(), 0, IF + test);
        int isNot = Checks.play(town(), 0, IF + "not (" + test + ")");
        return is + isNot == 1 ? is : is + isNot == 0 ? -1 : -100;
    }

    private static void testDue(String test, int is) {
        due(test, tests(test), is);
    }

    // "TEXTS are on a TAPE of at most 400 bytes."
    static void t2FourHundredBytes() {
        String all = SAY + "1" + " ".repeat(400 - SAY.length() - 5) + "go 5";
        due("length", all.length(), 400);
        DeadUnderstudies x = town();
        due("all of them", Checks.play(x, 0, all), 1);
        due("the last one is read", x.of(0, 0, 0, 1), 5);
        fault(all.substring(0, 399), "x");
        fault(SAY + " ".repeat(400 - SAY.length()), "");
        due("400 blanks", Checks.faultOfPlay(town(), " ".repeat(400)), 400);
    }

    // "longest rows of letters a .. z"
    static void t2RowsOfLetters() {
        fits("in any at any hush");
        fault("", "inany at any hush");
        fault("in any at any ", "hushif 1=1");
        for (char other : new char[] {'`', '{', 'A', 'Z', '_', (char) 225, (char) 255}) {
            fault("in", other + " any at any hush");
        }
        faultLaw("", "barsz");
        faultLaw("", "abars");
        fits(SAY + "1 go 1if 1=1");
    }

    // "of digits"
    static void t2RowsOfDigits() {
        fits("in0at5say10go05");
        fault("in ", "05" + "0 at 0 hush");
        fault("in 5 ", "0 at 0 hush");
        fault(SAY + "0", ":");
        fault(SAY + "9/", "");
        fits(SAY + "0123");
        fault(SAY, "0123456789");
    }

    // "single other bytes": each for itself, also where they stand side by side.
    static void t2SingleOtherBytes() {
        fault(IF + "1=", "=1");
        fault(IF + "1<", ">1");
        fault("in 0 at 0 hush;", ";in 0 at 0 hush");
        fits(IF + "((1=[[1]]))");
        for (int b : new int[] {0, 9, 10, 13, 31, 33, 127, 128, 160, 255}) fault(SAY + "1 ", (char) b + "");
    }

    // "any blanks (32) between": none, many, ahead and behind.
    static void t2AnyBlanksBetween() {
        fits("   in   0   at   0   say   1   go   2   if   1   =   1   ");
        fits("in0at0say1go2if1=1");
        fault(SAY + "1 ", "2");
        fault("", "i n 0 at 0 hush");
        fault("in 0 at 0 ", "hu sh");
    }

    // "CLAUSE {";" CLAUSE}, 12 at most (FAULT at the 13th's first TOKEN)"
    static void t2TwelveClauses() {
        String twelve = "in 0 at 0 say 1" + ";in 0 at 0 say 1".repeat(11);
        due("twelve", Checks.play(town(), 0, twelve), 12);
        fault(twelve + ";", "in 0 at 0 say 1");
        fault(twelve + ";  ", "x");
        fault(twelve + ";", "");
        fault(twelve + "; ", "");
        fault(twelve.substring(0, twelve.length() - 1), "");
        String laws = "bars" + ";bars".repeat(11);
        fitsLaw(laws);
        faultLaw(laws + "; ", "bars");
        faultLaw(laws + ";", "");
    }

    static void t2OneClauseAtLeast() {
        fault("", "");
        fault(" ", "");
        fault("", ";in 0 at 0 hush");
        fault("in 0 at 0 hush;", "");
        faultLaw("bars;", "");
        faultLaw("", ";bars");
        fault("in 0 at 0 hush ", "in 0 at 0 hush");
    }

    // "TEST: BOTH {"or" BOTH}. BOTH: PLAIN {"and" PLAIN}."
    static void t2OrAndAnd() {
        fits(IF + "1=1 or 1=2 or 1=3");
        fits(IF + "1=1 and 1=2 and 1=3");
        fault(IF + "1=1 or ", "or 1=1");
        fault(IF + "1=1 and ", "and 1=1");
        fault(IF + "1=1 and ", "");
        fault(IF, "or 1=1");
        fault(IF + "1 ", "or 1=1");
        fault(IF + "1 ", "and 1=1");
        testDue("1=1 or 1=1 and 1=2", 1);
        testDue("1=2 and 1=2 or 1=1", 1);
        testDue("1=2 and 1=1 or 1=2 and 1=1", 0);
        testDue("1=2 or 1=2 or 1=1", 1);
        testDue("1=1 and 1=1 and 1=2", 0);
        testDue("1=1 and (1=2 or 1=1)", 1);
    }

    // "PLAIN: "not" PLAIN | "(" TEST ")" | SUM ("<" | ">" | "=") SUM."
    static void t2Plain() {
        testDue("not 1=2", 1);
        testDue("not not 1=2", 0);
        testDue("not not not 1=2", 1);
        testDue("not 1=2 and 1=2", 0);
        testDue("not 1=1 or 1=1", 1);
        testDue("not (1=1 or 1=1)", 0);
        fault(IF + "not ", "");
        fault(IF + "not ", "and 1=1");
        fault(IF + "1=1 ", "not 1=1");
        fault(IF + "1 = ", "not 1");
        fault(IF + "(1=1", "");
        fault(IF + "(", ")");
        fault(IF + "(1", ")=1");
        fault(IF + "(1=1)", "=1");
        fault(IF + "(1=1)", "+1=1");
        fault(IF + "1=1", ")");
        fault(IF + "1=1", "=1");
        fault(IF + "1", "");
        fault(IF + "1", ";in 0 at 0 hush");
        fault(IF + "1=", ";in 0 at 0 hush");
        fault(IF + "[1", "=1]");
        fault(IF + "1=", "(1)");
        fault(IF + "2*", "(1=2)");
        fault(IF + "1+", "not 1=1");
        fault(IF + "[1]-", "(1=1)");
    }

    static void t2Comparing() {
        int[][] is = {{1, 0, 0}, {0, 1, 0}, {0, 0, 1}};
        String[] signs = {"<", "=", ">"};
        for (int i = 0; i < 3; i++) {
            for (int one = 1; one <= 3; one++) testDue(one + signs[i] + "2", is[i][one - 1]);
        }
        testDue("0-1<0", 1);
        testDue("0-2>0-1", 0);
        testDue("1+1=2*1", 1);
        testDue("[1]=[1]", 1);
    }

    // "SUM: TERM {("+" | "-") TERM}. TERM: PART {("*" | "/" | "%") PART}."
    static void t2SumsAndTerms() {
        saysDue("2+3*2", 8);
        saysDue("2*3+2", 8);
        saysDue("9-3-2", 4);
        saysDue("9-3+2", 8);
        saysDue("16/4/2", 2);
        saysDue("16/4*2", 8);
        saysDue("17%10/2", 3);
        saysDue("9-6/3", 7);
        saysDue("9-[6-3]", 6);
        saysDue("[2+1]*3", 9);
        fault(SAY, "-1");
        fault(SAY, "*1");
        fault(SAY + "1+", "");
        fault(SAY + "1+", "-1");
        fault(SAY + "1*", "/1");
        fault(SAY + "1 ", "[1]");
        fault(SAY + "[", "]");
        fault(SAY + "[1", "");
        fault(SAY + "[1", ")");
        fault(SAY + "1", "]");
        fault(SAY, "(1)");
        fault(SAY + "1 ", "=1");
    }

    // "NUMBER (to 1,000)"
    static void t2NumberTo1000() {
        saysDue("1000-995", 5);
        saysDue("0", 0);
        saysDue("00001000/200", 5);
        fault(SAY, "1001");
        fault(SAY, "2000");
        fault(SAY, "10000");
        fault(SAY, "4294967297");
        fault(SAY, "18446744073709551617");
        fault(SAY + "1 go ", "1001");
        fault(IF + "1=", "1001");
        fitsLaw("slips 1000");
        faultLaw("slips ", "1001");
        faultLaw("hours 1+", "1001");
    }

    // "50 PARTS that are NUMBERS and words (FAULT at the 51st)": in one SUM, in a TEXT in all, brackets aside.
    static void t2FiftyParts() {
        String fifty = SAY + "1" + "+1".repeat(49);
        fits(fifty);
        fault(fifty + "+", "1");
        fault(fifty + "+", "word");
        fault(fifty + "+[", "1]");
        fault(fifty + " go ", "1");
        fault(fifty + " if ", "1=1");
        fits(fifty + ";in 5 at 5 hush");
        fault(fifty + ";in 5 at 5 say ", "1");
        fits(SAY + "word" + "+word".repeat(49));
        fault(SAY + "word" + "+word".repeat(49) + "+", "word");
        fits(SAY + "[1]" + "+[1]".repeat(49));
        fits(IF + "1=1" + " or 1=1".repeat(24));
        fault(IF + "1=1" + " or 1=1".repeat(24) + " or ", "1=1");
        fault(IF + "1=1" + " or 1=1".repeat(23) + " or 1=1+", "1");
        fitsLaw("slips 1" + "+1".repeat(49));
        faultLaw("slips 1" + "+1".repeat(49) + "+", "1");
        faultLaw("slips 1" + "+1".repeat(48) + ";hours 1+", "1");
    }

    // "S, C: NUMBERS 0 .. 5 (not counted)."
    static void t2NumbersOfPlacesAreNotCounted() {
        String fifty = "in 1 at 2 say 1" + "+1".repeat(46) + ";in 3 at 4 say 1;in 5 at 0 say 1;in any at 1 say 1";
        fits(fifty);
        fault(fifty + "+", "1");
    }

    // "8 brackets of both kinds within one another (FAULT at the 9th) at most"
    static void t2EightBrackets() {
        fits(SAY + "[".repeat(8) + "1" + "]".repeat(8));
        fault(SAY + "[".repeat(8), "[1" + "]".repeat(9));
        fits(IF + "(".repeat(8) + "1=1" + ")".repeat(8));
        fault(IF + "(".repeat(8), "(1=1" + ")".repeat(9));
        fits(IF + "(".repeat(7) + "[1]=1" + ")".repeat(7));
        fault(IF + "(".repeat(8), "[1]=1" + ")".repeat(8));
        fits(IF + "not (".repeat(4) + "1=" + "[".repeat(4) + "1" + "]".repeat(4) + ")".repeat(4));
        fault(IF + "(".repeat(4) + "1=" + "[".repeat(4), "[1" + "]".repeat(5) + ")".repeat(4));
    }

    // ".. within one another": one beside the other they are without a limit.
    static void t2BracketsBesideOneAnother() {
        String eight = "[".repeat(8) + "1" + "]".repeat(8);
        fits(SAY + eight + "+" + eight + "*" + eight);
        fault(SAY + eight + "+" + "[".repeat(8), "[1" + "]".repeat(9));
        fits(SAY + eight + " go " + eight + " if " + "(".repeat(8) + "1=1" + ")".repeat(8));
        fits(IF + "(" + "(1=1) or ".repeat(8) + "([1]=[1]))");
    }

    // Each word of the languages is that word alone, letter by letter.
    static void t2WordsLetterByLetter() {
        String[] play = "in 0 at any say word go next if not 1 = 1 or 1 = 1 and cue = state;in any at 0 hush if part = mood".split(" ");
        String[] law = "slips memory;hours born;bars if person = dead or part = teacher and not year = mood".split(" ");
        for (String[] tokens : new String[][] {play, law}) {
            for (int i = 0; i < tokens.length; i++) {
                String word = tokens[i].replaceAll("[^a-z].*", "");
                if (word.isEmpty()) continue;
                String rest = tokens[i].substring(word.length()) + " " + String.join(" ",
                    java.util.Arrays.copyOfRange(tokens, i + 1, tokens.length));
                String ahead = String.join(" ", java.util.Arrays.copyOfRange(tokens, 0, i)) + (i == 0 ? "" : " ");
                String last = word.substring(0, word.length() - 1);
                for (String other : new String[] {"x" + word.substring(1), last + "x", last, word + "x",
                    word.toUpperCase()}) {
                    if (tokens == play) fault(ahead, other + rest);
                    else faultLaw(ahead, other + rest);
                }
            }
        }
        fits(String.join(" ", play));
        fitsLaw(String.join(" ", law));
    }

    // "FAULT: the first TOKEN that can't go on there (the end's: the TEXT's length)."
    static void p17FirstTokenThatCantGoOn() {
        fault("in 0 at 0 hush ", "x y z");
        fault("  ", "x");
        fault("", "at 0 in 0 hush");
        fault("in 0 at 0 hush ", "go 1");
        fault(SAY + "1 if 1=1 ", "go 1");
        fault(SAY + "1 go 1 ", "go 1");
        fault(IF + "1=1 ", "if 1=1");
        fault("in 0 at 0 ", "if 1=1");
        fault("", "0 at 0 hush");
        fault("in ", "at 0 hush");
        fault("in 0 ", "0 hush");
        fault("in 0 at ", "hush");
        fault("in 0 at 0 ", "1");
        fault("in any ", "hush");
    }

    static void p17EndOfText() {
        String text = "in any at any say 1+1 go 2 if 1 = 1";
        for (int end : new int[] {0, 2, 3, 6, 7, 9, 10, 13, 14, 17, 18, 20, 24, 25, 29, 30, 31, 32, 33, 34}) {
            fault(text.substring(0, end), "");
        }
        for (int end : new int[] {19, 21, 22, 26, 27, 35}) fits(text.substring(0, end));
    }

    // Blanks at the end belong to the TEXT's length.
    static void p17EndBehindBlanks() {
        fault("in   ", "");
        fault(SAY + "1 go     ", "");
        fault("   ", "");
        faultLaw("slips  ", "");
    }

    // "FAULT of the latest play(), law() that read a TEXT: its place; NONE without."
    static void p17OfTheLatest() {
        DeadUnderstudies x = town();
        due("ahead of any", x.fault(), -1);
        Checks.play(x, 0, "in");
        due("of a PLAY", x.fault(), 2);
        Checks.law(x, "slips");
        due("of a LAW", x.fault(), 5);
        Checks.law(x, "slips 5");
        due("without", x.fault(), -1);
        Checks.law(x, "bars x");
        Checks.play(x, 0, "in 0 at 0 hush");
        due("without", x.fault(), -1);
    }

    // ".. that read a TEXT": not one that was REFUSED ahead of that.
    static void p17NotOfOneThatReadNone() {
        DeadUnderstudies x = town();
        Checks.play(x, 0, "in");
        Checks.tape(x, "in 0");
        x.play(1);
        due("play() at -2", x.fault(), 2);
        x.row(0);
        due("row()", x.fault(), 2);
        for (int i = 0; i < 6; i++) Checks.law(x, "bars");
        Checks.play(x, 0, "in");
        Checks.law(x, "bars");
        due("law() at -5", x.fault(), 2);
        Checks.play(x, 0, "in 0 at 0 hush");
        Checks.law(x, "x");
        due("law() at -5, without", x.fault(), -1);
    }

    // "Beyond 1,000,000,000 either way .. a SUM .. is BROKEN": each step of it.
    static void t2BeyondABillion() {
        saysDue("1000*1000*1000-1000*1000*1000+3", 3);
        saysDue("1000*1000*1000/1000/1000/500", 2);
        saysDue("[1000*1000*1000+1]*0", -1);
        saysDue("1000*1000*999+1000*1000-1000*1000*1000+3", 3);
        saysDue("1000*1000*1000+1-1", -1);
        saysDue("0-1000*1000*1000+1000*1000*1000+3", 3);
        saysDue("0-1000*1000*1000-1+1", -1);
        saysDue("1000*1000*1000*1", 9);
        saysDue("1000*1000*1000*2", -1);
        saysDue("[0-1000*1000*1000]*2", -1);
        saysDue("[0-1000*1000*1000]*1", 0);
        saysDue("1000*1000*1000*1000*1000*1000*1000*1000", -1);
        saysDue("0-[0-1000*1000*1000]-1000*1000*1000+4", 4);
        testDue("1000*1000*1000=1000*1000*1000", 1);
        testDue("1000*1000*1000+1>0", -1);
    }

    // "divided by 0"
    static void t2DividedByZero() {
        saysDue("1/0", -1);
        saysDue("0/0", -1);
        saysDue("1%0", -1);
        saysDue("0%0", -1);
        saysDue("0/1+2", 2);
        saysDue("0%1+2", 2);
        saysDue("1/[1-1]", -1);
        saysDue("1/[word-word]", -1);
        saysDue("1/word+1", 0);
        testDue("1/0=1/0", -1);
    }

    // "(/ cut towards 0, % what is left then)"
    static void t2CutTowardsZero() {
        saysDue("7/2", 3);
        saysDue("9+[0-7]/2", 6);
        saysDue("9+7/[0-2]", 6);
        saysDue("[0-7]/[0-2]", 3);
        saysDue("7%2", 1);
        saysDue("9+[0-7]%4", 6);
        saysDue("7%[0-4]", 3);
        saysDue("9+[0-7]%[0-4]", 6);
        saysDue("1/2", 0);
        saysDue("9+[0-1]/2", 9);
    }

    // "("or", "and" ask what stands behind only if it can still matter ..)"
    static void t2AskOnlyWhatMatters() {
        testDue("1=1 or 1/0=1", 1);
        testDue("1=2 and 1/0=1", 0);
        testDue("1=2 or 1=1 or 1/0=1", 1);
        testDue("1=1 and 1=2 and 1/0=1", 0);
        testDue("1=1 or 1=1 and 1/0=1", 1);
        testDue("1=2 and 1/0=1 or 1=1", 1);
        testDue("1=2 and 1/0=1 or 1=2", 0);
        testDue("(1=1 or 1/0=1) and 1=1", 1);
        testDue("not (1=2 and 1/0=1) and 1=1", 1);
        testDue("1=2 and (1/0=1 or 1/0=1) or 1=2 and 1/0=1", 0);
    }

    // "a part that was asked and is BROKEN makes all of it BROKEN"
    static void t2BrokenPartBreaksAll() {
        testDue("1=2 or 1/0=1", -1);
        testDue("1=1 and 1/0=1", -1);
        testDue("1/0=1 or 1=1", -1);
        testDue("1/0=1 and 1=2", -1);
        testDue("not 1/0=1", -1);
        testDue("(1/0=1) or 1=1", -1);
        testDue("1=2 or 1=2 and 1/0=1 or 1/0=1", -1);
        testDue("1=1 and (1=2 or 1/0=1) or 1=1", -1);
        testDue("1<1%0", -1);
        saysDue("0*[1/0]", -1);
        saysDue("1/0-1/0", -1);
    }

    // Nothing is left of a TEXT, with a FAULT or without, for the next one.
    static void t2NothingIsLeftOfATextAhead() {
        DeadUnderstudies x = town();
        String fifty = SAY + "1" + "+1".repeat(49);
        String eight = IF + "(".repeat(8) + "1=1" + ")".repeat(8);
        String twelve = "in 0 at 0 hush" + ";in 0 at 0 hush".repeat(11);
        for (int i = 0; i < 20; i++) {
            due("fifty PARTS", Checks.faultOfPlay(x, fifty), -1);
            due("eight brackets", Checks.faultOfPlay(x, eight), -1);
            due("twelve CLAUSES", Checks.faultOfPlay(x, twelve), -1);
            due("open brackets", Checks.faultOfPlay(x, IF + "((("), 21);
            due("a FAULT", Checks.faultOfPlay(x, SAY + "2*3+"), 18);
            due("a SUM", Checks.play(x, 0, SAY + "2*3+1"), 1);
            due("its WORD", x.of(0, 0, 0, 0), 7);
            due("one CLAUSE alone", x.stage(0, 2), 1);
        }
    }

    // A TEXT with a FAULT comes to nothing at all.
    static void t2FaultyTextComesToNothing() {
        DeadUnderstudies x = town();
        Checks.refused(x, "a PLAY", i -> Checks.play(x, 0, "in any at any say 1;in 0 at 0"), -6);
        due("no RULE", x.stage(0, 2), 0);
        Checks.refused(x, "a LAW", i -> Checks.law(x, "bars;x"), -6);
        due("no LAW", x.count(3), 0);
    }
}
