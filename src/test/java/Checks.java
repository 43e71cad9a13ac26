/** What the tests share: calls counted that do not answer what is due, and TEXTS put on a TAPE. */
final class Checks {
    private static int wrong = 0;

    private Checks() {
    }

    static void due(String call, long got, long want) {
        if (got == want) return;
        wrong++;
        System.out.println(call + " answered " + got + ", due is " + want);
    }

    /** Ends the test: with exit code 1, if a call was not answered as due. */
    static void close() {
        if (wrong == 0) return;
        System.out.println(wrong + " answers are not as due");
        System.exit(1);
    }

    /** The numbers that feed the bytes of a TEXT, blanks behind it, by fives. */
    static int[] numbers(String text) {
        int[] numbers = new int[(text.length() + 19) / 20 * 5];
        for (int i = 0; i < numbers.length * 4; i++) {
            int sign = i < text.length() ? text.charAt(i) : ' ';
            numbers[i / 4] = numbers[i / 4] << 8 | sign;
        }
        return numbers;
    }

    /** Puts just a TEXT on the TAPE. */
    static void tape(DeadUnderstudies x, String text) {
        x.end(0);
        int[] n = numbers(text);
        for (int i = 0; i < n.length; i += 5) x.feed(n[i], n[i + 1], n[i + 2], n[i + 3], n[i + 4]);
        due("end at the length of: " + text, x.end(text.length()), text.length());
    }

    static int play(DeadUnderstudies x, int part, String text) {
        tape(x, text);
        return x.play(part);
    }

    static int law(DeadUnderstudies x, String text) {
        tape(x, text);
        return x.law();
    }

    /** The FAULT of a TEXT read as a PLAY on PART 0. */
    static int faultOfPlay(DeadUnderstudies x, String text) {
        int answer = play(x, 0, text);
        due("play is refused or not: " + text, answer == -6 ? 1 : 0, x.fault() == -1 ? 0 : 1);
        return x.fault();
    }

    /** The FAULT of a TEXT read as a LAW. */
    static int faultOfLaw(DeadUnderstudies x, String text) {
        int answer = law(x, text);
        due("law is refused or not: " + text, answer == -6 ? 1 : 0, x.fault() == -1 ? 0 : 1);
        return x.fault();
    }
}
