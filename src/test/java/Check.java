/** Counts answers that are not as due, and feeds texts. */
final class Check {
    private static int asked = 0;
    private static int wrong = 0;

    private Check() {
    }

    static void due(String what, long got, long want) {
        asked++;
        if (got != want) {
            wrong++;
            System.out.println(what + " answered " + got + ", due is " + want);
        }
    }

    static void due(String what, boolean got, boolean want) {
        due(what, got ? 1 : 0, want ? 1 : 0);
    }

    /** Ends the program: with exit code 1 if an answer was wrong. */
    static void end(String test) {
        System.out.println(test + ": " + asked + " answers, " + wrong + " not as due");
        System.exit(wrong == 0 && asked > 0 ? 0 : 1);
    }

    /** Feeds a text, filled up with blanks to a multiple of twenty bytes. */
    static void feed(CoilBench x, String text) {
        for (int at = 0; at < text.length(); at += 20) {
            int[] numbers = new int[5];
            for (int k = 0; k < 20; k++) {
                int sign = at + k < text.length() ? text.charAt(at + k) : ' ';
                numbers[k / 4] = numbers[k / 4] << 8 | sign;
            }
            x.feed(numbers[0], numbers[1], numbers[2], numbers[3], numbers[4]);
        }
    }

    static int load(CoilBench x, String text) {
        feed(x, text);
        return x.load(text.length());
    }

    static CoilBench of(String text) {
        CoilBench x = new CoilBench();
        due("load of " + text, load(x, text) >= 0, true);
        return x;
    }
}
