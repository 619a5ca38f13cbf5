/** Counts answers that are not as due, and feeds texts. */
final class Check {
    private static int asked = 0;
    private static int wrong = 0;

    private Check() {
    }

    static void due(String what, long got, long want) {
        asked++;
        if (got != want) {
            wrong++;
            System.out.println(what.substring(0, Math.min(what.length(), 200)) + " answered " + got + ", due is " + want);
        }
    }

    static void due(String what, boolean got, boolean want) {
        due(what, got ? 1 : 0, want ? 1 : 0);
    }

    /** Ends the program: with exit code 1 if an answer was wrong. */
    static void end(String test) {
        System.out.println(test + ": " + asked + " answers, " + wrong + " not as due");
        System.exit(wrong == 0 && asked > 0 ? 0 : 1);
    }

    /** Feeds a text, filled up with blanks to a multiple of twenty bytes. */
    static void feed(CoilBench x, String text) {
        for (int at = 0; at < text.length(); at += 20) {
            int[] numbers = new int[5];
            for (int k = 0; k < 20; k++) {
                int sign = at + k < text.length() ? text.charAt(at + k) : ' ';
                numbers[k / 4] = numbers[k / 4] << 8 | sign;
            }
            x.feed(numbers[0], numbers[1], numbers[2], numbers[3], numbers[4]);
        }
    }

    static int load(CoilBench x, String text) {
        feed(x, text);
        return x.load(text.length());
    }

    static void sound(String text, int relays) {
        CoilBench x = new CoilBench();
        due("load of " + text, load(x, text), relays);
        due("wrong(0) of " + text, x.wrong(0), 0);
        due("wrong(1) of " + text, x.wrong(1), -1);
    }

    static void fault(int fault, int place, String text) {
        CoilBench x = new CoilBench();
        due("load of " + text, load(x, text), -1);
        due("wrong(0) of " + text, x.wrong(0), fault);
        due("wrong(1) of " + text, x.wrong(1), place);
    }

    /** The fault is at the sign behind the mark ^, which is not of the text. */
    static void faultAt(int fault, String marked) {
        int place = marked.indexOf('^');
        fault(fault, place, marked.substring(0, place) + marked.substring(place + 1));
    }

    /** Parts or the like with the NAMES x0, x1 and so on. */
    static String parts(String before, int howMany, String behind) {
        StringBuilder text = new StringBuilder();
        for (int k = 0; k < howMany; k++) {
            text.append(before).append("x").append(k).append(behind);
        }
        return text.toString();
    }

    static CoilBench of(String text) {
        CoilBench x = new CoilBench();
        due("load of " + text, load(x, text) >= 0, true);
        return x;
    }
}
