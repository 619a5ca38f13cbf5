/** Terms, 4. THE ADDER, and promise 4: from 1 to 7 bits and no others, and that its netlist is the TEXT's, part by part. */
final class AdderBoundsTest {
    private static final String STAGE = "key ai;key bi;relay Ai 2 3 break break break break break;"
        + "relay Bi 2 3 break break break break break;lamp si;"
        + "wire plus ai.1 bi.1 Ai.1;wire ai.2 Ai.p;wire bi.2 Bi.p;wire minus Ai.n Bi.n si.2;wire Ai.1+ Bi.1;wire Ai.1- Bi.2;"
        + "wire Bi.1+ Bi.3 Cj.1;wire Bi.2- Bi.4 Nj.1;wire Ai.2+ Bi.3-;wire Ai.2- Bi.3+;wire Ai.3+ Bi.4-;wire Ai.3- Bi.4+;"
        + "wire Ci.1 Ai.2 Ai.4;wire Ni.1 Ai.3 Ai.5;wire Bi.5+ Ai.4+ Ai.5-;wire Bi.5- Ai.4- Ai.5+;wire Bi.5 si.1;lamp Ci;lamp Ni;";
    private static final String END = "lamp Ci;lamp Ni;wire plus N0.1;";

    public static void main(String[] args) {
        bits();
        otherBits();
        sameAsItsText();
        statesAtFirst();
        leavesTheTape();
        sums();
        Check.end("AdderBoundsTest");
    }

    /** The words of the document, with i and j put in for the digits. */
    private static String text(int bits) {
        StringBuilder text = new StringBuilder();
        for (int i = 0; i < bits; i++) {
            text.append(numbered(STAGE, i));
        }
        return text.append(numbered(END, bits)).toString();
    }

    private static String numbered(String stage, int i) {
        return stage.replaceAll("\\b([abABsCN])i\\b", "$1" + i).replaceAll("\\b([CN])j\\b", "$1" + (i + 1));
    }

    /** "The adder of n bits (1 to 7)": how many relays, and how many of all. */
    private static void bits() {
        for (int n = 1; n <= 7; n++) {
            CoilBench x = new CoilBench();
            Check.due("adder(" + n + ")", x.adder(n), 2 * n);
            int[] due = {2 * n, 2 * n, 3 * n + 2, 0, 0};
            for (int sort = 0; sort < 5; sort++) {
                Check.due("parts of sort " + sort, x.count(sort), due[sort]);
            }
            Check.due("no relay behind", x.relay(2 * n, 0), -1);
            Check.due("no key behind", x.key(2 * n, true), false);
            Check.due("no lamp behind", x.lamp(3 * n + 2), -1);
        }
    }

    /** "NONE, doing nothing, for another n." */
    private static void otherBits() {
        CoilBench empty = new CoilBench();
        Check.due("adder(0) of a new object", empty.adder(0), -1);
        Check.due("its relays", empty.count(0), 0);
        CoilBench x = new CoilBench();
        Check.due("adder(2)", x.adder(2), 4);
        x.key(0, true);
        x.tick(3);
        x.stuck(1, 1, 2);
        x.dust(1, 2, true);
        int front = x.net(0, 1, 3);
        for (int n : new int[] {Integer.MIN_VALUE, -7, -2, -1, 0, 8, 9, 10, 14, 257, 65537, Integer.MAX_VALUE}) {
            Check.due("adder(" + n + ")", x.adder(n), -1);
            Check.due("the relays stay", x.count(0), 4);
            Check.due("the TIME stays", x.count(6), 3);
            Check.due("the ticks stay", x.count(8), 3);
            Check.due("the coil stays", x.relay(0, 0), 1);
            Check.due("the contact stays", x.contact(0, 1), 2);
            Check.due("the key stays", x.net(1, 0, 1), 1);
            Check.due("what is stuck stays", x.net(0, 1, 3), front);
        }
    }

    /** "this TEXT: for each i from 0 to n - 1": all parts and NETS are as a load of it gives them, at each of some keys. */
    private static void sameAsItsText() {
        for (int n = 1; n <= 7; n++) {
            Check.due("bytes of the TEXT of " + n, text(n).length(), 448 * n + 31);
            for (int sort = 0; sort < 3; sort++) {
                for (int i = 0; i < 3 * n + 2; i++) {
                    CoilBench x = new CoilBench();
                    x.adder(n);
                    samePart(x, Check.of(text(n)), sort, i, n);
                }
            }
            CoilBench x = new CoilBench();
            x.adder(n);
            Check.due("NETS of " + n, x.count(5), Check.of(text(n)).count(5));
        }
    }

    private static void samePart(CoilBench x, CoilBench y, int sort, int i, int n) {
        String part = "part " + i + " of sort " + sort + " of " + n;
        for (int k = 0; k < 4; k++) {
            Check.due("letter " + k + " of " + part, x.letter(sort, i, k), y.letter(sort, i, k));
        }
        for (int what = 0; sort == 0 && what <= 7; what++) {
            Check.due("relay " + what + " of " + part, x.relay(i, what), y.relay(i, what));
        }
        for (int round = 0; round < 4; round++) {
            for (int e = 0; e <= 20; e++) {
                Check.due("end " + e + " of " + part, x.net(sort, i, e), y.net(sort, i, e));
            }
            for (int k = 0; k < 2 * n; k++) {
                boolean down = (k * 5 + round * 3 + i) % 4 < 2;
                x.key(k, down);
                y.key(k, down);
            }
            x.tick(5);
            y.tick(5);
        }
    }

    /** "likewise": states at first, nothing stuck or dusty, no tick to take back. */
    private static void statesAtFirst() {
        CoilBench x = new CoilBench();
        Check.due("adder(1)", x.adder(1), 2);
        x.key(0, true);
        x.tick(5);
        x.stuck(1, 1, 2);
        x.dust(1, 2, true);
        Check.due("adder(1) anew", x.adder(1), 2);
        Check.due("the TIME", x.count(6), 0);
        Check.due("ticks to take back", x.count(8), 0);
        Check.due("the coil", x.relay(0, 0), 0);
        Check.due("its COUNT", x.relay(0, 1), 0);
        Check.due("its contact", x.contact(0, 1), 0);
        Check.due("the key", x.net(1, 0, 1), 0);
        Check.due("B's second contact, dusty no more", x.net(0, 1, 7), 1);
        x.stuck(0, 1, 2);
        Check.due("B's first contact's middle", x.net(0, 1, 2), 1);
        Check.due("its front, stuck no more", x.net(0, 1, 3), 0);
    }

    /** "(the tape stays)". */
    private static void leavesTheTape() {
        CoilBench x = new CoilBench();
        Check.feed(x, "key k;lamp l;lamp m;");
        Check.due("a FAULT stays what it was", x.wrong(0), 0);
        Check.due("adder(7)", x.adder(7), 14);
        Check.due("feed", x.feed(0x6b657920, 0x713b2020, 0x20202020, 0x20202020, 0x20202020), 40);
        Check.due("adder(8)", x.adder(8), -1);
        Check.due("load", x.load(40), 0);
        Check.due("its keys", x.count(1), 2);
        Check.due("its lamps", x.count(2), 2);
        Check.due("load with a FAULT", Check.load(x, "key"), -1);
        Check.due("adder(1)", x.adder(1), 2);
        Check.due("wrong(0) is of the load", x.wrong(0), 1);
        Check.due("wrong(1) is of the load", x.wrong(1), 3);
    }

    /** The least and the greatest sums of each number of bits. */
    private static void sums() {
        for (int n = 1; n <= 7; n++) {
            int most = (1 << n) - 1;
            int[][] pairs = {{0, 0}, {0, 1}, {1, 0}, {most, 0}, {0, most}, {most, 1}, {1, most}, {most, most}, {most / 2, most / 2 + 1}};
            for (int[] pair : pairs) {
                sum(n, pair[0], pair[1]);
            }
        }
    }

    private static void sum(int n, int a, int b) {
        CoilBench x = new CoilBench();
        x.adder(n);
        for (int i = 0; i < n; i++) {
            x.key(2 * i, (a >> i & 1) != 0);
            x.key(2 * i + 1, (b >> i & 1) != 0);
        }
        Check.due("quiet", x.quiet(), a == 0 && b == 0 ? 0 : 3);
        int sum = 0;
        for (int i = 0; i < n; i++) {
            sum |= x.lamp(3 * i) << i;
        }
        Check.due("sum of " + a + " and " + b, sum, a + b & (1 << n) - 1);
        Check.due("carry", x.net(2, 3 * n, 0), a + b >> n);
        Check.due("no carry", x.net(2, 3 * n + 1, 0), 1 - (a + b >> n));
        Check.due("nothing is SHORT", x.count(7), 0);
    }
}
