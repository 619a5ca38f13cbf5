/**
 * Promises 1 to 3 and 5 to 16 (4 and 17 to 19 stand in AdderBoundsTest and RacesBoundsTest): each call at its least and
 * its greatest argument, below and above, on an empty and on a full bench, and what a refused call leaves as it was.
 */
final class CallsBoundsTest {
    private static final int LEAST = Integer.MIN_VALUE;
    private static final int GREATEST = Integer.MAX_VALUE;
    private static final int[] FAR = {LEAST, LEAST + 1, -65536, -100, -41, -2, -1, 41, 64, 65, 100, 256, 65536, GREATEST - 1, GREATEST};
    /** How many parts a full bench has of each sort. */
    private static final int[] MOST = {40, 24, 24, 4, 24};
    private static final String BENCH = "relay A 3 4;relay B 1 20 break make;relay C 20 1 make break make break make break;"
        + "key k;key m;lamp l;lamp o;lamp q;clock c 3 2;diode d;diode e;wire plus k.1 B.1;wire k.2 A.p B.p;"
        + "wire minus A.n B.n C.n l.2;wire B.1- C.p l.1;";

    public static void main(String[] args) {
        newObject();
        everyByteOfAFeed();
        feedsToTheLast();
        feedsBehindLoads();
        loadOfTooFewOrTooMany();
        loadOfSomeOrNone();
        loadAnew();
        loadWithAFault();
        wrongAheadAndBehind();
        counts();
        countOfTicks();
        letters();
        keys();
        keysOfAFullBench();
        ticks();
        refusedTicks();
        quietAtOnce();
        quietAtTheLastTick();
        relays();
        relayTold();
        contacts();
        lamps();
        netsOfRelays();
        netsOfOthers();
        netsOfRails();
        stuck();
        dust();
        wearOfAFullBench();
        lastCalls();
        Check.end("CallsBoundsTest");
    }

    private static String full() {
        StringBuilder text = new StringBuilder();
        for (int r = 0; r < 40; r++) {
            text.append("relay r" + r + " " + (r % 20 + 1) + " " + (20 - r % 20) + " make".repeat(r % 7) + ";");
        }
        return text + Check.parts("key k", 24, ";") + Check.parts("lamp l", 24, ";") + Check.parts("clock c", 4, " 100 99;")
            + Check.parts("diode d", 24, ";");
    }

    /** All of BENCH that calls can tell without changing it, but for wrong(). */
    private static String all(CoilBench x) {
        StringBuilder all = new StringBuilder();
        for (int what = 0; what <= 8; what++) {
            all.append(x.count(what)).append(' ');
        }
        for (int r = 0; r < 3; r++) {
            for (int what = 0; what <= 6; what++) {
                all.append(x.relay(r, what)).append(' ');
            }
            for (int e = 0; e < 2 + 3 * x.relay(r, 5); e++) {
                all.append(x.net(0, r, e)).append(' ');
            }
            all.append(x.contact(r, 1)).append(' ');
        }
        for (int i = 0; i < 3; i++) {
            all.append(x.net(1, i, 1)).append(x.lamp(i)).append(x.letter(2, i, 0)).append(' ');
        }
        return all.append(x.raced(0)).toString();
    }

    private static void same(String when, CoilBench x, String ahead) {
        Check.due("all as it was " + when, all(x).equals(ahead), true);
    }

    /** Promise 1: "An empty tape, a netlist without parts." */
    private static void newObject() {
        CoilBench x = new CoilBench();
        for (int what = -2; what <= 10; what++) {
            Check.due("count(" + what + ")", x.count(what), what >= 0 && what <= 8 ? 0 : -1);
            Check.due("wrong(" + what + ")", x.wrong(what), what == 0 ? 0 : -1);
            Check.due("raced(" + what + ")", x.raced(what), -1);
            Check.due("relay(0, " + what + ")", x.relay(0, what), -1);
            Check.due("lamp(" + what + ")", x.lamp(what), -1);
            Check.due("key(" + what + ", true)", x.key(what, true), false);
            Check.due("key(" + what + ", false)", x.key(what, false), false);
            Check.due("contact(0, " + what + ")", x.contact(0, what), -1);
            Check.due("stuck(0, " + what + ", 0)", x.stuck(0, what, 0), false);
            Check.due("dust(0, " + what + ", true)", x.dust(0, what, true), false);
            Check.due("letter(" + what + ", 0, 0)", x.letter(what, 0, 0), -1);
            Check.due("net(" + what + ", 0, 0)", x.net(what, 0, 0), what == 5 ? 1 : -1);
            Check.due("net(" + what + ", 0, 1)", x.net(what, 0, 1), what == 5 ? 2 : -1);
        }
        Check.due("load(1)", x.load(1), -2);
        Check.due("load(-1)", x.load(-1), -2);
        Check.due("back(1)", x.back(1), -1);
        Check.due("race(0)", x.race(0), 0);
        Check.due("race(16)", x.race(16), 0);
        Check.due("tick(0)", x.tick(0), 0);
        Check.due("quiet()", x.quiet(), 0);
        Check.due("the TIME", x.count(6), 1);
        Check.due("back(1) behind quiet()", x.back(1), 0);
        Check.due("tick(500)", x.tick(500), 500);
        Check.due("feed", x.feed(0, 0, 0, 0, 0), 20);
        Check.due("load(0)", new CoilBench().load(0), 0);
    }

    private static int feed(CoilBench x, String text) {
        int[] numbers = new int[5];
        for (int k = 0; k < 20; k++) {
            numbers[k / 4] = numbers[k / 4] << 8 | text.charAt(k);
        }
        return x.feed(numbers[0], numbers[1], numbers[2], numbers[3], numbers[4]);
    }

    /** Promise 2: "Twenty bytes come behind those on the tape, of each number the highest first". */
    private static void everyByteOfAFeed() {
        String blank = " ".repeat(20);
        for (int place = 0; place < 40; place++) {
            for (int sign : new int[] {0, ';', 127, 128, 255}) {
                String text = blank + blank;
                text = text.substring(0, place) + (char) sign + text.substring(place + 1);
                CoilBench x = new CoilBench();
                Check.due("first feed", feed(x, text.substring(0, 20)), 20);
                Check.due("second feed", feed(x, text.substring(20)), 40);
                Check.due("load of a sign at " + place, x.load(40), -1);
                Check.due("its place", x.wrong(1), place);
            }
        }
        CoilBench x = new CoilBench();
        Check.due("feed", x.feed(0x6b657920, 0x6162633b, 0x6c616d70, 0x20646566, 0x3b20200a), 20);
        Check.due("load", x.load(20), 0);
        Check.due("first of the key", x.letter(1, 0, 0), 'a');
        Check.due("last of the lamp", x.letter(2, 0, 2), 'f');
        Check.due("feed of the least and the greatest", x.feed(LEAST, GREATEST, -1, 0, 1), 20);
        Check.due("load", x.load(20), -1);
        Check.due("its place", x.wrong(1), 0);
    }

    /** Promise 2: "how many there are. NONE, doing nothing: there would be more than 4,000." */
    private static void feedsToTheLast() {
        CoilBench x = new CoilBench();
        for (int k = 1; k <= 199; k++) {
            Check.due("feed " + k, x.feed(0x20202020, 0x20202020, 0x20202020, 0x20202020, 0x20202020), 20 * k);
        }
        Check.due("feed 200", feed(x, "       key a1;key b;"), 4000);
        for (int k = 0; k < 3; k++) {
            Check.due("feed beyond", feed(x, "key d;key e;key fgh;"), -1);
        }
        Check.due("load of more", x.load(4001), -2);
        Check.due("load of all", x.load(4000), 0);
        Check.due("its keys", x.count(1), 2);
        Check.due("its first key", x.letter(1, 0, 0), 'a');
        Check.due("its last key", x.letter(1, 1, 0), 'b');
    }

    /** Promise 3: "(which is empty then)": feeds begin anew behind every load but one of -2. */
    private static void feedsBehindLoads() {
        CoilBench x = new CoilBench();
        Check.due("feed", feed(x, "key a;key b;key cde;"), 20);
        Check.due("load(21)", x.load(21), -2);
        Check.due("feed behind -2", feed(x, "key f;key g;key hij;"), 40);
        Check.due("load(-1)", x.load(-1), -2);
        Check.due("load(41)", x.load(41), -2);
        Check.due("load(40)", x.load(40), 0);
        Check.due("keys", x.count(1), 6);
        Check.due("load(1)", x.load(1), -2);
        Check.due("feed behind a load", feed(x, "key a;key b;key cd; "), 20);
        Check.due("load(5)", x.load(5), -1);
        Check.due("load(1) behind a FAULT", x.load(1), -2);
        Check.due("feed behind a FAULT", feed(x, "key a;key b;key cde;"), 20);
        Check.due("load(0)", x.load(0), 0);
        Check.due("load(1) behind load(0)", x.load(1), -2);
        Check.due("feed behind load(0)", feed(x, "key a;key b;key cde;"), 20);
        Check.due("load(12)", x.load(12), 0);
        Check.due("keys", x.count(1), 2);
        Check.due("load(8) of the rest", x.load(8), -2);
    }

    /** Promise 3: "-2, doing nothing: n is below 0 or more than there are." */
    private static void loadOfTooFewOrTooMany() {
        CoilBench x = Check.of(BENCH);
        x.key(0, true);
        x.tick(4);
        x.stuck(1, 1, 2);
        x.dust(2, 3, true);
        String ahead = all(x);
        Check.due("feed", feed(x, "key a;key b;key cde;"), 20);
        for (int n : new int[] {LEAST, -4001, -20, -2, -1, 21, 22, 40, 4000, 4001, 65556, GREATEST}) {
            Check.due("load(" + n + ")", x.load(n), -2);
        }
        same("behind loads of -2", x, ahead);
        Check.due("load(20)", x.load(20), 0);
        Check.due("keys", x.count(1), 3);
    }

    /** Promise 3: "The first n bytes of the tape": each n from none to all. */
    private static void loadOfSomeOrNone() {
        for (int n = 0; n <= 20; n++) {
            CoilBench x = new CoilBench();
            feed(x, "key a;key b;key cde;");
            boolean sound = n == 0 || n == 6 || n == 12 || n == 20;
            Check.due("load(" + n + ")", x.load(n), sound ? 0 : -1);
            Check.due("keys of " + n, x.count(1), !sound ? 0 : n == 20 ? 3 : n / 6);
            Check.due("wrong(0) of " + n, x.wrong(0), sound ? 0 : 1);
            Check.due("the tape is empty", x.load(1), -2);
        }
    }

    /** Promise 3: "with its states at first, nothing stuck or dusty, no tick to take back: how many relays". */
    private static void loadAnew() {
        CoilBench x = Check.of(BENCH);
        String first = all(x);
        x.key(0, true);
        x.tick(9);
        for (int c = 1; c <= 6; c++) {
            x.stuck(2, c, 2);
            x.stuck(1, c, 1);
            x.dust(2, c, c % 2 == 0);
            x.dust(1, c, true);
        }
        Check.due("the bench is another", all(x).equals(first), false);
        Check.due("load anew", Check.load(x, BENCH), 3);
        same("at first", x, first);
        x.key(0, true);
        x.tick(2);
        CoilBench y = Check.of(BENCH);
        y.key(0, true);
        y.tick(2);
        same("in a new object", x, all(y));
        String counting = "relay A 5 1;wire plus A.p;wire minus A.n;";
        Check.due("load of a coil", Check.load(x, counting), 1);
        x.tick(4);
        Check.due("its COUNT", x.relay(0, 1), 4);
        Check.due("load of it anew", Check.load(x, counting), 1);
        Check.due("COUNT at first", x.relay(0, 1), 0);
        x.tick(4);
        Check.due("not picked yet", x.relay(0, 0), 0);
        Check.due("adder(1)", x.adder(1), 2);
        Check.due("COUNT at first of the adder", x.relay(0, 1), 0);
        loadsOfAllSizes();
    }

    private static void loadsOfAllSizes() {
        CoilBench x = Check.of(BENCH);
        for (int relays = 0; relays <= 40; relays += 8) {
            Check.due("load of " + relays, Check.load(x, Check.parts("relay ", relays, " 1 1;")), relays);
            Check.due("relays", x.count(0), relays);
            Check.due("no keys", x.count(1), 0);
            Check.due("no NETS", x.count(5), 0);
            Check.due("the one behind", x.relay(relays, 0), -1);
        }
    }

    /** Promise 3: "NONE, all stays but the tape: a FAULT". */
    private static void loadWithAFault() {
        String[] faults = {"key", "relay z 1 1;wire plus z.1;", Check.parts("key ", 25, ";"), ";", "key k;key k;"};
        for (String fault : faults) {
            CoilBench x = Check.of(BENCH);
            x.key(0, true);
            x.tick(5);
            x.stuck(1, 1, 1);
            x.dust(2, 6, true);
            String ahead = all(x);
            Check.due("load of " + fault, Check.load(x, fault), -1);
            same("behind a FAULT", x, ahead);
            Check.due("the tape is empty", x.load(1), -2);
            x.tick(3);
            Check.due("all goes on", x.count(6), 8);
            Check.due("ticks are kept", x.count(8), 8);
        }
    }

    /** Promise 5: "Of the latest load() that was not -2", "NONE for others; 0 and NONE ahead of one". */
    private static void wrongAheadAndBehind() {
        CoilBench x = new CoilBench();
        Check.due("load(1)", x.load(1), -2);
        wrong(x, 0, -1);
        Check.due("a FAULT at its first byte", Check.load(x, ";"), -1);
        wrong(x, 1, 0);
        Check.due("load(1)", x.load(1), -2);
        Check.due("load(-1)", x.load(-1), -2);
        wrong(x, 1, 0);
        Check.due("adder(1)", x.adder(1), 2);
        wrong(x, 1, 0);
        Check.due("MANY", Check.load(x, Check.parts("clock ", 5, " 2 1;")), -1);
        wrong(x, 2, 58);
        Check.due("NAMES", Check.load(x, "key k;wire k.1 k.3;"), -1);
        wrong(x, 3, 15);
        Check.due("none", Check.load(x, "key k;"), 0);
        wrong(x, 0, -1);
        Check.due("load(1)", x.load(1), -2);
        wrong(x, 0, -1);
    }

    private static void wrong(CoilBench x, int fault, int place) {
        Check.due("wrong(0)", x.wrong(0), fault);
        Check.due("wrong(1)", x.wrong(1), place);
        Check.due("wrong(2)", x.wrong(2), -1);
        Check.due("wrong(3)", x.wrong(3), -1);
        for (int far : FAR) {
            Check.due("wrong(" + far + ")", x.wrong(far), -1);
        }
    }

    /** Promise 6: what 0 to 8, "NONE for others"; all that there may be. */
    private static void counts() {
        CoilBench x = Check.of(BENCH);
        int[] due = {3, 2, 3, 1, 2, 4, 0, 0, 0};
        for (int what = 0; what <= 8; what++) {
            Check.due("count(" + what + ")", x.count(what), due[what]);
        }
        Check.due("count(-1)", x.count(-1), -1);
        Check.due("count(9)", x.count(9), -1);
        CoilBench most = Check.of(full() + "wire plus plus;");
        for (int sort = 0; sort < 5; sort++) {
            Check.due("count(" + sort + ") of a full bench", most.count(sort), MOST[sort]);
        }
        Check.due("one NET", most.count(5), 1);
        for (int far : FAR) {
            Check.due("count(" + far + ")", most.count(far), -1);
        }
    }

    /** Promise 6: "6 the TIME", "8 ticks that can be taken back": up to 100. */
    private static void countOfTicks() {
        CoilBench x = Check.of(BENCH);
        for (int time = 1; time <= 103; time++) {
            x.tick(1);
            Check.due("the TIME", x.count(6), time);
            Check.due("kept at " + time, x.count(8), Math.min(time, 100));
        }
    }

    /** Promise 7: "Byte k of the NAME of part i of a sort (0 to 4 as above); NONE where there is none." */
    private static void letters() {
        String text = "relay a 1 1;relay abcdefgh 1 1;key bb;lamp ccc;clock dddd 2 1;diode eeeee;diode ffffff;";
        CoilBench x = Check.of(text);
        int[][] sizes = {{1, 8}, {2}, {3}, {4}, {5, 6}};
        int[] signs = {'a', 'b', 'c', 'd', 'e'};
        for (int sort = -2; sort <= 6; sort++) {
            for (int i = -1; i <= 2; i++) {
                int size = sort < 0 || sort > 4 || i < 0 || i >= sizes[sort].length ? 0 : sizes[sort][i];
                for (int k = -1; k <= 9; k++) {
                    boolean is = k >= 0 && k < size;
                    int due = !is ? -1 : sort == 0 ? 'a' + k : signs[sort] + i;
                    Check.due("letter(" + sort + ", " + i + ", " + k + ")", x.letter(sort, i, k), due);
                }
            }
        }
        for (int k = 0; k < 8; k++) {
            Check.due("letter " + k, x.letter(0, 1, k), 'a' + k);
        }
        CoilBench other = Check.of(text);
        for (int far : FAR) {
            Check.due("letter of sort " + far, other.letter(far, 0, 0), -1);
            Check.due("letter of part " + far, other.letter(0, far, 0), -1);
            Check.due("letter " + far, other.letter(0, 1, far), -1);
        }
    }

    /** Promise 8: "Key k goes down or up: true; false: no such key." */
    private static void keys() {
        CoilBench x = Check.of(BENCH);
        Check.due("key(0, true)", x.key(0, true), true);
        Check.due("key(1, true)", x.key(1, true), true);
        Check.due("key(1, false)", x.key(1, false), true);
        String ahead = all(x);
        for (boolean down : new boolean[] {true, false}) {
            Check.due("key(2)", x.key(2, down), false);
            Check.due("key(31)", x.key(31, down), false);
            Check.due("key(32)", x.key(32, down), false);
            Check.due("key(33)", x.key(33, down), false);
            for (int far : FAR) {
                Check.due("key(" + far + ")", x.key(far, down), false);
            }
        }
        same("behind keys that are none", x, ahead);
        CoilBench none = Check.of("relay A 1 1;lamp l;");
        Check.due("key(0) without keys", none.key(0, true), false);
        Check.due("key(0) of an empty bench", new CoilBench().key(0, false), false);
    }

    /** Promise 8, with 24 keys: each for itself, the 25th is none. */
    private static void keysOfAFullBench() {
        CoilBench x = Check.of(Check.parts("key ", 24, ";") + Check.parts("wire plus ", 24, ".1;"));
        for (int k = 0; k < 24; k++) {
            Check.due("key(" + k + ", true)", x.key(k, true), true);
            Check.due("key(24, true)", x.key(24, true), false);
            for (int each = 0; each < 24; each += k < 2 || k > 21 ? 1 : 5) {
                Check.due("key " + each + " behind key " + k, x.net(1, each, 1), each <= k ? 1 : 0);
            }
        }
        for (int k = 23; k >= 0; k--) {
            Check.due("key(" + k + ", false)", x.key(k, false), true);
            Check.due("the key itself", x.net(1, k, 1), 0);
            Check.due("the key ahead", k == 0 ? 1 : x.net(1, k - 1, 1), 1);
        }
    }

    /** Promise 9: "n TICKS (0 to 500): the TIME". */
    private static void ticks() {
        int[] tries = {0, 1, 2, 99, 100, 101, 499, 500};
        for (int n : tries) {
            CoilBench x = Check.of(BENCH);
            Check.due("tick(" + n + ")", x.tick(n), n);
            Check.due("the TIME", x.count(6), n);
            Check.due("tick(1)", x.tick(1), n + 1);
            Check.due("tick(0)", x.tick(0), n + 1);
            Check.due("tick(500)", x.tick(500), n + 501);
        }
        CoilBench coil = Check.of("relay A 20 20;wire plus A.p;wire minus A.n;");
        coil.tick(0);
        Check.due("COUNT behind no tick", coil.relay(0, 1), 0);
        coil.tick(19);
        Check.due("COUNT behind 19", coil.relay(0, 1), 19);
        coil.tick(1);
        Check.due("picked behind 20", coil.relay(0, 0), 1);
    }

    /** Promise 9: "NONE, doing nothing, for another n." */
    private static void refusedTicks() {
        CoilBench x = Check.of(BENCH);
        x.key(0, true);
        x.tick(2);
        String ahead = all(x);
        for (int n : new int[] {LEAST, -501, -500, -2, -1, 501, 502, 1000, 2000, 65536, GREATEST}) {
            Check.due("tick(" + n + ")", x.tick(n), -1);
            Check.due("the TIME", x.count(6), 2);
        }
        same("behind refused ticks", x, ahead);
    }

    /** Promise 10: "TICKS are done until one changes no coil, COUNT or POSITION: how many were ahead of that". */
    private static void quietAtOnce() {
        CoilBench still = Check.of(BENCH);
        still.tick(40);
        Check.due("quiet() at rest", still.quiet(), 0);
        Check.due("the TIME", still.count(6), 41);
        for (int pick = 1; pick <= 20; pick++) {
            for (int contact = 0; contact <= 1; contact++) {
                CoilBench x = Check.of("relay A " + pick + " 1" + " break".repeat(contact) + ";wire plus A.p;wire minus A.n;");
                Check.due("quiet() with P " + pick, x.quiet(), pick + contact);
                Check.due("its TIME", x.count(6), pick + contact + 1);
                Check.due("its ticks", x.count(8), pick + contact + 1);
                Check.due("quiet() again", x.quiet(), 0);
            }
        }
        CoilBench clock = Check.of("clock c 2 1;lamp l;wire plus c.1;wire c.2 l.1;wire minus l.2;");
        Check.due("a clock, a lamp and the TIME are none of them", clock.quiet(), 0);
        CoilBench key = Check.of("relay A 5 5;key k;wire plus k.1;wire k.2 A.p;wire minus A.n;");
        key.key(0, true);
        key.tick(3);
        key.key(0, false);
        Check.due("a COUNT that goes to 0 is a change", key.quiet(), 1);
    }

    /**
     * Promise 10: "NONE when 2,000 did". The buzzer A stops when both clocks are on for the first time again, at TIME
     * 43 * 47 = 2021; from some tick behind that nothing changes any more.
     */
    private static void quietAtTheLastTick() {
        String text = "relay A 1 1 break;relay S 1 1 make break;clock c 43 1;clock d 47 1;wire plus c.1 S.1 S.2;wire c.2 d.1;"
            + "wire d.2 S.p S.1+;wire S.2- A.1;wire A.1- A.p;wire minus A.n S.n;";
        CoilBench all = Check.of(text);
        all.tick(400);
        int changes = 400 + all.quiet();
        Check.due("the last change is behind TIME 2021", changes >= 2022 && changes <= 2026, true);
        for (int ahead = 1; ahead <= 60; ahead++) {
            CoilBench x = Check.of(text);
            x.tick(ahead);
            int left = changes - ahead;
            Check.due("quiet() with " + left + " left", x.quiet(), left < 2000 ? left : -1);
            Check.due("its TIME", x.count(6), left < 2000 ? changes + 1 : ahead + 2000);
        }
        CoilBench none = Check.of("relay A 1 1 break;wire plus A.1;wire A.1- A.p;wire A.n minus;");
        Check.due("quiet() of a buzzer", none.quiet(), -1);
        Check.due("its TIME", none.count(6), 2000);
    }

    /** Promise 11: relay r and what 0 to 6, "NONE where there is none such". */
    private static void relays() {
        CoilBench x = Check.of(BENCH);
        int[][] due = {{0, 0, 0, 3, 4, 0, 2}, {0, 0, 0, 1, 20, 2, 4}, {0, 0, 1, 20, 1, 6, 2}};
        for (int r = -1; r <= 3; r++) {
            for (int what = -1; what <= 7; what++) {
                boolean is = r >= 0 && r < 3 && what >= 0 && what < 7;
                Check.due("relay(" + r + ", " + what + ")", x.relay(r, what), is ? due[r][what] : -1);
            }
        }
        for (int far : FAR) {
            Check.due("relay(" + far + ", 3)", x.relay(far, 3), -1);
            Check.due("relay(0, " + far + ")", x.relay(0, far), -1);
        }
        CoilBench full = Check.of(full());
        for (int r = 0; r < 40; r++) {
            int[] told = {0, 0, 0, r % 20 + 1, 20 - r % 20, r % 7, 0};
            for (int what = 0; what < 7; what++) {
                Check.due("relay(" + r + ", " + what + ") of a full bench", full.relay(r, what), told[what]);
            }
            Check.due("relay(" + r + ", 7) of a full bench", full.relay(r, 7), -1);
        }
        Check.due("relay(40, 0)", full.relay(40, 0), -1);
        Check.due("relay(40, 3)", full.relay(40, 3), -1);
    }

    /** Promise 11: "6 how many of its ends wires tell": none to all of its twenty, each told once or often. */
    private static void relayTold() {
        String relay = "relay A 1 1 make make make make make make;";
        StringBuilder wire = new StringBuilder("wire minus minus");
        Check.due("none told", Check.of(relay + wire + ";").relay(0, 6), 0);
        String[] ends = new String[20];
        ends[0] = "A.p";
        ends[1] = "A.n";
        for (int c = 1; c <= 6; c++) {
            ends[3 * c - 1] = "A." + c;
            ends[3 * c] = "A." + c + "+";
            ends[3 * c + 1] = "A." + c + "-";
        }
        for (int told = 0; told < 20; told++) {
            wire.append(' ').append(ends[told]);
            Check.due("told " + (told + 1), Check.of(relay + wire + ";").relay(0, 6), told + 1);
            Check.due("told twice", Check.of(relay + wire + ";" + wire + ";").relay(0, 6), told + 1);
            Check.due("one told alone", Check.of(relay + "wire plus " + ends[told] + ";").relay(0, 6), 1);
        }
        Check.due("the next one's are its own", Check.of(relay + "relay B 1 1;" + wire + ";").relay(1, 6), 0);
    }

    /** Promise 12: "The POSITION of contact c (1 on) of relay r; NONE where there is none such." */
    private static void contacts() {
        CoilBench x = Check.of(BENCH);
        int[] kinds = {0, 2, 6};
        for (int r = -1; r <= 3; r++) {
            for (int c = -1; c <= 8; c++) {
                boolean is = r >= 0 && r < 3 && c >= 1 && c <= kinds[r];
                Check.due("contact(" + r + ", " + c + ")", x.contact(r, c), is ? 0 : -1);
            }
        }
        for (int far : FAR) {
            Check.due("contact(" + far + ", 1)", x.contact(far, 1), -1);
            Check.due("contact(2, " + far + ")", x.contact(2, far), -1);
        }
        CoilBench full = Check.of(full());
        for (int r = 0; r <= 40; r++) {
            for (int c = 0; c <= 7; c++) {
                Check.due("contact(" + r + ", " + c + ") of a full bench", full.contact(r, c), r < 40 && c >= 1 && c <= r % 7 ? 0 : -1);
            }
        }
        x.key(0, true);
        x.tick(1);
        Check.due("contact(1, 1) at 1", x.contact(1, 1), 1);
        Check.due("contact(1, 2) at 1", x.contact(1, 2), 1);
        Check.due("contact(2, 6) at 1", x.contact(2, 6), 0);
    }

    /** Promise 13: "Whether a lamp is lit now (1); NONE: no such lamp." */
    private static void lamps() {
        CoilBench x = Check.of(BENCH);
        int[] due = {-1, 1, 0, 0, -1};
        for (int l = -1; l <= 3; l++) {
            Check.due("lamp(" + l + ")", x.lamp(l), due[l + 1]);
        }
        for (int far : FAR) {
            Check.due("lamp(" + far + ")", x.lamp(far), -1);
        }
        CoilBench full = Check.of(full() + "wire plus lx0.1 lx23.1;wire minus lx0.2 lx23.2;");
        for (int l = 0; l <= 24; l++) {
            Check.due("lamp(" + l + ") of a full bench", full.lamp(l), l == 24 ? -1 : l == 0 || l == 23 ? 1 : 0);
        }
        Check.due("lamp(0) without lamps", Check.of("relay A 1 1;key k;").lamp(0), -1);
    }

    /** Promise 14: "of a relay 0 p, 1 n, 3 c - 1 the middle of contact c, 3 c its front, 3 c + 1 its back". */
    private static void netsOfRelays() {
        String[] names = new String[20];
        for (int kinds = 0; kinds <= 6; kinds++) {
            names[0] = "p";
            names[1] = "n";
            for (int c = 1; c <= kinds; c++) {
                names[3 * c - 1] = "" + c;
                names[3 * c] = c + "+";
                names[3 * c + 1] = c + "-";
            }
            int ends = 2 + 3 * kinds;
            for (int told = 0; told < ends; told++) {
                CoilBench x = Check.of("relay Z 1 1 make;relay A 1 1" + " break".repeat(kinds) + ";wire plus A." + names[told] + ";");
                for (int c = 1; c <= kinds; c++) {
                    x.dust(1, c, true);
                }
                for (int e = -2; e <= 22; e++) {
                    int due = e < 0 || e >= ends ? -1 : e == told ? 1 : 0;
                    Check.due("net(0, 1, " + e + ") with " + names[told], x.net(0, 1, e), due);
                }
                Check.due("net(0, 2, 0)", x.net(0, 2, 0), -1);
                Check.due("net(0, -1, 0)", x.net(0, -1, 0), -1);
                Check.due("net(0, 0, 0)", x.net(0, 0, 0), 0);
            }
        }
        CoilBench full = Check.of(full());
        for (int r = 0; r <= 40; r++) {
            int ends = 2 + 3 * (r % 7);
            Check.due("the last end of " + r, full.net(0, r, ends - 1), r < 40 ? 0 : -1);
            Check.due("none behind of " + r, full.net(0, r, ends), -1);
        }
        for (int far : FAR) {
            Check.due("net(0, 0, " + far + ")", full.net(0, 0, far), -1);
            Check.due("net(0, " + far + ", 0)", full.net(0, far, 0), -1);
            Check.due("net(" + far + ", 0, 0)", full.net(far, 0, 0), -1);
        }
    }

    /** Promise 14: "of others 0 and 1". */
    private static void netsOfOthers() {
        String[] names = {"r", "kx", "lx", "cx", "dx"};
        for (int sort = 1; sort < 5; sort++) {
            int last = MOST[sort] - 1;
            for (int end = 0; end < 2; end++) {
                CoilBench x = Check.of(full() + "wire minus " + names[sort] + last + "." + (end + 1) + ";");
                for (int e = -1; e <= 3; e++) {
                    int other = sort == 3 ? 2 : sort == 4 && end == 1 ? 2 : 0;
                    int due = e < 0 || e > 1 ? -1 : e == end ? 2 : other;
                    Check.due("net(" + sort + ", " + last + ", " + e + ")", x.net(sort, last, e), due);
                    Check.due("net(" + sort + ", " + (last - 1) + ", " + e + ")", x.net(sort, last - 1, e), e < 0 || e > 1 ? -1 : 0);
                    Check.due("net(" + sort + ", " + (last + 1) + ", " + e + ")", x.net(sort, last + 1, e), -1);
                    Check.due("net(" + sort + ", -1, " + e + ")", x.net(sort, -1, e), -1);
                }
                for (int far : FAR) {
                    Check.due("net(" + sort + ", 0, " + far + ")", x.net(sort, 0, far), -1);
                    Check.due("net(" + sort + ", " + far + ", 0)", x.net(sort, far, 0), -1);
                }
            }
        }
    }

    /** Promise 14: "Of sort 5 part 0: e 0 plus, 1 minus. NONE where there is none such." */
    private static void netsOfRails() {
        for (CoilBench x : new CoilBench[] {new CoilBench(), Check.of(BENCH), Check.of(full())}) {
            for (int sort = 5; sort <= 7; sort++) {
                for (int i = -1; i <= 1; i++) {
                    for (int e = -1; e <= 2; e++) {
                        boolean is = sort == 5 && i == 0 && e >= 0 && e <= 1;
                        Check.due("net(" + sort + ", " + i + ", " + e + ")", x.net(sort, i, e), is ? e + 1 : -1);
                    }
                }
            }
            Check.due("net(-1, 0, 0)", x.net(-1, 0, 0), -1);
            for (int far : FAR) {
                Check.due("net(5, " + far + ", 0)", x.net(5, far, 0), -1);
                Check.due("net(5, 0, " + far + ")", x.net(5, 0, far), -1);
            }
        }
    }

    /** Promise 15: "stuck at how (0, 1, 2), or not any more (NONE): true; false: no such contact or how." */
    private static void stuck() {
        CoilBench x = Check.of(BENCH);
        x.key(0, true);
        x.tick(1);
        String ahead = all(x);
        int[] kinds = {0, 2, 6};
        for (int r = -1; r <= 3; r++) {
            for (int c = -1; c <= 8; c++) {
                boolean is = r >= 0 && r < 3 && c >= 1 && c <= kinds[r];
                if (!is) {
                    Check.due("stuck(" + r + ", " + c + ", 2)", x.stuck(r, c, 2), false);
                    Check.due("stuck(" + r + ", " + c + ", -1)", x.stuck(r, c, -1), false);
                } else {
                    Check.due("stuck(" + r + ", " + c + ", -2)", x.stuck(r, c, -2), false);
                    Check.due("stuck(" + r + ", " + c + ", 3)", x.stuck(r, c, 3), false);
                }
            }
        }
        for (int far : FAR) {
            Check.due("stuck(" + far + ", 1, 1)", x.stuck(far, 1, 1), false);
            Check.due("stuck(1, " + far + ", 1)", x.stuck(1, far, 1), false);
            Check.due("stuck(1, 1, " + far + ")", far == -1 || !x.stuck(1, 1, far), true);
        }
        same("behind refused ones", x, ahead);
        stuckAtAll();
    }

    private static void stuckAtAll() {
        CoilBench x = Check.of(BENCH);
        String ahead = all(x);
        for (int how = -1; how <= 2; how++) {
            for (int c = 1; c <= 6; c++) {
                Check.due("stuck(2, " + c + ", " + how + ")", x.stuck(2, c, how), true);
            }
            Check.due("the POSITION", x.contact(2, 6), 0);
        }
        for (int c = 1; c <= 6; c++) {
            Check.due("not any more", x.stuck(2, c, -1), true);
            Check.due("and once more", x.stuck(2, c, -1), true);
        }
        same("behind all are free again", x, ahead);
    }

    /** Promise 16: "dusty, or not any more: true; false: no such contact." */
    private static void dust() {
        CoilBench x = Check.of(BENCH);
        x.key(0, true);
        x.tick(1);
        String ahead = all(x);
        int[] kinds = {0, 2, 6};
        for (int r = -1; r <= 3; r++) {
            for (int c = -1; c <= 8; c++) {
                boolean is = r >= 0 && r < 3 && c >= 1 && c <= kinds[r];
                if (!is) {
                    Check.due("dust(" + r + ", " + c + ", true)", x.dust(r, c, true), false);
                    Check.due("dust(" + r + ", " + c + ", false)", x.dust(r, c, false), false);
                }
            }
        }
        for (int far : FAR) {
            Check.due("dust(" + far + ", 1, true)", x.dust(far, 1, true), false);
            Check.due("dust(1, " + far + ", true)", x.dust(1, far, true), false);
        }
        same("behind refused ones", x, ahead);
        for (int round = 0; round < 2; round++) {
            for (int c = 1; c <= 6; c++) {
                Check.due("dust(2, " + c + ", true)", x.dust(2, c, true), true);
            }
        }
        for (int c = 1; c <= 6; c++) {
            Check.due("dust(2, " + c + ", false)", x.dust(2, c, false), true);
        }
        same("behind all are free again", x, ahead);
    }

    /** Promises 15 and 16, with 40 relays of 6 contacts: one stuck or dusty leaves those beside it. */
    private static void wearOfAFullBench() {
        String text = "";
        for (int r = 0; r < 40; r++) {
            text += "relay r" + r + " 1 1 make make make make make make;";
        }
        text += "wire plus r0.1 r0.2 r0.6 r1.1 r1.6 r38.6 r39.1 r39.5 r39.6;";
        int[][] ends = {{0, 1}, {0, 2}, {0, 6}, {1, 1}, {1, 6}, {38, 6}, {39, 1}, {39, 5}, {39, 6}};
        for (int[] worn : ends) {
            CoilBench dusty = Check.of(text);
            CoilBench stuck = Check.of(text);
            Check.due("dust", dusty.dust(worn[0], worn[1], true), true);
            Check.due("stuck", stuck.stuck(worn[0], worn[1], 2), true);
            for (int[] each : ends) {
                int back = 3 * each[1] + 1;
                Check.due("back of " + each[0] + ", " + each[1], dusty.net(0, each[0], back), each == worn ? 0 : 1);
                Check.due("back of " + each[0] + ", " + each[1], stuck.net(0, each[0], back), each == worn ? 0 : 1);
                Check.due("front of " + each[0] + ", " + each[1], stuck.net(0, each[0], back - 1), each == worn ? 1 : 0);
            }
        }
        CoilBench x = Check.of(text);
        Check.due("stuck(39, 7, 0)", x.stuck(39, 7, 0), false);
        Check.due("stuck(40, 1, 0)", x.stuck(40, 1, 0), false);
        Check.due("dust(39, 7, true)", x.dust(39, 7, true), false);
        Check.due("dust(40, 1, true)", x.dust(40, 1, true), false);
    }

    /** "An object is used for at most 512 calls": the 512th answers as the first ones did. */
    private static void lastCalls() {
        CoilBench feeds = new CoilBench();
        for (int k = 1; k <= 511; k++) {
            Check.due("feed " + k, feed(feeds, "key a;key b;key cde;"), k <= 200 ? 20 * k : -1);
        }
        Check.due("the 512th call, load(12)", feeds.load(12), 0);
        CoilBench ticks = new CoilBench();
        for (int k = 1; k <= 511; k++) {
            Check.due("tick " + k, ticks.tick(500), 500 * k);
        }
        Check.due("the 512th call, count(6)", ticks.count(6), 255500);
        CoilBench loads = new CoilBench();
        for (int k = 1; k <= 255; k++) {
            feed(loads, "relay A 1 1;relay  B");
            Check.due("load " + k, loads.load(k % 2 == 0 ? 12 : 20), k % 2 == 0 ? 1 : -1);
        }
        Check.due("the 511th call, adder(7)", loads.adder(7), 14);
        Check.due("the 512th call, count(2)", loads.count(2), 23);
        CoilBench adders = new CoilBench();
        for (int k = 1; k <= 511; k++) {
            Check.due("adder " + k, adders.adder(1 + k % 7), 2 + 2 * (k % 7));
        }
        Check.due("the 512th call, quiet()", adders.quiet(), 0);
        CoilBench backs = new CoilBench();
        for (int k = 1; k <= 256; k++) {
            Check.due("tick " + k, backs.tick(100), 100);
            Check.due("back " + k, backs.back(100), 0);
        }
        lastOfDearCalls();
    }

    private static void lastOfDearCalls() {
        CoilBench buzzer = Check.of("relay A 1 1 break;wire plus A.1;wire A.1- A.p;wire A.n minus;clock c 7 2;wire plus c.1;");
        for (int k = 1; k <= 500; k++) {
            Check.due("quiet " + k, buzzer.quiet(), -1);
        }
        Check.due("the TIME", buzzer.count(6), 1000000);
        Check.due("the clock", buzzer.net(3, 0, 1), 1000000 % 7 < 2 ? 1 : 0);
        CoilBench races = Check.of("relay A 16 1 make;relay B 16 1 break;relay C 1 20;key k;wire plus k.1 A.1;wire k.2 A.p B.p;"
            + "wire minus A.n B.n C.n;wire A.1+ B.1;wire B.1- C.p;");
        races.key(0, true);
        for (int k = 0; k < 240; k++) {
            Check.due("race(16) " + k, races.race(16), 1);
            Check.due("race(15) " + k, races.race(15), 0);
        }
        Check.due("the TIME", races.count(6), 0);
    }
}
