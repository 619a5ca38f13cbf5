/** Promises 17 to 19: races, what they tell, and ticks that are taken back; and that the adder adds. */
final class RaceBackTest {
    private static final String LOCKED = "relay A 1 1 break;relay B 1 1 break;key k;wire plus k.1;wire k.2 A.1 B.1;"
        + "wire A.1- B.p;wire B.1- A.p;wire A.n B.n minus;";

    public static void main(String[] args) {
        locked();
        laterTick();
        tooMany();
        noRace();
        numbersRise();
        refused();
        forgotten();
        wornContacts();
        oneTickOrders();
        back();
        backKeepsOnlyHundred();
        adder();
        Check.end("RaceBackTest");
    }

    private static void told(CoilBench x, int... due) {
        for (int what = 0; what < due.length; what++) {
            Check.due("raced(" + what + ")", x.raced(what), due[what]);
        }
        Check.due("raced(-1)", x.raced(-1), -1);
        Check.due("raced behind", x.raced(due.length), -1);
        Check.due("raced(MIN)", x.raced(Integer.MIN_VALUE), -1);
    }

    private static void locked() {
        CoilBench x = Check.of(LOCKED);
        Check.due("race with the key up", x.race(16), 0);
        told(x);
        x.key(0, true);
        Check.due("race(0)", x.race(0), 0);
        Check.due("race(1)", x.race(1), 1);
        told(x, 1, 2, 0, 1);
        Check.due("the TIME is as it was", x.count(6), 0);
        Check.due("nothing to take back", x.count(8), 0);
        Check.due("A is as it was", x.relay(0, 0), 0);
        Check.due("its contact is as it was", x.contact(0, 1), 0);
        x.tick(1);
        Check.due("both are picked by a tick", x.relay(0, 0) + x.relay(1, 0), 2);
        told(x, 1, 2, 0, 1);
        Check.due("back leaves what was told", x.back(1), 0);
        told(x, 1, 2, 0, 1);
        Check.due("a later race that finds none", x.race(0), 0);
        told(x);
    }

    /** The first of the two drops at the third tick of its order and is picked again at the sixth. */
    private static void laterTick() {
        CoilBench x = Check.of(LOCKED.replace("relay A 1 1", "relay A 3 1").replace("relay B 1 1", "relay B 3 1"));
        x.key(0, true);
        Check.due("race(2)", x.race(2), 0);
        Check.due("race(3), whose 4 more end ahead of the picking anew", x.race(3), 0);
        Check.due("race(4)", x.race(4), 1);
        told(x, 3, 2, 0, 1);
        x.tick(2);
        Check.due("race(1) two ticks on", x.race(1), 0);
        Check.due("race(2) two ticks on", x.race(2), 1);
        told(x, 1, 2, 0, 1);
        Check.due("COUNTS are as they were", x.relay(0, 1) + x.relay(1, 1), 4);
    }

    private static String onKey(int relays, String behind) {
        StringBuilder text = new StringBuilder("key k;wire plus k.1;");
        for (int r = 0; r < relays; r++) {
            text.append("relay R").append(r).append(" 1 1;wire k.2 R").append(r).append(".p;wire minus R").append(r).append(".n;");
        }
        return text + behind;
    }

    private static void tooMany() {
        CoilBench x = Check.of(onKey(5, ""));
        Check.due("five with the key up", x.race(16), 0);
        x.key(0, true);
        Check.due("five DUE, no tick", x.race(0), 0);
        Check.due("five DUE", x.race(1), -1);
        told(x);
        CoilBench y = Check.of(onKey(5, LOCKED.replace("key k;wire plus k.1;", "")
            .replace("relay A 1 1", "relay A 2 1").replace("relay B 1 1", "relay B 2 1")));
        y.key(0, true);
        Check.due("five DUE, then no race yet", y.race(1), -1);
        Check.due("five DUE, then a race", y.race(2), 1);
        told(y, 2, 2, 5, 6);
    }

    private static void noRace() {
        for (int relays = 1; relays <= 4; relays++) {
            CoilBench x = Check.of(onKey(relays, ""));
            x.key(0, true);
            Check.due(relays + " that don't meet", x.race(16), 0);
            told(x);
        }
    }

    private static void numbersRise() {
        CoilBench x = Check.of("relay a 9 9;relay B 1 1 break;relay c 9 9;relay A 1 1 break;key k;wire plus k.1;"
            + "wire k.2 A.1 B.1;wire A.1- B.p;wire B.1- A.p;wire A.n B.n minus;");
        x.key(0, true);
        Check.due("race(4)", x.race(4), 1);
        told(x, 1, 2, 1, 3);
    }

    private static void refused() {
        CoilBench x = Check.of(LOCKED);
        x.key(0, true);
        Check.due("race(16)", x.race(16), 1);
        Check.due("race(-1)", x.race(-1), -2);
        Check.due("race(17)", x.race(17), -2);
        told(x, 1, 2, 0, 1);
    }

    private static CoilBench raced() {
        CoilBench x = Check.of(LOCKED);
        x.key(0, true);
        Check.due("race(2)", x.race(2), 1);
        return x;
    }

    private static void forgotten() {
        CoilBench x = raced();
        Check.due("a fault", Check.load(x, "key"), -1);
        told(x, 1, 2, 0, 1);
        Check.due("no adder", x.adder(8), -1);
        told(x, 1, 2, 0, 1);
        Check.due("load of another", Check.load(x, LOCKED), 2);
        told(x);
        CoilBench empty = raced();
        Check.due("load of no relays", Check.load(empty, ""), 0);
        told(empty);
        Check.due("no keys any more", empty.count(1), 0);
        CoilBench y = raced();
        Check.due("an adder", y.adder(1), 2);
        told(y);
    }

    private static void wornContacts() {
        CoilBench x = Check.of(LOCKED);
        x.key(0, true);
        x.stuck(0, 1, 0);
        x.stuck(1, 1, 0);
        Check.due("no race when both are stuck at the back", x.race(16), 0);
        x.dust(0, 1, true);
        Check.due("none when one can't come", x.race(16), 0);
        x.dust(0, 1, false);
        x.stuck(0, 1, -1);
        x.stuck(1, 1, -1);
        Check.due("a race again", x.race(16), 1);
    }

    /**
     * A and B are picked by the key at once; C (P 1) is fed while A is at the front and B isn't yet off its back,
     * and then holds itself: so it is picked only if A goes over first.
     */
    private static void oneTickOrders() {
        CoilBench x = Check.of("relay A 1 1 make;relay B 1 1 break;relay C 1 1 make;key k;wire plus k.1 A.1 C.1;"
            + "wire k.2 A.p B.p;wire minus A.n B.n C.n;wire A.1+ B.1;wire B.1- C.p C.1+;");
        x.key(0, true);
        Check.due("race(3)", x.race(3), 1);
        told(x, 1, 2, 0, 1);
        x.tick(10);
        Check.due("by ticks C isn't picked", x.relay(2, 0), 0);
    }

    private static void back() {
        CoilBench x = Check.of("relay A 2 2 break;key k;wire plus k.1 A.1;wire k.2 A.p;wire A.n minus;");
        Check.due("back(1) at first", x.back(1), -1);
        x.key(0, true);
        x.tick(1);
        x.key(0, false);
        Check.due("back(0)", x.back(0), -1);
        Check.due("back(-1)", x.back(-1), -1);
        Check.due("back(2)", x.back(2), -1);
        Check.due("COUNT stays", x.relay(0, 1), 1);
        Check.due("back(1)", x.back(1), 0);
        Check.due("COUNT is as it was", x.relay(0, 1), 0);
        Check.due("the key is as it was", x.net(1, 0, 1), 1);
        x.tick(4);
        Check.due("POSITION", x.contact(0, 1), 2);
        x.stuck(0, 1, 0);
        Check.due("back(2)", x.back(2), 2);
        Check.due("POSITION is as it was", x.contact(0, 1), 1);
        Check.due("the coil is as it was", x.relay(0, 0), 1);
        Check.due("two are kept", x.count(8), 2);
        Check.due("what is stuck stays", x.net(0, 0, 4), 1);
        Check.due("back(3)", x.back(3), -1);
        Check.due("back(2) again", x.back(2), 0);
        Check.due("the coil is dropped", x.relay(0, 0), 0);
        Check.due("none is kept", x.count(8), 0);
    }

    private static void backKeepsOnlyHundred() {
        CoilBench x = Check.of("relay A 1 1;clock c 7 3;wire plus c.1;wire c.2 A.p;wire minus A.n;");
        x.tick(150);
        Check.due("kept", x.count(8), 100);
        Check.due("back(101)", x.back(101), -1);
        Check.due("back(30)", x.back(30), 120);
        Check.due("kept behind it", x.count(8), 70);
        Check.due("back(71)", x.back(71), -1);
        Check.due("tick(10)", x.tick(10), 130);
        Check.due("kept behind those", x.count(8), 80);
        Check.due("back(80)", x.back(80), 50);
        Check.due("the coil at 50", x.relay(0, 0), 50 % 7 < 3 ? 1 : 0);
        Check.due("back(1) of none", x.back(1), -1);
        x.tick(100);
        Check.due("back(100)", x.back(100), 50);
    }

    private static void adder() {
        for (int n = 1; n <= 7; n++) {
            for (int k = 0; k < 12; k++) {
                int a = (k * 37 + 11) & (1 << n) - 1;
                int b = (k * 53 + 5 * k / 3) & (1 << n) - 1;
                add(n, a, b);
            }
            add(n, (1 << n) - 1, 1);
        }
    }

    private static void add(int n, int a, int b) {
        CoilBench x = new CoilBench();
        x.adder(n);
        for (int i = 0; i < n; i++) {
            x.key(2 * i, (a >> i & 1) != 0);
            x.key(2 * i + 1, (b >> i & 1) != 0);
        }
        Check.due("an adder comes to rest", x.quiet() >= 0, true);
        int sum = 0;
        for (int i = 0; i < n; i++) {
            sum |= x.lamp(3 * i) << i;
        }
        Check.due("sum of " + a + " and " + b, sum, a + b & (1 << n) - 1);
        Check.due("carry of " + a + " and " + b, x.net(2, 3 * n, 0), a + b >> n);
        Check.due("no carry of " + a + " and " + b, x.net(2, 3 * n + 1, 0), 1 - (a + b >> n));
        Check.due("nothing is SHORT", x.count(7), 0);
    }
}
