/** Promises 8 to 16: keys, ticks, coils, contacts, lamps, nets, stuck and dusty contacts. */
final class StatesTest {
    private static final String ONE = "relay A 3 2 break make;key k;lamp l;lamp m;wire plus k.1 A.1 A.2;wire k.2 A.p;"
        + "wire A.n minus l.2 m.2;wire A.1+ l.1;wire A.2- m.1;";

    public static void main(String[] args) {
        keys();
        ticks();
        countsFallBack();
        contacts();
        breakAndMake();
        quiet();
        quietCountsCounts();
        energised();
        shorts();
        clocks();
        diodes();
        nets();
        stuck();
        dust();
        Check.end("StatesTest");
    }

    private static void keys() {
        CoilBench x = Check.of(ONE);
        Check.due("key(0, true)", x.key(0, true), true);
        Check.due("key(1, true)", x.key(1, true), false);
        Check.due("key(-1, true)", x.key(-1, true), false);
        Check.due("key's other end", x.net(1, 0, 1), 1);
        Check.due("ENERGISED at once", x.relay(0, 2), 1);
        Check.due("key(0, false)", x.key(0, false), true);
        Check.due("key's other end when up", x.net(1, 0, 1), 0);
        CoilBench all = Check.of(parts("key ", 24, ";") + parts("wire plus ", 24, ".1;"));
        for (int k = 0; k < 24; k++) {
            Check.due("ahead of key " + k, all.net(1, k, 1), 0);
            Check.due("key " + k, all.key(k, true), true);
            Check.due("behind key " + k, all.net(1, k, 1), 1);
        }
        Check.due("key 24", all.key(24, true), false);
        all.key(7, false);
        Check.due("key 6 stays", all.net(1, 6, 1), 1);
        Check.due("key 7 is up", all.net(1, 7, 1), 0);
    }

    private static String parts(String before, int howMany, String behind) {
        StringBuilder text = new StringBuilder();
        for (int k = 0; k < howMany; k++) {
            text.append(before).append("k").append(k).append(behind);
        }
        return text.toString();
    }

    private static void coil(CoilBench x, String when, int picked, int count) {
        Check.due("picked " + when, x.relay(0, 0), picked);
        Check.due("COUNT " + when, x.relay(0, 1), count);
    }

    private static void ticks() {
        CoilBench x = Check.of(ONE);
        Check.due("tick(-1)", x.tick(-1), -1);
        Check.due("tick(501)", x.tick(501), -1);
        Check.due("tick(0)", x.tick(0), 0);
        Check.due("none to take back", x.count(8), 0);
        x.key(0, true);
        Check.due("tick(1)", x.tick(1), 1);
        coil(x, "at 1", 0, 1);
        x.tick(1);
        coil(x, "at 2", 0, 2);
        x.tick(1);
        coil(x, "at 3", 1, 0);
        x.tick(1);
        coil(x, "at 4", 1, 0);
        x.key(0, false);
        x.tick(1);
        coil(x, "at 5", 1, 1);
        x.tick(1);
        coil(x, "at 6", 0, 0);
        Check.due("tick(500)", x.tick(500), 506);
        Check.due("the TIME", x.count(6), 506);
        Check.due("kept", x.count(8), 100);
    }

    private static void countsFallBack() {
        CoilBench x = Check.of(ONE);
        x.key(0, true);
        x.tick(2);
        x.key(0, false);
        x.tick(1);
        coil(x, "not ENERGISED", 0, 0);
        x.key(0, true);
        x.tick(3);
        x.key(0, false);
        x.tick(1);
        coil(x, "dropping", 1, 1);
        x.key(0, true);
        x.tick(1);
        coil(x, "ENERGISED again", 1, 0);
    }

    private static void contacts() {
        CoilBench x = Check.of(ONE);
        Check.due("contact(0, 0)", x.contact(0, 0), -1);
        Check.due("contact(0, 3)", x.contact(0, 3), -1);
        Check.due("contact(-1, 1)", x.contact(-1, 1), -1);
        Check.due("contact(1, 1)", x.contact(1, 1), -1);
        x.key(0, true);
        int[] up = {0, 0, 1, 2, 2};
        for (int k = 0; k < up.length; k++) {
            x.tick(1);
            Check.due("contact 1 at " + (k + 1), x.contact(0, 1), up[k]);
            Check.due("contact 2 at " + (k + 1), x.contact(0, 2), up[k]);
        }
        x.key(0, false);
        int[] down = {2, 1, 0, 0};
        for (int k = 0; k < down.length; k++) {
            x.tick(1);
            Check.due("contact 1 at " + (k + 6), x.contact(0, 1), down[k]);
        }
    }

    private static void breakAndMake() {
        CoilBench x = Check.of("relay A 1 1 break make;key k;wire plus k.1 A.1 A.2;wire k.2 A.p;wire A.n minus;");
        int[][] due = {{0, 1, 0, 1}, {0, 0, 1, 1}, {1, 0, 1, 0}};
        x.key(0, true);
        for (int at = 0; at < 3; at++) {
            Check.due("front of break at " + at, x.net(0, 0, 3), due[at][0]);
            Check.due("back of break at " + at, x.net(0, 0, 4), due[at][1]);
            Check.due("front of make at " + at, x.net(0, 0, 6), due[at][2]);
            Check.due("back of make at " + at, x.net(0, 0, 7), due[at][3]);
            x.tick(1);
        }
        CoilBench through = Check.of("relay A 1 1 make;wire plus A.1- A.p;wire A.n minus;");
        through.tick(1);
        Check.due("from back to front of make between", through.net(0, 0, 3), 1);
    }

    private static void quiet() {
        CoilBench x = Check.of(ONE);
        Check.due("quiet at rest", x.quiet(), 0);
        Check.due("its TIME", x.count(6), 1);
        x.key(0, true);
        Check.due("quiet with the key down", x.quiet(), 4);
        Check.due("its TIME", x.count(6), 6);
        Check.due("its ticks are kept", x.count(8), 6);
        CoilBench buzzer = Check.of("relay A 1 1 break;wire plus A.1;wire A.1- A.p;wire A.n minus;");
        Check.due("quiet of a buzzer", buzzer.quiet(), -1);
        Check.due("its TIME", buzzer.count(6), 2000);
        Check.due("kept", buzzer.count(8), 100);
        CoilBench clock = Check.of("relay A 1 1;clock c 100 99;wire plus c.1;wire c.2 A.p;wire A.n minus;");
        Check.due("quiet while only the TIME goes on", clock.quiet(), 1);
    }

    private static void quietCountsCounts() {
        CoilBench x = Check.of("relay A 20 20;key k;wire plus k.1;wire k.2 A.p;wire A.n minus;");
        x.key(0, true);
        Check.due("COUNTS are no quiet", x.quiet(), 20);
        x.key(0, false);
        x.tick(3);
        x.key(0, true);
        Check.due("a COUNT that falls is no quiet", x.quiet(), 1);
    }

    private static int fed(String wires) {
        CoilBench x = Check.of("relay A 1 1;lamp l;lamp m;" + wires + "wire l.1 A.p;wire l.2 A.n;wire m.1 A.n;wire m.2 A.p;");
        Check.due("lamp as the coil with " + wires, x.lamp(0), x.relay(0, 2));
        Check.due("lamp turned round with " + wires, x.lamp(1), x.relay(0, 2));
        return x.relay(0, 2);
    }

    private static void energised() {
        Check.due("p LIVE, n GROUNDED", fed("wire plus A.p;wire minus A.n;"), 1);
        Check.due("n LIVE, p GROUNDED", fed("wire plus A.n;wire minus A.p;"), 1);
        Check.due("both LIVE", fed("wire plus A.n A.p;"), 0);
        Check.due("both GROUNDED", fed("wire minus A.n A.p;"), 0);
        Check.due("one LIVE", fed("wire plus A.p;"), 0);
        Check.due("one GROUNDED", fed("wire minus A.p;"), 0);
        Check.due("none", fed(""), 0);
        Check.due("all SHORT", fed("wire plus A.p;wire minus A.n;wire plus minus;"), 0);
        Check.due("one SHORT, one GROUNDED",
            fed("diode d;diode e;wire plus d.1 A.p;wire minus d.2 e.2;wire e.1 A.n;"), 0);
        Check.due("one SHORT, one LIVE", fed("diode d;diode e;wire plus d.1 e.1;wire minus d.2 A.p;wire e.2 A.n;"), 0);
        CoilBench x = Check.of(ONE);
        Check.due("lamp(-1)", x.lamp(-1), -1);
        Check.due("lamp(2)", x.lamp(2), -1);
        Check.due("lamp 0", x.lamp(0), 0);
        Check.due("lamp 1", x.lamp(1), 1);
        x.key(0, true);
        x.tick(4);
        Check.due("lamp 0 with the coil picked", x.lamp(0), 1);
        Check.due("lamp 1 with the coil picked", x.lamp(1), 0);
    }

    private static void shorts() {
        CoilBench x = Check.of("key k;key m;lamp l;wire plus k.1 l.1;wire k.2 m.1;wire minus m.2 l.2;");
        Check.due("lit", x.lamp(0), 1);
        x.key(0, true);
        Check.due("still lit", x.lamp(0), 1);
        Check.due("no SHORT", x.count(7), 0);
        x.key(1, true);
        Check.due("SHORT NETS", x.count(7), 3);
        Check.due("plus is SHORT", x.net(5, 0, 0), 3);
        Check.due("minus is SHORT", x.net(5, 0, 1), 3);
        Check.due("dark", x.lamp(0), 0);
    }

    private static void clocks() {
        CoilBench x = Check.of("clock c 5 2;relay A 1 1;wire plus c.1;wire c.2 A.p;wire A.n minus;");
        int[] on = {1, 1, 0, 0, 0, 1, 1, 0};
        int[] picked = {0, 1, 0, 0, 0, 1, 1, 0};
        for (int time = 0; time < on.length; time++) {
            Check.due("clock at " + time, x.net(3, 0, 1), on[time]);
            Check.due("coil at " + time, x.relay(0, 0), picked[time]);
            x.tick(1);
        }
    }

    private static void diodes() {
        CoilBench x = Check.of("diode d;wire plus d.1;");
        Check.due("LIVE behind a diode", x.net(4, 0, 1), 1);
        CoilBench y = Check.of("diode d;wire plus d.2;");
        Check.due("not ahead of it", y.net(4, 0, 0), 0);
        CoilBench z = Check.of("diode d;wire minus d.2;");
        Check.due("GROUNDED ahead of a diode", z.net(4, 0, 0), 2);
        CoilBench w = Check.of("diode d;wire minus d.1;");
        Check.due("not behind it", w.net(4, 0, 1), 0);
        CoilBench s = Check.of("diode d;wire plus d.1;wire d.2 minus;");
        Check.due("SHORT", s.count(7), 2);
        StringBuilder chain = new StringBuilder("key k;wire minus k.1;wire k.2 d0.2;");
        for (int d = 23; d >= 0; d--) {
            chain.append("diode d").append(d).append(";");
            chain.append(d == 0 ? "" : "wire d" + d + ".2 d" + (d - 1) + ".1;");
        }
        CoilBench c = Check.of(chain + "wire plus d23.1;");
        Check.due("a chain of diodes", c.net(4, 23, 1), 1);
        c.key(0, true);
        Check.due("a chain of diodes, SHORT", c.net(5, 0, 0), 3);
        Check.due("its minus", c.net(5, 0, 1), 3);
    }

    private static void nets() {
        CoilBench x = Check.of(ONE);
        int[] ends = {0, 2, 1, 0, 1, 1, 0, 1};
        for (int e = 0; e < ends.length; e++) {
            Check.due("end " + e + " of A", x.net(0, 0, e), ends[e]);
        }
        Check.due("end -1 of A", x.net(0, 0, -1), -1);
        Check.due("end 8 of A", x.net(0, 0, 8), -1);
        Check.due("A 1", x.net(0, 1, 0), -1);
        Check.due("A -1", x.net(0, -1, 0), -1);
        Check.due("key's 1", x.net(1, 0, 0), 1);
        Check.due("key's 2", x.net(1, 0, 1), 0);
        Check.due("key's 3", x.net(1, 0, 2), -1);
        Check.due("lamp's 1", x.net(2, 1, 0), 1);
        Check.due("lamp's 2", x.net(2, 1, 1), 2);
        Check.due("no clock", x.net(3, 0, 0), -1);
        Check.due("no diode", x.net(4, 0, 0), -1);
        Check.due("plus", x.net(5, 0, 0), 1);
        Check.due("minus", x.net(5, 0, 1), 2);
        Check.due("no third rail", x.net(5, 0, 2), -1);
        Check.due("no rail -1", x.net(5, 0, -1), -1);
        Check.due("no rails 1", x.net(5, 1, 0), -1);
        Check.due("no sort 6", x.net(6, 0, 0), -1);
        Check.due("no sort -1", x.net(-1, 0, 0), -1);
    }

    private static void stuck() {
        CoilBench x = Check.of(ONE);
        Check.due("stuck(0, 1, -2)", x.stuck(0, 1, -2), false);
        Check.due("stuck(0, 1, 3)", x.stuck(0, 1, 3), false);
        Check.due("stuck(0, 0, 1)", x.stuck(0, 0, 1), false);
        Check.due("stuck(0, 3, 1)", x.stuck(0, 3, 1), false);
        Check.due("stuck(1, 1, 1)", x.stuck(1, 1, 1), false);
        Check.due("stuck(-1, 1, 1)", x.stuck(-1, 1, 1), false);
        Check.due("stuck(0, 1, 2)", x.stuck(0, 1, 2), true);
        Check.due("as at the front", x.net(0, 0, 3), 1);
        Check.due("not as at the back", x.net(0, 0, 4), 0);
        Check.due("its POSITION", x.contact(0, 1), 0);
        Check.due("stuck(0, 2, 1)", x.stuck(0, 2, 1), true);
        Check.due("make stuck between, front", x.net(0, 0, 6), 1);
        Check.due("make stuck between, back", x.net(0, 0, 7), 1);
        Check.due("stuck(0, 1, 1)", x.stuck(0, 1, 1), true);
        Check.due("break stuck between, front", x.net(0, 0, 3), 0);
        Check.due("break stuck between, back", x.net(0, 0, 4), 0);
        x.stuck(0, 1, 0);
        x.key(0, true);
        x.tick(4);
        Check.due("its POSITION goes on", x.contact(0, 1), 2);
        Check.due("stuck at the back", x.net(0, 0, 4), 1);
        Check.due("not any more", x.stuck(0, 1, -1), true);
        Check.due("as its POSITION is, back", x.net(0, 0, 4), 0);
        Check.due("as its POSITION is, front", x.net(0, 0, 3), 1);
    }

    private static void dust() {
        CoilBench x = Check.of(ONE);
        Check.due("dust(0, 0, true)", x.dust(0, 0, true), false);
        Check.due("dust(0, 3, true)", x.dust(0, 3, true), false);
        Check.due("dust(1, 1, true)", x.dust(1, 1, true), false);
        Check.due("dust(-1, 1, false)", x.dust(-1, 1, false), false);
        Check.due("dust(0, 1, true)", x.dust(0, 1, true), true);
        Check.due("nothing is joined", x.net(0, 0, 4), 0);
        Check.due("the other contact", x.net(0, 0, 7), 1);
        x.stuck(0, 1, 0);
        Check.due("stuck and dusty", x.net(0, 0, 4), 0);
        x.key(0, true);
        x.tick(3);
        Check.due("its POSITION goes on", x.contact(0, 1), 1);
        Check.due("not any more", x.dust(0, 1, false), true);
        Check.due("stuck as ever", x.net(0, 0, 4), 1);
    }
}
