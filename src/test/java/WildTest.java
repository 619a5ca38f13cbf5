/** Any arguments in any state: every call answers, and the same calls answer the same. */
final class WildTest {
    private static final int[] WILD = {Integer.MIN_VALUE, Integer.MIN_VALUE + 1, -4001, -41, -3, -2, -1, 0, 1, 2, 3, 4, 5, 6, 7,
        8, 16, 17, 20, 23, 24, 25, 39, 40, 41, 64, 100, 101, 500, 501, 952, 3999, 4000, 4001, 65536, Integer.MAX_VALUE - 1,
        Integer.MAX_VALUE};
    private static long seed = 1;

    public static void main(String[] args) {
        long first = all();
        seed = 1;
        Check.due("the same calls once more", all(), first);
        rubbish();
        full();
        Check.end("WildTest");
    }

    private static int any(int below) {
        seed = seed * 6364136223846793005L + 1442695040888963407L;
        return (int) ((seed >>> 33) % below);
    }

    private static int wild() {
        return any(4) == 0 ? WILD[any(WILD.length)] : any(9) - 1;
    }

    private static long all() {
        long answers = 7;
        for (int k = 0; k < 400; k++) {
            CoilBench x = new CoilBench();
            if (k % 4 == 0) {
                x.adder(1 + k / 4 % 7);
            } else if (k % 4 == 1) {
                Check.load(x, "relay A 2 1 make break;relay B 1 1 break;key k;clock c 3 1;diode d;lamp l;"
                    + "wire plus k.1 c.1;wire k.2 A.1 d.1;wire d.2 B.p;wire A.1- A.p;wire minus A.n B.n l.2;wire A.2+ l.1;");
            }
            for (int call = 0; call < 500; call++) {
                answers = answers * 31 + call(x, any(18));
            }
        }
        return answers;
    }

    private static int call(CoilBench x, int which) {
        switch (which) {
            case 0: return x.feed(wild(), wild(), wild(), wild(), 0x6b3b206b);
            case 1: return any(10) == 0 ? x.load(wild()) : 0;
            case 2: return any(30) == 0 ? x.adder(wild()) : 0;
            case 3: return x.wrong(wild());
            case 4: return x.count(wild());
            case 5: return x.letter(wild(), wild(), wild());
            case 6: return x.key(wild(), any(2) == 0) ? 1 : 0;
            case 7: return x.tick(wild());
            case 8: return any(10) == 0 ? x.quiet() : 0;
            case 9: return x.relay(wild(), wild());
            case 10: return x.contact(wild(), wild());
            case 11: return x.lamp(wild());
            case 12: return x.net(wild(), wild(), wild());
            case 13: return x.stuck(wild(), wild(), wild()) ? 1 : 0;
            case 14: return x.dust(wild(), wild(), any(2) == 0) ? 1 : 0;
            case 15: return x.race(wild());
            case 16: return x.raced(wild());
            default: return x.back(wild());
        }
    }

    /** Texts of 4,000 bytes out of scraps and of any bytes. */
    private static void rubbish() {
        String scraps = "relay key lamp clock diode wire break make plus minus a.1 b.2+ c.3- ; ; 1 2 a b . + - \n";
        for (int k = 0; k < 300; k++) {
            StringBuilder text = new StringBuilder();
            while (text.length() < 4000) {
                int at = any(scraps.length());
                text.append(k % 3 == 0 ? "" + (char) any(256) : scraps.substring(at, Math.min(scraps.length(), at + 1 + any(9))));
            }
            CoilBench x = new CoilBench();
            Check.due("load of rubbish", Check.load(x, text.substring(0, 4000)), -1);
            Check.due("its fault", x.wrong(0), 1);
            Check.due("its place is in the text", x.wrong(1) >= 0 && x.wrong(1) < 4000, true);
        }
        Check.due("as many pins as there may be", Check.load(new CoilBench(), pins(1330)), 0);
        Check.due("as many statements", Check.load(new CoilBench(), "key a;".repeat(666)), -1);
    }

    private static String pins(int howMany) {
        return "diode a;wire " + "a.1".repeat(howMany - 20).substring(0, 3900) + ";";
    }

    /** All parts that there may be, with long names, many races: nothing runs out of its rows. */
    private static void full() {
        StringBuilder text = new StringBuilder();
        StringBuilder wires = new StringBuilder();
        for (int r = 0; r < 40; r++) {
            text.append("relay r" + r + " 1 1 make make make make make make;");
        }
        for (int k = 0; k < 24; k++) {
            text.append("key k" + k + ";lamp l" + k + ";diode d" + k + ";");
        }
        for (int c = 0; c < 4; c++) {
            text.append("clock c" + c + " 2 1;");
        }
        wires.append("wire plus c0.1 k0.1 d0.1;wire minus");
        for (int r = 0; r < 40; r++) {
            wires.append(" r" + r + ".n");
        }
        wires.append(";wire c0.2 r0.p r1.p r2.p r3.p;wire k0.2 r9.1 r10.1 r11.1 r12.1;");
        CoilBench x = new CoilBench();
        Check.due("a full bench", Check.load(x, text.toString() + wires), 40);
        for (int k = 0; k < 100; k++) {
            x.stuck(k % 40, 1 + k % 6, k % 4 - 1);
            Check.due("race " + k, x.race(16), 0);
            Check.due("raced " + k, x.raced(0), -1);
            x.tick(k);
        }
        Check.due("all ends of its last relay", x.net(0, 39, 19), 0);
        Check.due("no end behind", x.net(0, 39, 20), -1);
        Check.due("its NETS", x.count(5), 4);
    }
}
