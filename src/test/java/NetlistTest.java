/** Promises 1 to 7: the tape, texts and their faults, parts and their names. */
final class NetlistTest {
    public static void main(String[] args) {
        newObject();
        tape();
        soundTexts();
        syntaxFaults();
        manyFaults();
        nameFaults();
        faultOrder();
        loadKeepsOrReplaces();
        counts();
        letters();
        adders();
        Check.end("NetlistTest");
    }

    private static void newObject() {
        CoilBench x = new CoilBench();
        Check.due("NONE", CoilBench.NONE, -1);
        for (int what = 0; what <= 8; what++) {
            Check.due("new count " + what, x.count(what), 0);
        }
        Check.due("new wrong(0)", x.wrong(0), 0);
        Check.due("new wrong(1)", x.wrong(1), -1);
        Check.due("new load(0)", x.load(0), 0);
        Check.due("new load(1)", x.load(1), -2);
        Check.due("new plus", x.net(5, 0, 0), 1);
        Check.due("new minus", x.net(5, 0, 1), 2);
        Check.due("new tick", x.tick(3), 3);
        Check.due("new quiet", x.quiet(), 0);
        Check.due("new race", x.race(16), 0);
    }

    private static void tape() {
        CoilBench x = new CoilBench();
        for (int k = 1; k <= 200; k++) {
            Check.due("feed " + k, x.feed(0x20202020, 0x20202020, 0x20202020, 0x20202020, 0x20202020), 20 * k);
        }
        Check.due("feed beyond", x.feed(0, 0, 0, 0, 0), -1);
        Check.due("load beyond", x.load(4001), -2);
        Check.due("load below", x.load(-1), -2);
        Check.due("load all blanks", x.load(4000), 0);
        Check.due("tape is empty", x.load(1), -2);
        Check.due("feed again", x.feed(0x6b657920, 0x613b6b65, 0x7920623b, 0x20202020, 0x3b3b3b3b), 20);
        Check.due("load a part", x.load(12), 0);
        Check.due("its keys", x.count(1), 2);
        Check.due("the rest is gone", x.load(1), -2);
        Check.due("feed for a fault", x.feed(0x80000000, 0, 0, 0, 0), 20);
        Check.due("load of no token", x.load(1), -1);
        Check.due("its fault", x.wrong(0), 1);
        Check.due("its place", x.wrong(1), 0);
        Check.due("the tape is empty behind a fault too", x.load(1), -2);
        Check.due("a load that was -2 tells nothing", x.wrong(0), 1);
    }

    private static void soundTexts() {
        Check.sound("", 0);
        Check.sound(" \n ", 0);
        Check.sound("key a;", 0);
        Check.sound("key a1;key A1;key Key;key p;key n;", 0);
        Check.sound("key abcdefgh;", 0);
        Check.sound("relay A 1 20;", 1);
        Check.sound("relay A 0001 020 break make break make break make;", 1);
        Check.sound("relay A 1 2break\nmake;", 1);
        Check.sound("clock c 2 1;clock d 100 99;", 0);
        Check.sound("diode d;lamp l;wire d.1 l.2;", 0);
        Check.sound("wire plus minus;", 0);
        Check.sound("wire plus A.1+ A . 01 - A.p A.n A.1;relay A 3 3 make;", 1);
        Check.sound("wire p.p n.n p.n;relay p 1 1;relay n 1 1;", 2);
        Check.sound("wire d.1d.2d.1;diode d;", 0);
    }

    private static void syntaxFaults() {
        Check.faultAt(1, "^;");
        Check.faultAt(1, "^a;");
        Check.faultAt(1, "^Key a;");
        Check.faultAt(1, "^1;");
        Check.faultAt(1, "key^");
        Check.faultAt(1, "key ^");
        Check.faultAt(1, "key ^;");
        Check.faultAt(1, "key a^");
        Check.faultAt(1, "key a  ^");
        Check.faultAt(1, "key a;^;");
        Check.faultAt(1, "key a ^b;");
        Check.faultAt(1, "key ^key;");
        Check.faultAt(1, "key ^plus;");
        Check.faultAt(1, "key ^minus;");
        Check.faultAt(1, "key ^break;");
        Check.faultAt(1, "key ^make;");
        Check.faultAt(1, "key ^wire;");
        Check.faultAt(1, "key ^diode;");
        Check.faultAt(1, "key ^clock;");
        Check.faultAt(1, "key ^lamp;");
        Check.faultAt(1, "key ^relay;");
        Check.faultAt(1, "key ^abcdefghi;");
        Check.faultAt(1, "key ^1a;");
        Check.faultAt(1, "key a^_;");
        Check.faultAt(1, "key^\ta;");
        Check.faultAt(1, "key a;^\0");
        Check.faultAt(1, "relay A ^0 1;");
        Check.faultAt(1, "relay A ^21 1;");
        Check.faultAt(1, "relay A 1 ^0;");
        Check.faultAt(1, "relay A 1 ^21;");
        Check.faultAt(1, "relay A 1^;");
        Check.faultAt(1, "relay A ^;");
        Check.faultAt(1, "relay A ^00001 1;");
        Check.faultAt(1, "relay A 1 1 ^brake;");
        Check.faultAt(1, "relay A 1 1 ^1;");
        Check.faultAt(1, "relay A 1 1 break make break make break make ^break;");
        Check.faultAt(1, "relay A 1 1 break make break make break make ^abcdefghi;");
        Check.faultAt(1, "clock c ^1 1;");
        Check.faultAt(1, "clock c ^101 1;");
        Check.faultAt(1, "clock c 5 ^0;");
        Check.faultAt(1, "clock c 5 ^5;");
        Check.faultAt(1, "clock c 5^;");
        Check.faultAt(1, "wire^;");
        Check.faultAt(1, "wire plus^;");
        Check.faultAt(1, "wire plus minus^");
        Check.faultAt(1, "wire plus^.1 minus;");
        Check.faultAt(1, "wire ^key.1 plus;");
        Check.faultAt(1, "wire plus ^make;");
        Check.faultAt(1, "wire plus ^1;");
        Check.faultAt(1, "wire plus ^.;");
        Check.faultAt(1, "wire plus A^;");
        Check.faultAt(1, "wire plus A.^;");
        Check.faultAt(1, "wire plus A.^q;");
        Check.faultAt(1, "wire plus A.^P;");
        Check.faultAt(1, "wire plus A.^pn;");
        Check.faultAt(1, "wire plus A.^break;");
        Check.faultAt(1, "wire plus A.^7;");
        Check.faultAt(1, "wire plus A.^0;");
        Check.faultAt(1, "wire plus A.^00001;");
        Check.faultAt(1, "wire plus A.p^+;");
        Check.faultAt(1, "wire plus A.1+^+;");
        Check.faultAt(1, "wire plus A.1-^+;");
        Check.faultAt(1, "wire plus A.1 ^2;");
        Check.faultAt(1, "wire plus^-;");
    }

    private static void many(String before, int most, String behind) {
        String full = Check.parts(before, most, behind);
        CoilBench x = new CoilBench();
        Check.due("as many as may be of " + before, Check.load(x, full), before.equals("relay ") ? most : 0);
        Check.fault(2, full.length() + before.length(), full + Check.parts(before, 1, behind));
        Check.fault(2, full.length() + before.length(), full + before + "y" + behind + before + "z" + behind);
    }

    private static void manyFaults() {
        many("relay ", 40, " 1 1;");
        many("key ", 24, ";");
        many("lamp ", 24, ";");
        many("clock ", 4, " 2 1;");
        many("diode ", 24, ";");
    }

    private static void nameFaults() {
        Check.faultAt(3, "key a;key ^a;");
        Check.faultAt(3, "key a;relay ^a 1 1;");
        Check.faultAt(3, "relay a 1 1;clock ^a 2 1;diode a;");
        Check.faultAt(3, "lamp d;diode ^d;");
        Check.faultAt(3, "wire ^a.1 plus;");
        Check.faultAt(3, "wire plus ^a.1;key A;");
        Check.faultAt(3, "key a;wire ^a.3 plus;");
        Check.faultAt(3, "key a;wire ^a.1+ plus;");
        Check.faultAt(3, "key a;wire ^a.1- plus;");
        Check.faultAt(3, "key a;wire ^a.p plus;");
        Check.faultAt(3, "lamp a;wire ^a.n plus;");
        Check.faultAt(3, "clock a 3 1;wire plus ^a.4;");
        Check.faultAt(3, "diode a;wire plus minus ^a.6;");
        Check.faultAt(3, "relay A 1 1;wire ^A.1 plus;");
        Check.faultAt(3, "relay A 1 1 break;wire A.1 ^A.2 plus;");
        Check.faultAt(3, "relay A 1 1 break;wire A.1+ ^A.2- plus;");
        Check.faultAt(3, "relay A 1 1 make make make make make;wire A.5 ^A.6 plus;");
    }

    private static void faultOrder() {
        Check.faultAt(3, "wire ^b.1 plus;key a;key a;");
        Check.faultAt(3, "key a;key ^a;wire b.1 plus;");
        Check.faultAt(3, "key a;wire a.2 plus;relay ^a 1 1;");
        Check.faultAt(3, "key a;wire ^b.1 a.1;key a;");
        String keys = Check.parts("key ", 24, ";");
        Check.fault(2, keys.length() + 4, keys + "key y;key y;wire q.1 plus;");
        Check.fault(2, keys.length() + 15 + 4, keys + "wire q.1 x0.1 ;key x0;");
        Check.fault(1, keys.length() + 6, keys + "key y;;");
        Check.fault(1, 12, "key a;key a;;");
        Check.fault(2, Check.parts("diode ", 24, ";").length() + 6, Check.parts("diode ", 24, ";") + "diode x;" + keys + "key z;");
    }

    private static void loadKeepsOrReplaces() {
        CoilBench x = Check.of("relay A 1 1 break;key k;wire plus k.1;wire k.2 A.p;wire A.n minus;");
        x.key(0, true);
        x.tick(2);
        x.stuck(0, 1, 2);
        Check.due("a fault", Check.load(x, "relay B 1 1;key"), -1);
        Check.due("relays stay", x.count(0), 1);
        Check.due("keys stay", x.count(1), 1);
        Check.due("names stay", x.letter(0, 0, 0), 'A');
        Check.due("the TIME stays", x.count(6), 2);
        Check.due("the coil stays", x.relay(0, 0), 1);
        Check.due("what can be taken back stays", x.count(8), 2);
        Check.due("load of another", Check.load(x, "relay A 1 1 break break;key k;wire plus k.1;wire A.1 A.n;"), 1);
        Check.due("the TIME is 0", x.count(6), 0);
        Check.due("nothing to take back", x.count(8), 0);
        Check.due("back", x.back(1), -1);
        Check.due("the coil is dropped", x.relay(0, 0), 0);
        Check.due("the POSITION is 0", x.contact(0, 1), 0);
        Check.due("keys are up", x.net(1, 0, 1), 0);
        Check.due("wrong(0) is of the latest", x.wrong(0), 0);
        Check.due("nothing is stuck", netOfBack(), 1);
    }

    private static int netOfBack() {
        CoilBench x = Check.of("relay A 1 1 break;wire plus A.1;");
        x.stuck(0, 1, 2);
        x.dust(0, 1, true);
        Check.load(x, "relay A 1 1 break;wire plus A.1;");
        return x.net(0, 0, 4);
    }

    private static void counts() {
        CoilBench x = Check.of("relay A 3 4 break make;relay B 1 1;key k;lamp l;lamp m;lamp o;clock c 9 2;diode d;diode e;"
            + "wire A.p B.p;wire A.1 A.1;wire k.1 l.1;wire B.p k.1;wire A.2+ plus;");
        int[] due = {2, 1, 3, 1, 2, 3, 0, 0, 0};
        for (int what = 0; what < due.length; what++) {
            Check.due("count " + what, x.count(what), due[what]);
        }
        Check.due("count below", x.count(-1), -1);
        Check.due("count above", x.count(9), -1);
        int[] dueA = {0, 0, 0, 3, 4, 2, 3};
        for (int what = 0; what < dueA.length; what++) {
            Check.due("relay A " + what, x.relay(0, what), dueA[what]);
        }
        Check.due("ends of B", x.relay(1, 6), 1);
        Check.due("contacts of B", x.relay(1, 5), 0);
        Check.due("relay what below", x.relay(0, -1), -1);
        Check.due("relay what above", x.relay(0, 7), -1);
        Check.due("relay below", x.relay(-1, 0), -1);
        Check.due("relay above", x.relay(2, 0), -1);
        Check.due("SHORT NETS", Check.of("key k;wire plus minus;wire k.1 k.2;").count(7), 1);
        Check.due("NETS of a short", Check.of("key k;wire plus minus;wire k.1 k.2;").count(5), 2);
        CoilBench untold = Check.of("key k;key l;wire plus k.1;wire minus k.2 l.1;");
        untold.key(0, true);
        untold.key(1, true);
        Check.due("SHORT is also what no wire tells", untold.net(1, 1, 1), 3);
        Check.due("SHORT NETS that wires tell", untold.count(7), 2);
    }

    private static void name(CoilBench x, int sort, int i, String name) {
        for (int k = 0; k < name.length(); k++) {
            Check.due("letter " + k + " of " + name, x.letter(sort, i, k), name.charAt(k));
        }
        Check.due("letter behind " + name, x.letter(sort, i, name.length()), -1);
        Check.due("letter ahead of " + name, x.letter(sort, i, -1), -1);
    }

    private static void letters() {
        CoilBench x = Check.of("relay Relay1 1 1;key k;key abcdefgh;lamp Z9;clock c0 9 2;diode dd;diode zZzZ0;");
        name(x, 0, 0, "Relay1");
        name(x, 1, 0, "k");
        name(x, 1, 1, "abcdefgh");
        name(x, 2, 0, "Z9");
        name(x, 3, 0, "c0");
        name(x, 4, 0, "dd");
        name(x, 4, 1, "zZzZ0");
        Check.due("letter of no sort", x.letter(5, 0, 0), -1);
        Check.due("letter of sort -1", x.letter(-1, 0, 0), -1);
        Check.due("letter of no part", x.letter(0, 1, 0), -1);
        Check.due("letter of part -1", x.letter(0, -1, 0), -1);
    }

    private static void adders() {
        CoilBench x = Check.of("relay A 1 1;");
        Check.due("adder(0)", x.adder(0), -1);
        Check.due("adder(8)", x.adder(8), -1);
        Check.due("the netlist stays", x.count(0), 1);
        Check.load(x, "key");
        Check.due("the tape has one", x.feed(0x6b657920, 0x613b2020, 0, 0, 0), 20);
        for (int n = 1; n <= 7; n++) {
            Check.due("adder " + n, x.adder(n), 2 * n);
            Check.due("keys of adder " + n, x.count(1), 2 * n);
            Check.due("lamps of adder " + n, x.count(2), 3 * n + 2);
        }
        Check.due("adder leaves wrong(0)", x.wrong(0), 1);
        Check.due("adder leaves wrong(1)", x.wrong(1), 3);
        name(x, 0, 3, "B1");
        name(x, 1, 4, "a2");
        name(x, 2, 0, "s0");
        name(x, 2, 1, "C0");
        name(x, 2, 2, "N0");
        name(x, 2, 3, "s1");
        name(x, 2, 21, "C7");
        name(x, 2, 22, "N7");
        Check.due("the tape stays", x.load(6), 0);
        Check.due("and is read", x.count(1), 1);
    }
}
