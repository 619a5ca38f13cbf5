/** Terms, 2. STATES: each sentence that names a boundary, at the boundary and on both of its sides. */
final class StatesBoundsTest {
    private static final int NOTHING = 0;
    private static final int LIVE = 1;
    private static final int GROUNDED = 2;
    private static final int SHORT = 3;

    public static void main(String[] args) {
        atFirst();
        pickedAtItsTime();
        droppedAtItsTime();
        lostAheadOfItsTime();
        fedAgainAheadOfItsTime();
        contactsAtTheirEnds();
        contactsThatTurnRound();
        contactsOfCoilsThatCount();
        contactsByKind();
        stuckByKind();
        dusty();
        wornContactsGoOn();
        keysDownAndUp();
        clocksRoundTheirTime();
        clocksLate();
        clocksByTheNewTime();
        diodesOneWay();
        longWays();
        railsAlone();
        shortOrNot();
        energisedOrNot();
        allCoilsAtOnce();
        contactsBehindCoils();
        lastParts();
        Check.end("StatesBoundsTest");
    }

    private static CoilBench oneCoil(int pick, int drop, String kinds) {
        return Check.of("relay A " + pick + " " + drop + kinds + ";key k;wire plus k.1;wire k.2 A.p;wire minus A.n;");
    }

    private static void coil(CoilBench x, String when, int picked, int count) {
        Check.due("picked " + when, x.relay(0, 0), picked);
        Check.due("COUNT " + when, x.relay(0, 1), count);
    }

    /** "At first: not picked, COUNT 0, 0; keys up; 0." */
    private static void atFirst() {
        CoilBench x = oneCoil(1, 1, " make make make make make make");
        coil(x, "at first", 0, 0);
        for (int c = 1; c <= 6; c++) {
            Check.due("POSITION at first of " + c, x.contact(0, c), 0);
        }
        Check.due("the key is up", x.net(1, 0, 1), NOTHING);
        Check.due("the TIME", x.count(6), 0);
        x.tick(1);
        coil(x, "with the key up", 0, 0);
        Check.due("the TIME counts ticks", x.count(6), 1);
    }

    /** "COUNT 1 more, at P it's picked, COUNT 0": for every P. */
    private static void pickedAtItsTime() {
        for (int pick = 1; pick <= 20; pick++) {
            CoilBench x = oneCoil(pick, 21 - pick, "");
            x.key(0, true);
            for (int t = 1; t < pick; t++) {
                x.tick(1);
                coil(x, "at " + t + ", P " + pick, 0, t);
            }
            x.tick(1);
            coil(x, "at P " + pick, 1, 0);
            x.tick(1);
            coil(x, "behind P " + pick, 1, 0);
            x.tick(30);
            coil(x, "long behind P " + pick, 1, 0);
        }
    }

    /** "COUNT 1 more, at D it's dropped, COUNT 0": for every D. */
    private static void droppedAtItsTime() {
        for (int drop = 1; drop <= 20; drop++) {
            CoilBench x = oneCoil(21 - drop, drop, "");
            x.key(0, true);
            x.tick(21 - drop);
            x.key(0, false);
            for (int t = 1; t < drop; t++) {
                x.tick(1);
                coil(x, "at " + t + ", D " + drop, 1, t);
            }
            x.tick(1);
            coil(x, "at D " + drop, 0, 0);
            x.tick(1);
            coil(x, "behind D " + drop, 0, 0);
        }
    }

    /** "not ENERGISED: COUNT 0": one tick ahead of P it begins anew. */
    private static void lostAheadOfItsTime() {
        for (int pick = 2; pick <= 20; pick++) {
            CoilBench x = oneCoil(pick, 1, "");
            x.key(0, true);
            x.tick(pick - 1);
            x.key(0, false);
            coil(x, "ahead of P " + pick, 0, pick - 1);
            x.tick(1);
            coil(x, "not ENERGISED", 0, 0);
            x.key(0, true);
            x.tick(pick - 1);
            coil(x, "ahead of P anew", 0, pick - 1);
            x.tick(1);
            coil(x, "at P anew", 1, 0);
        }
    }

    /** "ENERGISED: COUNT 0": one tick ahead of D it begins anew. */
    private static void fedAgainAheadOfItsTime() {
        for (int drop = 2; drop <= 20; drop++) {
            CoilBench x = oneCoil(1, drop, "");
            x.key(0, true);
            x.tick(1);
            x.key(0, false);
            x.tick(drop - 1);
            coil(x, "ahead of D " + drop, 1, drop - 1);
            x.key(0, true);
            x.tick(1);
            coil(x, "ENERGISED", 1, 0);
            x.key(0, false);
            x.tick(drop - 1);
            coil(x, "ahead of D anew", 1, drop - 1);
            x.tick(1);
            coil(x, "at D anew", 0, 0);
        }
    }

    private static void contacts(CoilBench x, String when, int due) {
        for (int c = 1; c <= 6; c++) {
            Check.due("contact " + c + " " + when, x.contact(0, c), due);
        }
        Check.due("contact 0 " + when, x.contact(0, 0), -1);
        Check.due("contact 7 " + when, x.contact(0, 7), -1);
    }

    /** "each contact has a POSITION: 0 back, 1 between, 2 front": it stays at 0 and at 2. */
    private static void contactsAtTheirEnds() {
        CoilBench x = oneCoil(2, 2, " break make break make break make");
        x.tick(3);
        contacts(x, "at rest", 0);
        x.key(0, true);
        x.tick(1);
        contacts(x, "ahead of P", 0);
        x.tick(1);
        contacts(x, "at P", 1);
        x.tick(1);
        contacts(x, "behind P", 2);
        x.tick(1);
        contacts(x, "at the front", 2);
        x.tick(50);
        contacts(x, "long at the front", 2);
        x.key(0, false);
        x.tick(1);
        contacts(x, "ahead of D", 2);
        x.tick(1);
        contacts(x, "at D", 1);
        x.tick(1);
        contacts(x, "behind D", 0);
        x.tick(50);
        contacts(x, "long at the back", 0);
    }

    /** "goes one towards 2 if its coil is picked (by now), else one towards 0": from 1 too. */
    private static void contactsThatTurnRound() {
        CoilBench x = oneCoil(1, 1, " make make make make make make");
        boolean[] down = {true, false, true, true, false, true, true, false, false, false};
        int[] due = {1, 0, 1, 2, 1, 2, 2, 1, 0, 0};
        for (int t = 0; t < due.length; t++) {
            x.key(0, down[t]);
            x.tick(1);
            contacts(x, "at " + (t + 1), due[t]);
        }
    }

    /** "goes one towards 2 if its coil is picked (by now), else one towards 0": whatever its COUNT is. */
    private static void contactsOfCoilsThatCount() {
        CoilBench x = oneCoil(1, 4, " break make break make break make");
        x.key(0, true);
        x.tick(1);
        x.key(0, false);
        x.tick(1);
        coil(x, "that loses", 1, 1);
        contacts(x, "of one that loses", 2);
        CoilBench y = oneCoil(4, 1, " break make break make break make");
        y.key(0, true);
        y.tick(6);
        y.key(0, false);
        y.tick(1);
        contacts(y, "of one that dropped", 1);
        y.key(0, true);
        y.tick(1);
        coil(y, "that gains", 0, 1);
        contacts(y, "of one that gains", 0);
    }

    /** Which of the ends are LIVE when plus is wired to one of them: bits 1 the middle, 2 the front, 4 the back. */
    private static int live(CoilBench x) {
        int ends = 0;
        for (int e = 0; e < 3; e++) {
            ends |= x.net(0, 0, 2 + e) == LIVE ? 1 << e : 0;
        }
        return ends;
    }

    private static int joinedAt(String kind, int position) {
        if (position == 1) {
            return kind.equals("make") ? 7 : 0;
        }
        return position == 0 ? 5 : 3;
    }

    private static void joined(CoilBench x, String kind, int position, int end) {
        int all = joinedAt(kind, position);
        int due = (all & 1 << end) != 0 ? all : 1 << end;
        Check.due("ends of " + kind + " at " + position + " from end " + end, live(x), due);
    }

    /** "the middle and the back of a contact at 0, the middle and the front at 2; at 1 of break none, of make all three". */
    private static void contactsByKind() {
        String[] sides = {"", "+", "-"};
        for (String kind : new String[] {"break", "make"}) {
            for (int end = 0; end < 3; end++) {
                CoilBench x = Check.of("relay A 1 1 " + kind + ";key k;wire plus k.1;wire k.2 A.p;wire minus A.n;"
                    + "wire plus A.1" + sides[end] + ";");
                joined(x, kind, 0, end);
                x.key(0, true);
                x.tick(1);
                joined(x, kind, 1, end);
                x.tick(1);
                joined(x, kind, 2, end);
                x.key(0, false);
                x.tick(1);
                joined(x, kind, 1, end);
                x.tick(1);
                joined(x, kind, 0, end);
            }
        }
    }

    /** "A stuck contact counts as at the position in which it is stuck": at each, whatever its POSITION is. */
    private static void stuckByKind() {
        String[] sides = {"", "+", "-"};
        for (String kind : new String[] {"break", "make"}) {
            for (int end = 0; end < 3; end++) {
                CoilBench x = Check.of("relay A 1 1 " + kind + ";key k;wire plus k.1;wire k.2 A.p;wire minus A.n;"
                    + "wire plus A.1" + sides[end] + ";");
                x.key(0, true);
                for (int position = 0; position <= 2; position++) {
                    for (int how = 0; how <= 2; how++) {
                        x.stuck(0, 1, how);
                        joined(x, kind, how, end);
                        Check.due("its POSITION", x.contact(0, 1), position);
                    }
                    x.stuck(0, 1, -1);
                    joined(x, kind, position, end);
                    x.tick(1);
                }
            }
        }
    }

    /** "of one that is dusty nothing is joined": at every POSITION, stuck or not. */
    private static void dusty() {
        for (String kind : new String[] {"break", "make"}) {
            CoilBench x = Check.of("relay A 1 1 " + kind + " make;key k;wire plus k.1;wire k.2 A.p;wire minus A.n;wire plus A.1;");
            x.key(0, true);
            x.dust(0, 1, true);
            for (int position = 0; position <= 2; position++) {
                for (int how = -1; how <= 2; how++) {
                    x.stuck(0, 1, how);
                    Check.due("dusty " + kind + " at " + position + ", stuck at " + how, live(x), 1);
                }
                x.stuck(0, 1, -1);
                x.dust(0, 1, false);
                joined(x, kind, position, 0);
                x.dust(0, 1, true);
                x.tick(1);
            }
        }
    }

    /** "its POSITION goes on below". */
    private static void wornContactsGoOn() {
        for (int how = -1; how <= 2; how++) {
            CoilBench x = oneCoil(1, 1, " break make");
            x.stuck(0, 1, how);
            x.dust(0, 2, true);
            x.key(0, true);
            int[] due = {0, 1, 2, 2, 1, 0, 0};
            for (int t = 0; t < due.length; t++) {
                Check.due("POSITION of 1 stuck at " + how, x.contact(0, 1), due[t]);
                Check.due("POSITION of 2, dusty", x.contact(0, 2), due[t]);
                x.key(0, t < 3);
                x.tick(1);
            }
        }
    }

    /** "a key's ends when it's down": both ways. */
    private static void keysDownAndUp() {
        CoilBench x = Check.of("key k;key m;key o;wire plus k.1;wire minus m.2;");
        for (int down = 0; down < 8; down++) {
            for (int k = 0; k < 3; k++) {
                x.key(k, (down >> k & 1) != 0);
            }
            Check.due("k's 2 with " + down, x.net(1, 0, 1), (down & 1) != 0 ? LIVE : NOTHING);
            Check.due("m's 1 with " + down, x.net(1, 1, 0), (down & 2) != 0 ? GROUNDED : NOTHING);
            Check.due("o's 1 with " + down, x.net(1, 2, 0), NOTHING);
        }
        x.key(0, true);
        x.key(0, true);
        Check.due("down twice", x.net(1, 0, 1), LIVE);
        x.key(0, false);
        x.key(0, false);
        Check.due("up twice", x.net(1, 0, 1), NOTHING);
    }

    /** "a clock's when TIME % T is below ON": for two rounds of each. */
    private static void clocksRoundTheirTime() {
        int[] periods = {2, 3, 4, 7, 50, 99, 100};
        for (int period : periods) {
            for (int on : new int[] {1, 2, period / 2, period - 1}) {
                if (on < 1 || on >= period) {
                    continue;
                }
                CoilBench x = Check.of("clock c " + period + " " + on + ";wire plus c.2;");
                for (int time = 0; time <= 2 * period; time++) {
                    Check.due("clock " + period + " " + on + " at " + time, x.net(3, 0, 0), time % period < on ? LIVE : NOTHING);
                    x.tick(1);
                }
            }
        }
    }

    /** "TIME % T": long behind the first rounds. */
    private static void clocksLate() {
        CoilBench x = Check.of("clock c 97 96;clock d 97 1;clock e 100 50;clock f 2 1;wire plus c.1 d.1 e.1 f.1;");
        for (int call = 0; call < 400; call++) {
            x.tick(500);
        }
        int[] periods = {97, 97, 100, 2};
        int[] on = {96, 1, 50, 1};
        Check.due("a TIME one ahead of a round's end", x.tick(13) % 97, 96);
        for (int more = 0; more < 3; more++) {
            int time = x.count(6);
            for (int c = 0; c < 4; c++) {
                Check.due("clock " + c + " at " + time, x.net(3, c, 1), time % periods[c] < on[c] ? LIVE : NOTHING);
            }
            x.tick(1);
        }
    }

    /** "clocks by the new TIME". */
    private static void clocksByTheNewTime() {
        CoilBench x = Check.of("relay A 1 1;clock c 3 1;wire plus c.1;wire c.2 A.p;wire minus A.n;");
        Check.due("ENERGISED at 0", x.relay(0, 2), 1);
        int[] picked = {0, 0, 1, 0, 0, 1};
        for (int t = 0; t < picked.length; t++) {
            x.tick(1);
            Check.due("picked at " + (t + 1), x.relay(0, 0), picked[t]);
            Check.due("ENERGISED at " + (t + 1), x.relay(0, 2), picked[t]);
        }
    }

    /** "from a diode's 1 to its 2", and for GROUNDED "one leads from it to minus in that way". */
    private static void diodesOneWay() {
        CoilBench x = Check.of("diode a;diode b;diode c;diode d;wire plus a.1 b.2;wire minus c.1 d.2;");
        Check.due("behind a, gone in at 1", x.net(4, 0, 1), LIVE);
        Check.due("behind b, gone in at 2", x.net(4, 1, 0), NOTHING);
        Check.due("behind c, gone in at 1", x.net(4, 2, 1), NOTHING);
        Check.due("ahead of d", x.net(4, 3, 0), GROUNDED);
        CoilBench two = Check.of("diode a;diode b;wire plus a.1;wire a.2 b.2;wire b.1 minus;");
        Check.due("between two that meet", two.net(4, 0, 1), LIVE);
        Check.due("plus", two.net(5, 0, 0), LIVE);
        Check.due("minus", two.net(5, 0, 1), GROUNDED);
        CoilBench both = Check.of("diode a;diode b;wire plus a.1 b.2;wire a.2 b.1;wire minus minus;");
        Check.due("two against each other", both.net(4, 1, 0), LIVE);
    }

    /** "a way leads to it from plus: from NET to NET": through as many as a TEXT can hold, one by one. */
    private static void longWays() {
        int relays = 26;
        StringBuilder text = new StringBuilder("diode d;key k;clock c 2 1;wire plus d.1;wire d.2 k.1;wire k.2 c.1;wire c.2 a0.1;");
        for (int r = 0; r < relays; r++) {
            text.append("relay a").append(r).append(" 1 1 break break break break break break;");
            for (int c = 1; c <= 6; c++) {
                String next = c < 6 ? "a" + r + "." + (c + 1) : r + 1 < relays ? "a" + (r + 1) + ".1" : "l.1";
                text.append("wire a").append(r).append('.').append(c).append("-").append(next).append(';');
            }
        }
        CoilBench x = Check.of(text + "lamp l;wire l.2 minus;");
        Check.due("with the key up", x.lamp(0), 0);
        x.key(0, true);
        Check.due("with the key down", x.lamp(0), 1);
        Check.due("the last back", x.net(0, relays - 1, 19), LIVE);
        x.stuck(relays - 1, 6, 1);
        Check.due("with the last one between", x.lamp(0), 0);
        Check.due("its middle", x.net(0, relays - 1, 17), LIVE);
        Check.due("its back", x.net(0, relays - 1, 19), NOTHING);
        x.stuck(relays - 1, 6, -1);
        x.dust(0, 1, true);
        Check.due("with the first one dusty", x.net(0, 0, 4), NOTHING);
    }

    /** "A NET is LIVE when a way leads to it from plus": plus itself, wired or not; "GROUNDED": minus itself. */
    private static void railsAlone() {
        CoilBench empty = new CoilBench();
        Check.due("plus of an empty bench", empty.net(5, 0, 0), LIVE);
        Check.due("minus of an empty bench", empty.net(5, 0, 1), GROUNDED);
        CoilBench x = Check.of("key k;wire plus k.1;");
        Check.due("minus that no wire tells", x.net(5, 0, 1), GROUNDED);
        Check.due("NETS", x.count(5), 1);
        CoilBench joined = Check.of("wire plus minus;");
        Check.due("plus of joined rails", joined.net(5, 0, 0), SHORT);
        Check.due("minus of joined rails", joined.net(5, 0, 1), SHORT);
        Check.due("SHORT NETS of joined rails", joined.count(7), 1);
    }

    /** "A NET that is both is SHORT." */
    private static void shortOrNot() {
        CoilBench x = Check.of("key k;key m;diode d;diode e;wire plus k.1 d.1;wire k.2 m.1;wire m.2 minus e.2;wire d.2 d.2;wire e.1 e.1;");
        Check.due("no SHORT NETS", x.count(7), 0);
        x.key(0, true);
        Check.due("one key down", x.count(7), 0);
        Check.due("between the keys", x.net(1, 1, 0), LIVE);
        x.key(1, true);
        Check.due("both keys down", x.count(7), 3);
        Check.due("between the keys", x.net(1, 1, 0), SHORT);
        Check.due("plus", x.net(5, 0, 0), SHORT);
        Check.due("minus", x.net(5, 0, 1), SHORT);
        Check.due("behind a diode from plus", x.net(4, 0, 1), LIVE);
        Check.due("ahead of a diode to minus", x.net(4, 1, 0), GROUNDED);
        x.key(0, false);
        Check.due("the other key down", x.count(7), 0);
        Check.due("between the keys", x.net(1, 1, 0), GROUNDED);
    }

    /** "ENERGISED when one of its ends is LIVE and not SHORT, the other one GROUNDED and not SHORT. A lamp is lit likewise." */
    private static void energisedOrNot() {
        String[] rails = {"", "d.2", "e.1", "plus"};
        for (int one = 0; one < 4; one++) {
            for (int other = 0; other < 4; other++) {
                String text = "relay A 1 1;lamp l;diode d;diode e;wire plus minus d.1 e.2;";
                text += one == 0 ? "" : "wire " + rails[one] + " A.p l.1;";
                text += other == 0 ? "" : "wire " + rails[other] + " A.n l.2;";
                CoilBench x = Check.of(text);
                int due = one == LIVE && other == GROUNDED || one == GROUNDED && other == LIVE ? 1 : 0;
                Check.due("p with " + one, x.net(0, 0, 0), one);
                Check.due("n with " + other, x.net(0, 0, 1), other);
                Check.due("ENERGISED with " + one + " and " + other, x.relay(0, 2), due);
                Check.due("lit with " + one + " and " + other, x.lamp(0), due);
                x.tick(1);
                Check.due("picked with " + one + " and " + other, x.relay(0, 0), due);
            }
        }
    }

    /** "By what is JOINED now", "POSITIONS as they are": in the same tick no coil acts on another. */
    private static void allCoilsAtOnce() {
        String[] told = {"relay A 1 1 make;relay B 1 1;", "relay B 1 1;relay A 1 1 make;"};
        for (int a = 0; a < 2; a++) {
            CoilBench x = Check.of(told[a] + "key k;wire plus k.1 A.1;wire k.2 A.p;wire minus A.n B.n;wire A.1+ B.p;");
            x.key(0, true);
            x.tick(1);
            Check.due("A at 1", x.relay(a, 0), 1);
            Check.due("A's contact at 1", x.contact(a, 1), 1);
            Check.due("B at 1", x.relay(1 - a, 0), 0);
            x.tick(1);
            Check.due("B at 2", x.relay(1 - a, 0), 1);
            x.key(0, false);
            x.tick(1);
            Check.due("A at 3", x.relay(a, 0), 0);
            Check.due("B at 3", x.relay(1 - a, 0), 1);
            x.tick(1);
            Check.due("B at 4, the make not yet at its back", x.relay(1 - a, 0), 1);
            x.tick(1);
            Check.due("B at 5", x.relay(1 - a, 0), 0);
        }
    }

    /** "Then each contact's POSITION": behind all coils of the tick. */
    private static void contactsBehindCoils() {
        String[] told = {"relay A 1 1 break;relay B 1 1;", "relay B 1 1;relay A 1 1 break;"};
        for (int a = 0; a < 2; a++) {
            CoilBench x = Check.of(told[a] + "key k;wire plus k.1 A.1;wire k.2 A.p;wire minus A.n B.n;wire A.1- B.p;");
            x.key(0, true);
            x.tick(1);
            Check.due("A at 1", x.relay(a, 0), 1);
            Check.due("B at 1", x.relay(1 - a, 0), 1);
            x.tick(1);
            Check.due("B at 2", x.relay(1 - a, 0), 0);
            x.key(0, false);
            x.tick(1);
            Check.due("A's contact at 3", x.contact(a, 1), 1);
            x.tick(1);
            Check.due("B at 4", x.relay(1 - a, 0), 0);
            x.tick(1);
            Check.due("B at 5", x.relay(1 - a, 0), 1);
        }
    }

    /** The last relay's coil and contacts, the last key, lamp, clock and diode do what the first ones do. */
    private static void lastParts() {
        String text = Check.parts("relay ", 39, " 1 1;") + "relay A 2 2 make make make make make make;"
            + Check.parts("key k", 24, ";") + Check.parts("lamp l", 24, ";") + Check.parts("clock c", 4, " 2 1;")
            + Check.parts("diode d", 24, ";") + "wire plus kx23.1;wire kx23.2 dx23.1;wire dx23.2 A.p A.6;"
            + "wire minus A.n lx23.2;wire A.6+ cx3.1;wire cx3.2 lx23.1;";
        CoilBench x = Check.of(text);
        Check.due("the last coil", x.relay(39, 2), 0);
        x.key(23, true);
        Check.due("the last coil with the last key", x.relay(39, 2), 1);
        Check.due("another coil", x.relay(38, 2), 0);
        x.tick(1);
        Check.due("its COUNT", x.relay(39, 1), 1);
        x.tick(1);
        Check.due("the last coil is picked", x.relay(39, 0), 1);
        Check.due("another coil is not", x.relay(38, 0) + x.relay(7, 0), 0);
        Check.due("the last contact", x.contact(39, 6), 1);
        Check.due("the last lamp, the last clock on", x.lamp(23), 1);
        x.tick(1);
        Check.due("the last contact at the front", x.contact(39, 6), 2);
        Check.due("the last lamp, the last clock off", x.lamp(23), 0);
        x.tick(1);
        Check.due("the last lamp, the last clock on again", x.lamp(23), 1);
        x.dust(39, 6, true);
        Check.due("the last lamp, the last contact dusty", x.lamp(23), 0);
        x.dust(39, 6, false);
        x.stuck(39, 6, 0);
        Check.due("the last lamp, the last contact stuck", x.lamp(23), 0);
        x.stuck(39, 6, 1);
        Check.due("the last lamp, the last contact stuck between", x.lamp(23), 1);
    }
}
