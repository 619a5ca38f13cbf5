/** Terms, 3. RACES, and promises 17 to 19: each sentence that names a boundary, at it and on both of its sides. */
final class RacesBoundsTest {
    private static final int[] FAR = {Integer.MIN_VALUE, Integer.MIN_VALUE + 1, -1000, -3, -2};

    public static void main(String[] args) {
        withinLimit();
        fourTicksMore();
        ticksOnFromNow();
        howManyAreDue();
        tooManyAtTheLastTick();
        tooManyAheadOfARace();
        tooManyInAnOrderOnly();
        bothOrdersOfTwo();
        allOrdersOfThree();
        allOrdersOfFour();
        dueByDropping();
        dueByPickingAndDropping();
        wholeOrderDone();
        countsOfThoseThatWentOver();
        countsOfOthers();
        onlyPickedCoilsCompared();
        goneOverRunOn();
        clocksInOrders();
        contactsOfThoseThatWait();
        onWithTheTickItself();
        firstRaceOfTwo();
        allAsItWas();
        limitsRefused();
        racedArguments();
        racedBehindOthers();
        lastRelaysRace();
        backArguments();
        backWithinKept();
        latestHundred();
        withoutThoseTakenBack();
        roundTheRing();
        keysAsTheyWere();
        wornStays();
        noTicksKept();
        quietIsTakenBack();
        Check.end("RacesBoundsTest");
    }

    /**
     * A and B are picked by the key at tick P. C is fed while A is off its back and B still at its own: only when A
     * goes over ahead of B, and then for one tick, so that it is dropped again at tick P + 1 + its D.
     */
    private static String pair(int pick, int drop, String more) {
        return "relay A " + pick + " 1 make;relay B " + pick + " 1 break;relay C 1 " + drop + " make;" + more + "key k;"
            + "wire plus k.1 A.1;wire k.2 A.p B.p;wire minus A.n B.n C.n;wire A.1+ B.1;wire B.1- C.p;";
    }

    private static String holding(int pick, String more) {
        return pair(pick, 1, more) + "wire plus C.1;wire C.1+ C.p;";
    }

    /** Relays that the same key picks at the same tick and that do nothing else. */
    private static String others(int howMany, int pick) {
        return Check.parts("relay ", howMany, " " + pick + " 1;");
    }

    private static String fed(int howMany) {
        StringBuilder wires = new StringBuilder();
        for (int k = 0; k < howMany; k++) {
            wires.append("wire k.2 x").append(k).append(".p;wire minus x").append(k).append(".n;");
        }
        return wires.toString();
    }

    private static CoilBench down(String text) {
        CoilBench x = Check.of(text);
        x.key(0, true);
        return x;
    }

    private static void told(CoilBench x, int... due) {
        for (int what = 0; what < due.length; what++) {
            Check.due("raced(" + what + ")", x.raced(what), due[what]);
        }
        Check.due("raced behind", x.raced(due.length), -1);
        Check.due("raced(-1)", x.raced(-1), -1);
    }

    /** "tick by tick (at most limit)": for every limit a race at that very tick, and at the one behind. */
    private static void withinLimit() {
        for (int pick = 1; pick <= 18; pick++) {
            for (int limit = 0; limit <= 16; limit++) {
                CoilBench x = down(holding(pick, ""));
                Check.due("race(" + limit + ") with P " + pick, x.race(limit), limit >= pick ? 1 : 0);
                if (limit >= pick) {
                    told(x, pick, 2, 0, 1);
                } else {
                    told(x);
                }
            }
        }
    }

    /** "then on, till limit ticks (of the beginning) and 4 more are done". */
    private static void fourTicksMore() {
        for (int limit = 1; limit <= 16; limit++) {
            for (int pick = 1; pick <= limit; pick++) {
                int drop = limit + 4 - pick;
                Check.due("race(" + limit + ") with P " + pick + ", D " + drop, down(pair(pick, drop, "")).race(limit), 1);
                Check.due("race(" + limit + ") with P " + pick + ", D " + (drop - 1),
                    down(pair(pick, drop - 1, "")).race(limit), 0);
            }
        }
    }

    /** "from what there is": some ticks on already, the last of them just ahead of the race. */
    private static void ticksOnFromNow() {
        for (int gone = 0; gone <= 5; gone++) {
            CoilBench x = down(holding(6, ""));
            x.tick(gone);
            Check.due("race(16) behind " + gone, x.race(16), 1);
            told(x, 6 - gone, 2, 0, 1);
            Check.due("race within too few", x.race(5 - gone), 0);
            told(x);
            Check.due("race within just enough", x.race(6 - gone), 1);
            told(x, 6 - gone, 2, 0, 1);
            CoilBench y = down(pair(6, 6, ""));
            y.tick(gone);
            Check.due("the 4 more are from the race's beginning on", y.race(8 - gone), 1);
            Check.due("one limit more", y.race(9 - gone), 0);
        }
        CoilBench x = down(holding(6, ""));
        x.tick(6);
        Check.due("race(16) one tick too late", x.race(16), 0);
    }

    /** "when 2 to 4 are DUE at the tick", "-1 when more than 4 coils were DUE at a tick". */
    private static void howManyAreDue() {
        for (int more = 0; more <= 4; more++) {
            CoilBench x = down(holding(3, others(more, 3)) + fed(more));
            int due = 2 + more;
            Check.due("race of " + due, x.race(3), due <= 4 ? 1 : -1);
            if (due <= 4) {
                int[] all = {3, due, 0, 1, 3, 4};
                int[] these = new int[2 + due];
                System.arraycopy(all, 0, these, 0, 2 + due);
                told(x, these);
            } else {
                told(x);
            }
        }
        for (int relays = 1; relays <= 7; relays++) {
            CoilBench x = down(others(relays, 2) + "key k;wire plus k.1;" + fed(relays));
            Check.due("race of " + relays + " that don't meet", x.race(16), relays > 4 ? -1 : 0);
            told(x);
        }
        CoilBench one = down("relay A 1 1 break;key k;wire plus k.1;wire k.2 A.1;wire A.1- A.p;wire A.n minus;");
        Check.due("one DUE again and again", one.race(16), 0);
        told(one);
        Check.due("none DUE", Check.of(holding(1, "")).race(16), 0);
        Check.due("an empty bench", new CoilBench().race(16), 0);
        CoilBench apart = down("relay A 2 1;relay B 3 1;relay C 4 1;relay D 5 1;relay E 6 1;key k;wire plus k.1;"
            + "wire k.2 A.p B.p C.p D.p E.p;wire minus A.n B.n C.n D.n E.n;");
        Check.due("five, but one a tick", apart.race(16), 0);
    }

    /** "-1 when more than 4 coils were DUE at a tick": within limit. */
    private static void tooManyAtTheLastTick() {
        for (int pick = 1; pick <= 17; pick++) {
            for (int limit = Math.max(0, pick - 2); limit <= Math.min(16, pick + 1); limit++) {
                CoilBench x = down(others(5, pick) + "key k;wire plus k.1;" + fed(5));
                Check.due("race(" + limit + ") of five, P " + pick, x.race(limit), limit >= pick ? -1 : 0);
            }
        }
    }

    /** "1 when there is one; else -1": a race behind such a tick is one. */
    private static void tooManyAheadOfARace() {
        CoilBench x = down(holding(4, others(5, 2)) + fed(5));
        Check.due("race(1)", x.race(1), 0);
        Check.due("race(2)", x.race(2), -1);
        Check.due("race(3)", x.race(3), -1);
        told(x);
        Check.due("race(4)", x.race(4), 1);
        told(x, 4, 2, 0, 1);
        CoilBench y = down(holding(2, others(5, 4)) + fed(5));
        Check.due("a race ahead of such a tick", y.race(4), 1);
        told(y, 2, 2, 0, 1);
    }

    /** "when more than 4 coils were DUE at a tick": not at one of an order's alone. */
    private static void tooManyInAnOrderOnly() {
        StringBuilder text = new StringBuilder(pair(1, 1, others(5, 1)) + "wire plus C.1;");
        for (int k = 0; k < 5; k++) {
            text.append("wire C.1+ x").append(k).append(".p;wire minus x").append(k).append(".n;");
        }
        CoilBench x = down(text.toString());
        Check.due("race(1)", x.race(1), 0);
        CoilBench shown = down(text.toString());
        shown.stuck(0, 1, 2);
        shown.stuck(1, 1, 0);
        shown.tick(2);
        Check.due("five are picked when C is", shown.relay(7, 0), 1);
    }

    /** "all orders of these": of two, whichever of them is told first. */
    private static void bothOrdersOfTwo() {
        String wires = "relay C 1 20;key k;wire plus k.1 A.1;wire k.2 A.p B.p;wire minus A.n B.n C.n;wire A.1+ B.1;wire B.1- C.p;";
        CoilBench x = down("relay A 1 1 make;relay B 1 1 break;" + wires);
        Check.due("A told first", x.race(1), 1);
        told(x, 1, 2, 0, 1);
        CoilBench y = down("relay B 1 1 break;relay A 1 1 make;" + wires);
        Check.due("B told first", y.race(1), 1);
        told(y, 1, 2, 0, 1);
        CoilBench z = down("relay B 1 1 break;" + wires.replace("relay C", "relay A 1 1 make;relay C"));
        Check.due("B told first", z.race(1), 1);
    }

    /** "all orders of these": Y is picked by one order of the three only, whichever that is. */
    private static void allOrdersOfThree() {
        int[][] orders = {{0, 1, 2}, {0, 2, 1}, {1, 0, 2}, {1, 2, 0}, {2, 0, 1}, {2, 1, 0}};
        for (int[] order : orders) {
            String a = "R" + order[0];
            String b = "R" + order[1];
            String c = "R" + order[2];
            StringBuilder text = new StringBuilder("key k;wire plus k.1;");
            for (int r = 0; r < 3; r++) {
                text.append("relay R" + r + " 1 1 break make make;wire k.2 R" + r + ".p;wire minus R" + r + ".n;");
            }
            text.append("relay Y 1 20;wire minus Y.n;wire plus " + a + ".1;wire " + a + ".1+ " + b + ".2;");
            text.append("wire " + b + ".2+ " + b + ".3;wire " + b + ".3- " + c + ".1;wire " + c + ".1- Y.p;");
            CoilBench x = down(text.toString());
            Check.due("race by the order " + a + b + c, x.race(1), 1);
            told(x, 1, 3, 0, 1, 2);
            x.tick(9);
            Check.due("Y by ticks", x.relay(3, 0), 0);
        }
    }

    /**
     * "all orders of these": of four. X is picked when the one is at the front, the next just between and the last
     * still at the back; Y, when X was and the third is just between, and holds itself. So Y is picked by one order
     * of the four only.
     */
    private static void allOrdersOfFour() {
        for (int code = 0; code < 256; code++) {
            int a = code & 3;
            int b = code >> 2 & 3;
            int c = code >> 4 & 3;
            int d = code >> 6;
            if ((1 << a | 1 << b | 1 << c | 1 << d) == 15) {
                CoilBench x = down(fourAnd("wire plus R" + a + ".1;wire R" + a + ".1+ R" + b + ".2;wire R" + b
                    + ".2+ R" + b + ".3;wire R" + b + ".3- R" + d + ".1;wire R" + d + ".1- X.p;wire plus X.1;wire X.1+ R"
                    + c + ".2;wire R" + c + ".2+ R" + c + ".3;wire R" + c + ".3- Y.p Y.1+;wire plus Y.1;"));
                Check.due("race by one order", x.race(1), 1);
                told(x, 1, 4, 0, 1, 2, 3);
                x.tick(20);
                Check.due("by ticks Y isn't picked", x.relay(5, 0), 0);
            }
        }
    }

    private static String fourAnd(String wires) {
        StringBuilder text = new StringBuilder("key k;wire plus k.1;");
        for (int r = 0; r < 4; r++) {
            text.append("relay R" + r + " 1 1 break make make;wire k.2 R" + r + ".p;wire minus R" + r + ".n;");
        }
        return text + "relay X 1 1 make;relay Y 1 1 make;wire minus X.n Y.n;" + wires;
    }

    /** "A coil is DUE at a tick if it is picked or dropped by it": dropped, at every D. */
    private static void dueByDropping() {
        for (int drop = 1; drop <= 17; drop++) {
            CoilBench x = down("relay A 1 " + drop + " make;relay B 1 " + drop + " break;relay C 1 20;key k;wire plus k.1 A.1;"
                + "wire k.2 A.p B.p;wire minus A.n B.n C.n;wire A.1- B.1;wire B.1+ C.p;");
            x.tick(5);
            Check.due("A is picked", x.relay(0, 0), 1);
            Check.due("C is not", x.relay(2, 0), 0);
            Check.due("race with the key down", x.race(16), 0);
            x.key(0, false);
            Check.due("race(16) with D " + drop, x.race(16), drop <= 16 ? 1 : 0);
            if (drop <= 16) {
                told(x, drop, 2, 0, 1);
                Check.due("race one too short", x.race(drop - 1), 0);
                Check.due("race just long enough", x.race(drop), 1);
            }
        }
    }

    /** "picked or dropped": one of each at the same tick. */
    private static void dueByPickingAndDropping() {
        CoilBench x = Check.of("relay A 3 1 make;relay B 1 3 break;relay C 1 20;key k;key m;wire plus k.1 m.1 A.1;wire k.2 A.p;"
            + "wire m.2 B.p;wire minus A.n B.n C.n;wire A.1+ B.1;wire B.1+ C.p;");
        x.key(1, true);
        x.tick(5);
        x.key(1, false);
        x.key(0, true);
        Check.due("race(2)", x.race(2), 0);
        Check.due("race(3)", x.race(3), 1);
        told(x, 3, 2, 0, 1);
        x.tick(1);
        x.key(0, false);
        x.tick(1);
        x.key(0, true);
        Check.due("one a tick", x.race(16), 0);
    }

    /** "for as many ticks as they are": of four DUE at the last tick the fourth goes over at the fourth tick. */
    private static void wholeOrderDone() {
        CoilBench x = down(others(4, 5) + "key k;wire plus k.1;" + fed(4));
        Check.due("all four are picked by every order", x.race(5), 0);
        CoilBench y = down(pair(1, 5, "relay D 1 1 break;relay E 1 1 break;") + "wire k.2 D.p E.p;wire minus D.n E.n;");
        Check.due("fed for more ticks by some orders", y.race(4), 1);
        Check.due("when A is first and B last of four, three ticks", y.race(3), 1);
        told(y, 1, 4, 0, 1, 3, 4);
        CoilBench longest = down(pair(1, 1, "relay D 1 1;relay E 1 1;") + "wire k.2 D.p E.p;wire minus D.n E.n;");
        Check.due("C is dropped at the fifth tick at the latest", longest.race(1), 0);
        CoilBench longer = down(pair(1, 2, "relay D 1 1;relay E 1 1;") + "wire k.2 D.p E.p;wire minus D.n E.n;");
        Check.due("C is dropped at the sixth tick at the latest", longer.race(1), 1);
        Check.due("which is within 2 and 4 more", longer.race(2), 0);
    }

    /** "by the tick's end of coils, whatever energy it has then, COUNT 0". */
    private static void countsOfThoseThatWentOver() {
        for (int limit = 4; limit <= 16; limit++) {
            CoilBench x = down("relay A 4 4;relay B 4 1 break;key k;wire plus k.1 B.1;wire k.2 B.p;wire B.1- A.p;wire minus A.n B.n;");
            Check.due("A is dropped by both orders at the same tick", x.race(limit), 0);
        }
    }

    /** "with all others these are ticks as told": their COUNTS go on from what they were ahead of the tick. */
    private static void countsOfOthers() {
        for (int wait = 1; wait <= 4; wait++) {
            String text = "relay A 3 1 make;relay B 3 1 break;relay C " + wait + " 20;relay D 1 1;relay E 1 1;key k;"
                + "wire plus k.1 A.1;wire k.2 A.p B.p;wire minus A.n B.n C.n;wire A.1+ B.1;wire B.1- C.p;";
            Check.due("C, fed for one tick, P " + wait, down(text).race(3), wait <= 1 ? 1 : 0);
            String four = text.replace("D 1 1", "D 3 1").replace("E 1 1", "E 3 1") + "wire k.2 D.p E.p;wire minus D.n E.n;";
            Check.due("C, fed for three ticks at most, P " + wait, down(four).race(3), wait <= 3 ? 1 : 0);
        }
        CoilBench x = down("relay A 3 1 make;relay B 3 1 break;relay C 6 1;key k;wire plus k.1;wire k.2 A.p B.p C.p;wire minus A.n B.n C.n;");
        Check.due("C is picked by both orders", x.race(3), 0);
    }

    /**
     * "If the coils that are picked then are not alike": C is fed from the tick behind A's on, by one order a tick
     * earlier than by the other; only its being picked is compared, not its COUNT nor its contact's POSITION.
     */
    private static void onlyPickedCoilsCompared() {
        for (int limit = 1; limit <= 16; limit++) {
            for (int wait = limit + 1; wait <= limit + 4; wait++) {
                CoilBench x = down("relay A 1 1 make;relay B 1 1;relay C " + wait + " 1 make;key k;wire plus k.1 A.1;"
                    + "wire k.2 A.p B.p;wire minus A.n B.n C.n;wire A.1+ C.p;");
                Check.due("race(" + limit + ") with C picked behind " + wait, x.race(limit), wait == limit + 3 ? 1 : 0);
            }
        }
    }

    /**
     * "with all others these are ticks as told": with those too that went over ahead. A is fed while B is at its back, so
     * it is dropped at tick 2 + its D at the earliest, at tick 4 + its D at the latest.
     */
    private static void goneOverRunOn() {
        for (int limit = 1; limit <= 16; limit++) {
            for (int drop = limit; drop <= limit + 3; drop++) {
                CoilBench x = down("relay A 1 " + drop + ";relay B 1 1 break;relay D 1 1;relay E 1 1;key k;wire plus k.1;"
                    + "wire k.2 B.1 B.p D.p E.p;wire B.1- A.p;wire minus A.n B.n D.n E.n;");
                boolean between = drop == limit + 1 || drop == limit + 2;
                Check.due("race(" + limit + ") with A's D " + drop, x.race(limit), between ? 1 : 0);
            }
        }
    }

    /** The TIME goes on in an order's ticks: C is fed at the tick behind A's alone, if the clock is still on then. */
    private static void clocksInOrders() {
        for (int pick = 1; pick <= 16; pick++) {
            for (int on = pick; on <= pick + 3; on++) {
                CoilBench x = down("relay A " + pick + " 1 make;relay B " + pick + " 1 break;relay C 1 20;clock c 40 " + on + ";key k;"
                    + "wire plus k.1 c.1;wire c.2 A.1;wire k.2 A.p B.p;wire minus A.n B.n C.n;wire A.1+ B.1;wire B.1- C.p;");
                Check.due("race with the clock on below " + on, x.race(pick), on > pick + 1 ? 1 : 0);
            }
        }
    }

    /** "with all others these are ticks as told": contacts of those that wait go on towards 0 while they wait. */
    private static void contactsOfThoseThatWait() {
        CoilBench x = down("relay A 1 1 break;relay B 1 1 break;relay C 1 20;key k;wire plus k.1 A.1;wire k.2 A.p B.p;"
            + "wire minus A.n B.n C.n;wire A.1+ B.1;wire B.1- C.p;");
        x.tick(5);
        x.key(0, false);
        x.tick(1);
        x.key(0, true);
        Check.due("A's contact is between", x.contact(0, 1), 1);
        Check.due("B's contact is between", x.contact(1, 1), 1);
        Check.due("A at the front, B, having waited, at the back", x.race(1), 1);
        told(x, 1, 2, 0, 1);
        CoilBench y = down("relay A 1 1 break;relay B 1 1 break;relay C 1 20;key k;wire plus k.1 A.1;wire k.2 A.p B.p;"
            + "wire minus A.n B.n C.n;wire A.1+ B.1;wire B.1- C.p;");
        Check.due("from their backs A is between when B leaves its back", y.race(1), 0);
    }

    /** "Else on with the tick itself." */
    private static void onWithTheTickItself() {
        CoilBench x = down(holding(4, others(2, 2)) + fed(2));
        Check.due("DUE without a race at 2", x.race(3), 0);
        Check.due("a race at 4", x.race(4), 1);
        told(x, 4, 2, 0, 1);
    }

    /** "1, and that tick": the first one. */
    private static void firstRaceOfTwo() {
        String second = "relay F 5 1 make;relay G 5 1 break;relay H 1 20;wire plus F.1;wire k.2 F.p G.p;wire minus F.n G.n H.n;"
            + "wire F.1+ G.1;wire G.1- H.p;";
        for (int pick = 3; pick <= 7; pick++) {
            CoilBench x = down(holding(pick, "") + second);
            Check.due("race(16)", x.race(16), 1);
            if (pick < 5) {
                told(x, pick, 2, 0, 1);
            } else if (pick > 5) {
                told(x, 5, 2, 3, 4);
            } else {
                told(x, 5, 4, 0, 1, 3, 4);
            }
        }
    }

    private static String all(CoilBench x, int relays) {
        StringBuilder all = new StringBuilder();
        for (int what = 0; what <= 8; what++) {
            all.append(x.count(what)).append(' ');
        }
        for (int r = 0; r < relays; r++) {
            for (int what = 0; what <= 2; what++) {
                all.append(x.relay(r, what)).append(' ');
            }
            all.append(x.contact(r, 1)).append(' ').append(x.net(0, r, 0)).append(' ').append(x.net(0, r, 3)).append(' ');
        }
        return all.append(x.net(1, 0, 1)).toString();
    }

    /** "All is as it was then": whatever was told. */
    private static void allAsItWas() {
        String[] texts = {holding(6, ""), pair(6, 1, "relay D 4 1 break;") + "wire k.2 D.1;wire D.1- D.p;wire D.n minus;",
            holding(6, others(3, 6)) + fed(3)};
        int[] due = {1, 0, -1};
        for (int k = 0; k < 3; k++) {
            for (int gone = 1; gone <= 5; gone++) {
                CoilBench x = down(texts[k]);
                CoilBench twin = down(texts[k]);
                x.tick(gone);
                twin.tick(gone);
                String ahead = all(x, 4);
                Check.due("race of text " + k, x.race(8), due[k]);
                Check.due("all as it was", all(x, 4).equals(ahead), true);
                x.tick(7);
                twin.tick(7);
                Check.due("all goes on as without it", all(x, 4).equals(all(twin, 4)), true);
                Check.due("back over the race", x.back(7), gone);
                Check.due("all as it was ahead of those", all(x, 4).equals(ahead), true);
            }
        }
    }

    /** "-2, doing nothing, for another limit" (0 to 16); "one that told -2 is none". */
    private static void limitsRefused() {
        CoilBench x = down(holding(1, ""));
        x.tick(0);
        int[] others = {Integer.MIN_VALUE, -17, -16, -2, -1, 17, 18, 32, 100, 65536, Integer.MAX_VALUE};
        for (int limit : others) {
            Check.due("race(" + limit + ")", x.race(limit), -2);
            told(x);
        }
        Check.due("race(0)", x.race(0), 0);
        Check.due("race(1)", x.race(1), 1);
        String ahead = all(x, 3);
        for (int limit : others) {
            Check.due("race(" + limit + ")", x.race(limit), -2);
            told(x, 1, 2, 0, 1);
            Check.due("all as it was", all(x, 3).equals(ahead), true);
        }
        Check.due("race(16)", x.race(16), 1);
        Check.due("race(0) finds none", x.race(0), 0);
        told(x);
    }

    /** "0 how many ticks on it was (from 1 on), 1 how many were DUE, 2 on: these, by numbers rising. NONE for others". */
    private static void racedArguments() {
        CoilBench x = down("relay a 9 1;" + holding(2, "relay b 9 1;" + others(2, 2)) + fed(2));
        for (int what = -2; what <= 9; what++) {
            Check.due("raced(" + what + ") of none", x.raced(what), -1);
        }
        Check.due("race(3)", x.race(3), 1);
        told(x, 2, 4, 1, 2, 5, 6);
        for (int far : FAR) {
            Check.due("raced(" + far + ")", x.raced(far), -1);
        }
        for (int far : new int[] {6, 7, 39, 40, 41, 42, 43, 63, 64, 65, 66, 1000, Integer.MAX_VALUE - 1, Integer.MAX_VALUE}) {
            Check.due("raced(" + far + ")", x.raced(far), -1);
        }
    }

    /** "none behind a load() or adder() that gave relays"; what gives none leaves it. */
    private static void racedBehindOthers() {
        CoilBench x = down(holding(1, ""));
        Check.due("race(1)", x.race(1), 1);
        Check.due("load(-1)", x.load(-1), -2);
        Check.due("load(1)", x.load(1), -2);
        told(x, 1, 2, 0, 1);
        Check.due("load with a FAULT", Check.load(x, "key"), -1);
        told(x, 1, 2, 0, 1);
        Check.due("adder(0)", x.adder(0), -1);
        Check.due("adder(8)", x.adder(8), -1);
        told(x, 1, 2, 0, 1);
        x.tick(3);
        x.back(2);
        x.key(0, false);
        told(x, 1, 2, 0, 1);
        Check.due("adder(1)", x.adder(1), 2);
        told(x);
        CoilBench y = down(holding(1, ""));
        Check.due("race(1)", y.race(1), 1);
        Check.due("load", Check.load(y, "relay A 1 1;"), 1);
        told(y);
    }

    /** The relays with the highest numbers race like others. */
    private static void lastRelaysRace() {
        CoilBench x = down(Check.parts("relay q", 36, " 1 1;") + holding(1, "relay D 1 1;") + "wire k.2 D.p;wire D.n minus;");
        Check.due("race(1)", x.race(1), 1);
        told(x, 1, 3, 36, 37, 39);
        CoilBench y = down(Check.parts("relay ", 40, " 1 1;") + "key k;wire plus k.1;" + fed(40));
        Check.due("forty DUE", y.race(1), -1);
    }

    /** "n ticks (1 to 100)", "NONE, doing nothing: another n". */
    private static void backArguments() {
        CoilBench x = down(holding(6, ""));
        x.tick(103);
        String ahead = all(x, 3);
        for (int n : new int[] {Integer.MIN_VALUE, -101, -100, -2, -1, 0, 101, 102, 103, 104, 200, 65537, Integer.MAX_VALUE}) {
            Check.due("back(" + n + ")", x.back(n), -1);
            Check.due("all as it was", all(x, 3).equals(ahead), true);
        }
        Check.due("back(100)", x.back(100), 3);
        Check.due("none is kept", x.count(8), 0);
    }

    /** "or not so many are kept". */
    private static void backWithinKept() {
        Check.due("back(1) of a new object", new CoilBench().back(1), -1);
        for (int ticks = 0; ticks <= 102; ticks++) {
            int kept = Math.min(ticks, 100);
            CoilBench x = down(holding(6, ""));
            x.tick(ticks);
            Check.due("kept of " + ticks, x.count(8), kept);
            String ahead = all(x, 3);
            Check.due("one more than kept of " + ticks, x.back(kept + 1), -1);
            Check.due("all as it was", all(x, 3).equals(ahead), true);
            if (kept > 0) {
                Check.due("all that are kept of " + ticks, x.back(kept), ticks - kept);
            }
            Check.due("kept behind", x.count(8), 0);
            Check.due("back(1) behind", x.back(1), -1);
        }
    }

    /** "the latest 100 of the netlist". */
    private static void latestHundred() {
        CoilBench x = down(holding(6, ""));
        x.tick(99);
        Check.due("99 kept", x.count(8), 99);
        x.tick(1);
        Check.due("100 kept", x.count(8), 100);
        x.tick(1);
        Check.due("still 100", x.count(8), 100);
        for (int left = 100; left >= 1; left--) {
            Check.due("back(1) with " + left, x.back(1), left);
            Check.due("kept behind it", x.count(8), left - 1);
        }
        Check.due("back(1) with none", x.back(1), -1);
        Check.due("the TIME", x.count(6), 1);
    }

    /** "(the latest 100 of the netlist, without those taken back)". */
    private static void withoutThoseTakenBack() {
        CoilBench x = down(holding(6, ""));
        x.tick(100);
        Check.due("back(40)", x.back(40), 60);
        Check.due("kept behind it", x.count(8), 60);
        Check.due("back(61)", x.back(61), -1);
        x.tick(39);
        Check.due("99 kept", x.count(8), 99);
        Check.due("back(100)", x.back(100), -1);
        x.tick(1);
        Check.due("100 kept", x.count(8), 100);
        x.tick(1);
        Check.due("still 100", x.count(8), 100);
        Check.due("back(100)", x.back(100), 1);
    }

    /** "coils, COUNTS, POSITIONS, the TIME and the keys are as they were": for every n, round the kept ones' end. */
    private static void roundTheRing() {
        String text = "relay A 3 4 make;relay B 2 2 break;relay C 5 1 make;clock c 13 7;clock d 7 3;key k;wire plus c.1 d.1;"
            + "wire c.2 A.p k.1;wire d.2 B.p;wire k.2 C.p;wire minus A.n B.n C.n;";
        String[] due = new String[240];
        for (int time = 0; time < due.length; time++) {
            CoilBench x = down(text);
            x.tick(time);
            due[time] = at(x);
        }
        for (int n = 1; n <= 100; n++) {
            CoilBench x = down(text);
            x.tick(137);
            Check.due("back(" + n + ")", x.back(n), 137 - n);
            Check.due("as it was at " + (137 - n), at(x).equals(due[137 - n]), true);
            x.tick(n + 1);
            Check.due("as it is at 138", at(x).equals(due[138]), true);
            x.tick(101);
            Check.due("back(100) once more", x.back(100), 139);
            Check.due("as it was at 139", at(x).equals(due[139]), true);
        }
    }

    private static String at(CoilBench x) {
        StringBuilder all = new StringBuilder().append(x.count(6));
        for (int r = 0; r < 3; r++) {
            all.append(' ').append(x.relay(r, 0)).append(x.relay(r, 1)).append(x.relay(r, 2)).append(x.contact(r, 1));
        }
        return all.toString();
    }

    /** "the keys are as they were ahead of the one that was n ticks ago". */
    private static void keysAsTheyWere() {
        boolean[] down = {true, false, false, true, false, true, true};
        for (int n = 1; n <= down.length; n++) {
            CoilBench x = Check.of("key k;wire plus k.1;");
            for (boolean is : down) {
                x.key(0, is);
                x.tick(1);
            }
            x.key(0, false);
            x.key(0, n % 2 == 0);
            Check.due("back(" + n + ")", x.back(n), down.length - n);
            Check.due("the key ahead of that tick", x.net(1, 0, 1), down[down.length - n] ? 1 : 0);
        }
        CoilBench last = Check.of(Check.parts("key ", 24, ";") + "wire plus x23.1 x0.1;");
        last.key(23, true);
        last.tick(1);
        last.key(23, false);
        last.key(0, true);
        Check.due("back(1)", last.back(1), 0);
        Check.due("key 23", last.net(1, 23, 1), 1);
        Check.due("key 0", last.net(1, 0, 1), 0);
    }

    /** "What is stuck or dusty stays." */
    private static void wornStays() {
        CoilBench x = Check.of("relay A 1 1 break break;wire plus A.1 A.2;");
        x.stuck(0, 1, 2);
        x.tick(1);
        x.stuck(0, 1, 1);
        x.dust(0, 2, true);
        Check.due("back(1)", x.back(1), 0);
        Check.due("stuck between, front", x.net(0, 0, 3), 0);
        Check.due("stuck between, back", x.net(0, 0, 4), 0);
        Check.due("dusty", x.net(0, 0, 7), 0);
        x.tick(1);
        x.stuck(0, 1, -1);
        x.dust(0, 2, false);
        Check.due("back(1)", x.back(1), 0);
        Check.due("not stuck any more", x.net(0, 0, 4), 1);
        Check.due("not dusty any more", x.net(0, 0, 7), 1);
    }

    /** "no tick to take back" behind a load or an adder; no tick of a refused call, of tick(0) or of a race is kept. */
    private static void noTicksKept() {
        CoilBench x = down(holding(6, ""));
        x.tick(3);
        x.tick(0);
        x.tick(501);
        x.tick(-1);
        x.race(16);
        Check.due("three are kept", x.count(8), 3);
        Check.due("a FAULT", Check.load(x, "relay;"), -1);
        Check.due("they stay", x.count(8), 3);
        Check.due("adder(8)", x.adder(8), -1);
        Check.due("they stay", x.count(8), 3);
        Check.due("load", Check.load(x, "key k;"), 0);
        Check.due("none is kept", x.count(8), 0);
        Check.due("back(1)", x.back(1), -1);
        x.tick(2);
        Check.due("two are kept", x.count(8), 2);
        Check.due("adder(1)", x.adder(1), 2);
        Check.due("none is kept", x.count(8), 0);
        Check.due("back(1)", x.back(1), -1);
        Check.due("the TIME", x.count(6), 0);
    }

    /** The TICKS of quiet() are taken back like others, the one that changed nothing too. */
    private static void quietIsTakenBack() {
        CoilBench x = down("relay A 2 2 make;key k;wire plus k.1;wire k.2 A.p;wire minus A.n;");
        Check.due("quiet", x.quiet(), 3);
        Check.due("kept", x.count(8), 4);
        Check.due("back(2)", x.back(2), 2);
        Check.due("the contact", x.contact(0, 1), 1);
        Check.due("back(2)", x.back(2), 0);
        CoilBench buzzer = Check.of("relay A 1 1 break;wire plus A.1;wire A.1- A.p;wire A.n minus;");
        Check.due("quiet", buzzer.quiet(), -1);
        Check.due("kept", buzzer.count(8), 100);
        Check.due("back(100)", buzzer.back(100), 1900);
    }
}
