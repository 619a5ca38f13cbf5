/** Terms, 1. NETLIST: each sentence that names a boundary, at the boundary and on both of its sides. */
final class NetlistBoundsTest {
    private static final String[] WORDS = {"relay", "key", "lamp", "clock", "diode", "wire", "break", "make", "plus", "minus"};
    private static final String[] SORTS = {"relay", "key", "lamp", "clock", "diode"};
    private static final int[] MOST = {40, 24, 24, 4, 24};
    private static final String[] BEHIND = {" 1 1;", ";", ";", " 2 1;", ";"};

    public static void main(String[] args) {
        longestText();
        noStatements();
        blanks();
        signsInWords();
        signsAheadOfWords();
        signsInNumbers();
        lonelySigns();
        wordSizes();
        wordsThatWrapAround();
        numberSizes();
        numbersThatWrapAround();
        coilTimes();
        kinds();
        clockTimes();
        fewestPins();
        shortStatements();
        reservedWords();
        relayPins();
        otherPins();
        numbersInPins();
        wordsInPins();
        textsThatEndEarly();
        placesBehindBlanks();
        mostOfEachSort();
        mostOfAllSorts();
        mostEnds();
        mostWays();
        firstOfManyFaults();
        faultsInTheirOrder();
        faultsOneBehindAnother();
        namesToldAhead();
        namesThatDiffer();
        namesToldAnywhere();
        firstOfNameFaults();
        numberedBySort();
        netsOfWires();
        Check.end("NetlistBoundsTest");
    }

    private static boolean isLetter(int sign) {
        return sign >= 65 && sign <= 90 || sign >= 97 && sign <= 122;
    }

    private static boolean isDigit(int sign) {
        return sign >= 48 && sign <= 57;
    }

    private static boolean isBlank(int sign) {
        return sign == 32 || sign == 10;
    }

    /** "A TEXT of at most 4,000 bytes": parts and faults at its last bytes. */
    private static void longestText() {
        String full = " ".repeat(3994) + "key a;";
        CoilBench x = new CoilBench();
        Check.due("load of 4,000 bytes", Check.load(x, full), 0);
        Check.due("its key", x.count(1), 1);
        Check.due("its key's name", x.letter(1, 0, 0), 'a');
        Check.feed(x, full);
        Check.due("load of 3,999 of them", x.load(3999), -1);
        Check.due("their fault's place", x.wrong(1), 3999);
        Check.fault(1, 4000, " ".repeat(3995) + "key a");
        Check.fault(1, 3999, " ".repeat(3999) + ";");
        Check.fault(1, 0, ";".repeat(4000));
        Check.fault(1, 4, "key " + "a".repeat(3996));
        Check.fault(1, 8, "relay a " + "1".repeat(3992));
        Check.faultAt(3, "key a;" + " ".repeat(3979) + "wire a.1 ^b.1  ;");
        Check.sound("key a;wire " + "a.1".repeat(1329) + ";", 0);
        Check.fault(1, 3998, "key a;wire " + "a.1".repeat(1329));
        Check.fault(1, 3999, "key a;wire " + "a.1".repeat(1329) + ";;");
        Check.sound("wire plus minus;".repeat(250), 0);
    }

    /** "STMTS, each with ; behind it": none at all, in no bytes or in blanks alone. */
    private static void noStatements() {
        Check.sound("", 0);
        Check.sound(" ", 0);
        Check.sound("\n", 0);
        Check.sound(" \n".repeat(2000), 0);
    }

    /** "blanks (32, 10) part TOKENS": those two and no other. */
    private static void blanks() {
        for (int sign = 0; sign < 256; sign++) {
            String text = "key" + (char) sign + "a;";
            if (isBlank(sign)) {
                Check.sound(text, 0);
            } else {
                Check.fault(1, isLetter(sign) || isDigit(sign) ? 0 : 3, text);
            }
        }
        Check.sound("\n \n key\n\na \n ; \n", 0);
    }

    /** "a letter, then letters and digits, 8 at most, of either size": from A to Z, a to z, 0 to 9 and no further. */
    private static void signsInWords() {
        for (int sign = 0; sign < 256; sign++) {
            String text = "key a" + (char) sign + ";";
            if (isLetter(sign) || isDigit(sign) || isBlank(sign)) {
                Check.sound(text, 0);
            } else {
                Check.fault(1, sign == ';' ? 6 : 5, text);
            }
        }
    }

    /** "a letter, then": no digit at first. */
    private static void signsAheadOfWords() {
        for (int sign = 0; sign < 256; sign++) {
            String text = "key " + (char) sign + ";";
            if (isLetter(sign)) {
                CoilBench x = Check.of(text);
                Check.due("name of sign " + sign, x.letter(1, 0, 0), sign);
            } else {
                Check.fault(1, isBlank(sign) ? 5 : 4, text);
            }
        }
    }

    /** "NUMBERS (digits": from 0 to 9 and no further. */
    private static void signsInNumbers() {
        for (int sign = 0; sign < 256; sign++) {
            String text = "relay A 1" + (char) sign + " 5;";
            if (isDigit(sign)) {
                Check.due("P of sign " + sign, Check.of(text).relay(0, 3), 10 + sign - '0');
            } else if (isBlank(sign)) {
                Check.sound(text, 1);
            } else {
                Check.fault(1, 9, text);
            }
        }
    }

    /** "and . ; + - .": nothing else is a token, and none of these begins a statement. */
    private static void lonelySigns() {
        for (int sign = 0; sign < 256; sign++) {
            if (isBlank(sign)) {
                Check.sound("" + (char) sign, 0);
            } else {
                Check.fault(1, 0, "" + (char) sign);
                if (!isLetter(sign) && !isDigit(sign)) {
                    Check.fault(1, 6, "key a;" + (char) sign + ";");
                }
            }
        }
    }

    /** "8 at most", "a WORD of more than 8": at its first byte. */
    private static void wordSizes() {
        String signs = "aB3dE6gH9jK2";
        for (int size = 1; size <= signs.length(); size++) {
            String word = signs.substring(0, size);
            if (size <= 8) {
                CoilBench x = Check.of("key " + word + ";wire " + word + ".1 plus;");
                for (int k = 0; k < size; k++) {
                    Check.due("letter " + k + " of " + word, x.letter(1, 0, k), signs.charAt(k));
                }
                Check.due("letter behind " + word, x.letter(1, 0, size), -1);
            } else {
                Check.faultAt(1, "key ^" + word + ";");
                Check.faultAt(1, "wire plus ^" + word + ".1;");
                Check.faultAt(1, "relay a 1 1 ^" + word + ";");
                Check.faultAt(1, "wire plus a.^" + word + ";");
                Check.faultAt(1, "^" + word + " a;");
            }
        }
        Check.faultAt(1, "key ^abcdefg89;");
        Check.faultAt(1, "key a ^abcdefgh;");
    }

    /** A WORD of more than 8 is none, even when its last bytes look like one. */
    private static void wordsThatWrapAround() {
        Check.faultAt(1, "key a;^aaaaaaaakey b;");
        Check.faultAt(1, "^keykeykeykey b;");
        Check.faultAt(1, "key abcdefgh;wire plus ^xabcdefgh.1;");
        Check.faultAt(1, "key abcdefgh;wire plus ^abcdefghabcdefgh.1;");
        Check.faultAt(1, "relay A 1 1;wire plus A.^pppppppppp;");
    }

    /** "NUMBERS (digits, at most 4, by their value)", "a NUMBER of more than 4". */
    private static void numberSizes() {
        String[] ones = {"1", "01", "001", "0001"};
        String[] twenties = {"20", "020", "0020"};
        for (String one : ones) {
            for (String twenty : twenties) {
                CoilBench x = Check.of("relay A " + one + " " + twenty + " make;wire A." + one + " plus;");
                Check.due("P of " + one, x.relay(0, 3), 1);
                Check.due("D of " + twenty, x.relay(0, 4), 20);
                Check.due("contact " + one, x.net(0, 0, 2), 1);
            }
        }
        Check.faultAt(1, "relay A ^00001 1;");
        Check.faultAt(1, "relay A 1 ^00020;");
        Check.faultAt(1, "relay A ^000000000001 1;");
        Check.faultAt(1, "relay A 1 1 make;wire plus A.^00001;");
        Check.faultAt(1, "clock c ^00002 1;");
        Check.faultAt(1, "clock c 2 ^00001;");
        Check.sound("clock c 0002 0001;", 0);
        Check.faultAt(1, "relay A ^0000 1;");
        Check.faultAt(1, "relay A ^9999 1;");
        Check.faultAt(1, "relay A ^10000 1;");
    }

    /** A NUMBER of more than 4 is none, even when its value comes round to a small one in 32 or 64 bits. */
    private static void numbersThatWrapAround() {
        Check.faultAt(1, "relay A ^4294967297 1;");
        Check.faultAt(1, "relay A 1 ^18446744073709551617;");
        Check.faultAt(1, "relay A 1 1 make;wire plus A.^4294967297;");
        Check.faultAt(1, "relay A ^257 1;");
        Check.faultAt(1, "relay A ^65 1;");
    }

    /** "P, D: NUMBERS 1 to 20", "a NUMBER that isn't within what is told". */
    private static void coilTimes() {
        for (int time = 0; time <= 22; time++) {
            String first = "relay A " + time + " 7;";
            String second = "relay A 7 " + time + ";";
            if (time >= 1 && time <= 20) {
                Check.due("P " + time, Check.of(first).relay(0, 3), time);
                Check.due("D " + time, Check.of(second).relay(0, 4), time);
            } else {
                Check.fault(1, 8, first);
                Check.fault(1, 10, second);
            }
        }
        CoilBench x = Check.of("relay A 1 20;relay B 20 1;");
        Check.due("P of A", x.relay(0, 3), 1);
        Check.due("D of A", x.relay(0, 4), 20);
        Check.due("P of B", x.relay(1, 3), 20);
        Check.due("D of B", x.relay(1, 4), 1);
        Check.faultAt(1, "relay A 1^;");
        Check.faultAt(1, "relay A 1 ^make;");
        Check.faultAt(1, "relay A 1 1 ^1;");
    }

    /** "at most 6 KINDS: break or make", "a seventh KIND". */
    private static void kinds() {
        for (int kinds = 0; kinds <= 6; kinds++) {
            for (int bits = 0; bits < 1 << kinds; bits++) {
                StringBuilder text = new StringBuilder("relay A 1 1");
                for (int c = 0; c < kinds; c++) {
                    text.append((bits >> c & 1) == 0 ? " break" : " make");
                }
                CoilBench x = Check.of(text + ";");
                Check.due("contacts of " + text, x.relay(0, 5), kinds);
                if (kinds == 6) {
                    Check.fault(1, text.length() + 1, text + " break;");
                    Check.fault(1, text.length() + 1, text + " make make;");
                    Check.fault(1, text.length() + 1, text + " breaks;");
                }
            }
        }
        Check.faultAt(1, "relay A 1 1 ^Break;");
        Check.faultAt(1, "relay A 1 1 make ^makes;");
        Check.faultAt(1, "relay A 1 1 make break make break make break^");
    }

    /** "T 2 to 100, ON 1 to T - 1". */
    private static void clockTimes() {
        for (int period = 0; period <= 103; period++) {
            int[] tries = {0, 1, period / 2, period - 1, period, period + 1};
            for (int on : tries) {
                String text = "clock c " + period + " " + on + ";";
                if (on < 0) {
                    continue;
                }
                if (period < 2 || period > 100) {
                    Check.fault(1, 8, text);
                } else if (on < 1 || on > period - 1) {
                    Check.fault(1, 9 + ("" + period).length(), text);
                } else {
                    Check.sound(text, 0);
                }
            }
        }
        Check.faultAt(1, "clock c 2^;");
        Check.faultAt(1, "clock c ^200 1;");
        Check.faultAt(1, "clock c 5 4 ^1;");
    }

    /** "wire PIN PIN {PIN} ;": two at the least. */
    private static void fewestPins() {
        Check.faultAt(1, "wire^;");
        Check.faultAt(1, "wire plus^;");
        Check.faultAt(1, "key a;wire a.1^;");
        Check.faultAt(1, "relay A 1 1 make;wire A.1+^;");
        Check.sound("wire plus minus;", 0);
        Check.sound("wire plus plus;", 0);
        Check.sound("key a;wire a.1 a.1;", 0);
        Check.sound("key a;wire a.1 a.2 plus;", 0);
    }

    /** STMTS that end ahead of what they have to tell, each at every place, and one token beyond. */
    private static void shortStatements() {
        String[] marked = {"relay^;", "relay A^;", "relay A 1^;", "relay ^1 1;", "key^;", "key a^ b;", "lamp^;", "lamp a^ 1;",
            "clock^;", "clock c^;", "clock c 2^;", "clock ^2 1;", "clock c 2 1^ 1;", "diode^;", "diode d^ 1;", "wire^;",
            "wire plus^;", "wire plus a^;", "wire plus a.^;", "relay A 1 1^", "wire plus minus^", "relay A 1 1 make^", "key a^",
            "lamp a^", "clock c 2 1^", "diode d^", "^A 1 1;", "^1;", "key a;^a;", "^make;", "^plus minus;"};
        for (String text : marked) {
            String tight = text.replace("^ ", " ^");
            Check.faultAt(1, tight);
            Check.faultAt(1, "lamp o;" + tight);
            if (!tight.endsWith("^")) {
                Check.faultAt(1, tight + "lamp o;");
            }
        }
    }

    /** "NAME: a WORD that is none of relay key lamp clock diode wire break make plus minus." */
    private static void reservedWords() {
        for (String word : WORDS) {
            Check.faultAt(1, "key ^" + word + ";");
            Check.faultAt(1, "relay ^" + word + " 1 1;");
            Check.faultAt(1, "clock ^" + word + " 2 1;");
            Check.sound("key " + word + "s;", 0);
            Check.sound("key " + word.substring(0, word.length() - 1) + ";", 0);
            Check.sound("key " + word.substring(1) + ";", 0);
            Check.sound("key x" + word + ";", 0);
            Check.sound("key " + word.toUpperCase() + ";", 0);
            Check.sound("key " + word.substring(0, 1).toUpperCase() + word.substring(1) + ";", 0);
            Check.sound("key " + word + "0;", 0);
            if (!word.equals("plus") && !word.equals("minus")) {
                Check.faultAt(1, "wire plus ^" + word + ".1;");
            }
        }
        Check.faultAt(1, "wire plus plus^.1;");
        Check.faultAt(1, "wire minus minus^.1;");
        Check.sound("key p;key n;wire p.1 n.2;", 0);
    }

    /**
     * "of a relay p or n (its coil's ends), or 1 to 6 (a contact's middle), this and + (its front), this and - (its
     * back)", "of a PIN what stands behind its . : a WORD but p and n, a NUMBER but 1 to 6", "a contact beyond its KINDS".
     */
    private static void relayPins() {
        for (int kinds = 0; kinds <= 6; kinds++) {
            String text = "relay A 1 1" + " make".repeat(kinds) + ";wire plus ";
            Check.sound(text + "A.p A.n;", 1);
            for (int c = 0; c <= 8; c++) {
                for (String side : new String[] {"", "+", "-"}) {
                    String whole = text + "A." + c + side + ";";
                    if (c < 1 || c > 6) {
                        Check.fault(1, text.length() + 2, whole);
                    } else if (c > kinds) {
                        Check.fault(3, text.length(), whole);
                    } else {
                        int end = 3 * c - 1 + (side.equals("+") ? 1 : side.equals("-") ? 2 : 0);
                        CoilBench x = Check.of(whole);
                        Check.due("ends of " + whole, x.relay(0, 6), 1);
                        Check.due("end " + end + " of " + whole, x.net(0, 0, end), 1);
                    }
                }
            }
        }
        Check.faultAt(1, "relay A 1 1 make;wire plus A.p^+;");
        Check.faultAt(1, "relay A 1 1 make;wire plus A.n^-;");
        Check.faultAt(1, "relay A 1 1 make;wire plus A.1+^-;");
        Check.faultAt(1, "relay A 1 1 make;wire plus A^;");
        Check.faultAt(1, "relay A 1 1 make;wire plus A.^;");
        Check.faultAt(1, "relay A 1 1 make;wire plus A.^+;");
        Check.faultAt(1, "relay A 1 1 make;wire plus A.1^.1;");
    }

    /** "of a key, lamp, clock 1 or 2; of a diode 1 (where it is gone in) or 2", "+ or - of what is no relay's contact". */
    private static void otherPins() {
        for (int sort = 1; sort < 5; sort++) {
            String text = SORTS[sort] + " a" + BEHIND[sort] + "wire plus ";
            for (int end = 0; end <= 8; end++) {
                String whole = text + "a." + end + ";";
                if (end < 1 || end > 6) {
                    Check.fault(1, text.length() + 2, whole);
                    Check.fault(1, text.length() + 2, text + "a." + end + "+;");
                } else if (end > 2) {
                    Check.fault(3, text.length(), whole);
                } else {
                    CoilBench x = Check.of(whole);
                    Check.due("end of " + whole, x.net(sort, 0, end - 1), 1);
                    Check.due("NETS of " + whole, x.count(5), 1);
                }
                if (end >= 1 && end <= 6) {
                    Check.fault(3, text.length(), text + "a." + end + "+;");
                    Check.fault(3, text.length(), text + "a." + end + " -;");
                }
            }
            Check.fault(3, text.length(), text + "a.p;");
            Check.fault(3, text.length(), text + "a.n;");
        }
    }

    /** "A NUMBER in a PIN: by its value." */
    private static void numbersInPins() {
        CoilBench x = Check.of("relay A 1 1 make make make make make make;wire plus A.06;wire A.0006- minus;");
        Check.due("the middle of contact 6", x.net(0, 0, 17), 3);
        Check.due("its back", x.net(0, 0, 19), 3);
        Check.sound("key k;wire k.01 k.0002;", 0);
        Check.faultAt(1, "key k;wire k.1 k.^00;");
        Check.faultAt(1, "key k;wire k.1 k.^0007;");
        Check.faultAt(1, "key k;wire k.1 k.^10;");
        Check.faultAt(1, "key k;wire k.1 k.^9999;");
        Check.faultAt(3, "key k;wire k.1 ^k.03;");
    }

    /** "a WORD but p and n". */
    private static void wordsInPins() {
        String start = "relay p 1 1;wire plus p.";
        for (int sign = 0; sign < 256; sign++) {
            String text = start + (char) sign + ";";
            if (sign == 'p' || sign == 'n') {
                Check.sound(text, 1);
            } else if (isLetter(sign)) {
                Check.fault(1, start.length(), text);
            }
        }
        for (String word : new String[] {"pn", "pp", "np", "p1", "n0", "plus", "minus", "break", "key", "abcdefgh"}) {
            Check.fault(1, start.length(), start + word + ";");
        }
    }

    /** "the first token with which no TEXT goes on, at its first byte (the TEXT's length at its end)". */
    private static void textsThatEndEarly() {
        String text = "relay A 1 20 make;key k;clock c 5 4;wire plus A.1+ k.2;";
        int[] due = {-1, 0, 0, 0, 0, 5, 6, 7, 8, 9, 10, 11, 12, 13, 13, 13, 13, 17};
        CoilBench whole = Check.of(text);
        Check.due("its keys", whole.count(1), 1);
        for (int n = 0; n < due.length; n++) {
            cut(text, n, due[n]);
        }
        cut(text, 18, -1);
        cut(text, 21, 21);
        cut(text, 23, 23);
        cut(text, 24, -1);
        cut(text, 33, 33);
        cut(text, 34, 34);
        cut(text, 35, 35);
        cut(text, 36, -1);
        cut(text, 40, 40);
        cut(text, 45, 45);
        cut(text, 46, 46);
        cut(text, 47, 47);
        cut(text, 48, 48);
        cut(text, 50, 50);
        cut(text, text.length() - 1, text.length() - 1);
    }

    /** Its first n bytes are a TEXT without a fault (-1), or with one at the place. */
    private static void cut(String text, int n, int place) {
        CoilBench x = new CoilBench();
        Check.feed(x, text);
        x.load(n);
        Check.due("wrong(0) of " + n + " bytes", x.wrong(0), place < 0 ? 0 : 1);
        Check.due("wrong(1) of " + n + " bytes", x.wrong(1), place);
    }

    /** "at its first byte (the TEXT's length at its end)": blanks ahead of it don't count, those at the end do. */
    private static void placesBehindBlanks() {
        Check.faultAt(1, "key a  \n ^key b;");
        Check.faultAt(1, "key a \n  ^");
        Check.faultAt(1, "  \n^;");
        Check.faultAt(2, Check.parts("clock ", 4, " 2 1;") + "clock \n ^y 2 1;");
        Check.faultAt(3, "key a;key  \n^a ;");
        Check.faultAt(3, "key a;wire a.1   ^a \n. 3;");
    }

    /** "the 41st relay, 25th key, 25th lamp, 5th clock, 25th diode", "at the first byte of the NAME". */
    private static void mostOfEachSort() {
        for (int sort = 0; sort < 5; sort++) {
            String ahead = SORTS[sort] + " ";
            String full = Check.parts(ahead, MOST[sort], BEHIND[sort]);
            CoilBench x = Check.of(full);
            Check.due("parts of sort " + sort, x.count(sort), MOST[sort]);
            Check.due("the last one's name", x.letter(sort, MOST[sort] - 1, 0), 'x');
            Check.due("no part behind", x.letter(sort, MOST[sort], 0), -1);
            Check.fault(2, full.length() + ahead.length(), full + ahead + "y" + BEHIND[sort]);
            Check.fault(2, full.length() + ahead.length(), full + ahead + "y" + BEHIND[sort] + ahead + "z" + BEHIND[sort]);
            Check.fault(2, full.length() + ahead.length(), full + ahead + "x0" + BEHIND[sort]);
            Check.fault(2, full.length() + ahead.length(), full + ahead + "y" + BEHIND[sort] + "wire plus q.1;");
        }
        String relays = Check.parts("relay ", 40, " 1 1;");
        Check.fault(2, relays.length() + 6, relays + "relay y 20 20 make make make make make make;");
        Check.fault(1, relays.length() + 8, relays + "relay y 21 20;");
    }

    /** All sorts with as many as there may be, in one TEXT. */
    private static void mostOfAllSorts() {
        StringBuilder text = new StringBuilder();
        for (int sort = 0; sort < 5; sort++) {
            text.append(Check.parts(SORTS[sort] + " " + SORTS[sort].charAt(0), MOST[sort], BEHIND[sort]));
        }
        CoilBench x = Check.of(text.toString());
        for (int sort = 0; sort < 5; sort++) {
            Check.due("parts of sort " + sort, x.count(sort), MOST[sort]);
        }
        for (int sort = 0; sort < 5; sort++) {
            Check.fault(2, text.length() + SORTS[sort].length() + 1, text + SORTS[sort] + " y" + BEHIND[sort]);
        }
    }

    /** As many ends as there may be, 954 with the rails: the first and the last of each sort are apart from all others. */
    private static void mostEnds() {
        String text = fullest();
        String[] names = {"r0.p", "r39.6-", "kx0.1", "kx23.2", "lx0.1", "lx23.2", "cx0.1", "cx3.2", "dx0.1", "dx23.2"};
        int[][] ends = {{0, 0, 0}, {0, 39, 19}, {1, 0, 0}, {1, 23, 1}, {2, 0, 0}, {2, 23, 1}, {3, 0, 0}, {3, 3, 1}, {4, 0, 0}, {4, 23, 1}};
        StringBuilder alone = new StringBuilder("wire plus plus;wire minus minus;");
        for (int told = 0; told < names.length; told++) {
            CoilBench x = Check.of(text + "wire plus " + names[told] + ";");
            for (int k = 0; k < names.length; k++) {
                Check.due(names[k] + " with plus at " + names[told], x.net(ends[k][0], ends[k][1], ends[k][2]), k == told ? 1 : 0);
            }
            Check.due("minus with plus at " + names[told], x.net(5, 0, 1), 2);
            alone.append("wire ").append(names[told]).append(' ').append(names[told]).append(';');
        }
        Check.due("NETS of ends told alone", Check.of(text + alone).count(5), 12);
        CoilBench x = Check.of(text);
        Check.due("NETS without wires", x.count(5), 0);
        Check.due("plus", x.net(5, 0, 0), 1);
        Check.due("minus", x.net(5, 0, 1), 2);
        Check.due("quiet()", x.quiet(), 0);
        Check.due("race(16)", x.race(16), 0);
    }

    private static String fullest() {
        StringBuilder text = new StringBuilder();
        for (int r = 0; r < 40; r++) {
            text.append("relay r" + r + " 1 1 make make make make make make;");
        }
        return text + Check.parts("key k", 24, ";") + Check.parts("lamp l", 24, ";") + Check.parts("clock c", 4, " 2 1;")
            + Check.parts("diode d", 24, ";");
    }

    /** As much as can be JOINED at once: all contacts stuck between, all keys down, all clocks on, and all diodes. */
    private static void mostWays() {
        CoilBench x = Check.of(fullest() + "wire plus r0.1 r39.6 kx0.1 kx23.1 cx0.1 cx3.1 dx0.1 dx23.1;");
        for (int number = 0; number < 240; number++) {
            x.stuck(number / 6, number % 6 + 1, 1);
        }
        for (int k = 0; k < 24; k++) {
            x.key(k, true);
        }
        Check.due("front of the first contact", x.net(0, 0, 3), 1);
        Check.due("back of the first contact", x.net(0, 0, 4), 1);
        Check.due("front of the last contact", x.net(0, 39, 18), 1);
        Check.due("back of the last contact", x.net(0, 39, 19), 1);
        Check.due("the first key", x.net(1, 0, 1), 1);
        Check.due("the last key", x.net(1, 23, 1), 1);
        Check.due("the first clock", x.net(3, 0, 1), 1);
        Check.due("the last clock", x.net(3, 3, 1), 1);
        Check.due("the first diode", x.net(4, 0, 1), 1);
        Check.due("the last diode", x.net(4, 23, 1), 1);
    }

    /** "2 MANY": one TEXT with parts too many of two sorts tells the first along it. */
    private static void firstOfManyFaults() {
        String keys = Check.parts("key k", 24, ";");
        String clocks = Check.parts("clock c", 4, " 2 1;");
        Check.faultAt(2, keys + clocks + "key ^y;clock z 2 1;");
        Check.faultAt(2, keys + clocks + "clock ^z 2 1;key y;");
    }

    /** "2 MANY, if there is no 1", "3 NAMES, if there is none of these". */
    private static void faultsInTheirOrder() {
        String keys = Check.parts("key ", 24, ";");
        Check.faultAt(1, keys + "key y;key y;wire q.1 plus;key^");
        Check.faultAt(1, "wire q.1 plus;key a;key a;" + keys + "^;");
        Check.faultAt(2, "wire q.1 plus;" + keys + "key ^y;");
        Check.faultAt(2, keys + "lamp x0;key ^y;");
        Check.faultAt(3, keys + "lamp ^x0;");
        Check.faultAt(3, "wire ^q.1 plus;" + keys);
    }

    /** Each TEXT is read for itself: no fault is left of the one ahead, on the same object. */
    private static void faultsOneBehindAnother() {
        String[] texts = {"key a;key b;", "", "key a;;", "key a;key", Check.parts("clock ", 5, " 2 1;"), Check.parts("relay ", 41, " 1 1;"),
            "key a;key b;key a;", "relay a 1 1;lamp a;", "key a;wire a.1 b.1;", "key a;wire a.1 a.2 a.3;"};
        int[] faults = {0, 0, 1, 1, 2, 2, 3, 3, 3, 3};
        int[] places = {-1, -1, 6, 9, 58, 13 * 10 + 14 * 30 + 6, 16, 17, 15, 19};
        for (int one = 0; one < texts.length; one++) {
            for (int other = 0; other < texts.length; other++) {
                CoilBench x = new CoilBench();
                Check.load(x, texts[one]);
                Check.due("load of " + texts[other] + " behind " + texts[one], Check.load(x, texts[other]), faults[other] == 0 ? 0 : -1);
                Check.due("wrong(0) of " + texts[other], x.wrong(0), faults[other]);
                Check.due("wrong(1) of " + texts[other], x.wrong(1), places[other]);
                Check.due("adder(1)", x.adder(1), 2);
            }
        }
    }

    /** "a NAME that a part told ahead has": of any sort. */
    private static void namesToldAhead() {
        for (int one = 0; one < 5; one++) {
            for (int other = 0; other < 5; other++) {
                Check.faultAt(3, SORTS[one] + " same" + BEHIND[one] + SORTS[other] + " ^same" + BEHIND[other]);
            }
        }
        Check.faultAt(3, "key a;key b;key ^a;key b;");
        Check.faultAt(3, "key abcdefgh;lamp ^abcdefgh;");
        String relays = Check.parts("relay ", 39, " 1 1;");
        Check.faultAt(3, relays + "relay ^x38 1 1;");
        Check.faultAt(3, relays + "relay ^x0 1 1;");
    }

    /** "a NAME that a part told ahead has": the whole of it, in letters of the same size. */
    private static void namesThatDiffer() {
        Check.sound("key a;key A;key aa;key aaa;key a1;key a01;", 0);
        Check.sound("key aaaaaaaa;key baaaaaaa;key aaaaaaab;key aaaaaaa;key aaaabaaa;key Aaaaaaaa;", 0);
    }

    /** "in a PIN a NAME that no part told anywhere has": a part told behind will do. */
    private static void namesToldAnywhere() {
        Check.sound("wire k.1 A.1+;key k;relay A 1 1 make;", 1);
        Check.faultAt(3, "wire k.1 ^A.2+;key k;relay A 1 1 make;");
        Check.faultAt(3, "wire k.1 ^A.1+;key k;");
        Check.faultAt(3, "wire ^K.1 plus;key k;");
        Check.faultAt(3, "wire ^k.1 plus;key kk;");
        Check.faultAt(3, "wire ^kk.1 plus;key k;");
        Check.faultAt(3, "wire plus minus ^k.1;");
    }

    /** "the first along the TEXT": of NAMES told twice and PINS that don't fit. */
    private static void firstOfNameFaults() {
        Check.faultAt(3, "key a;key ^a;wire a.3 plus;");
        Check.faultAt(3, "key a;wire ^a.3 plus;key a;");
        Check.faultAt(3, "wire ^b.1 a.3;key a;key a;");
        Check.faultAt(3, "key a;wire a.1 ^a.3;wire b.1 plus;");
        Check.faultAt(3, "key a;key ^a;key a;");
        Check.faultAt(3, "key a;wire a.1 a.2;key ^a;");
    }

    /** "Parts are numbered by sort, from 0 on, as they are told." */
    private static void numberedBySort() {
        CoilBench x = Check.of("key a;lamp b;relay c 1 1;diode d;clock e 2 1;key f;clock g 2 1;relay h 1 1;lamp i;diode j;key k;");
        String[] due = {"ch", "afk", "bi", "eg", "dj"};
        for (int sort = 0; sort < 5; sort++) {
            Check.due("parts of sort " + sort, x.count(sort), due[sort].length());
            for (int i = 0; i < due[sort].length(); i++) {
                Check.due("part " + i + " of sort " + sort, x.letter(sort, i, 0), due[sort].charAt(i));
            }
        }
    }

    /** "Ends that a wire tells are one NET, and those of all wires that tell one of them." */
    private static void netsOfWires() {
        Check.due("no wire", Check.of("key a;").count(5), 0);
        Check.due("one end", Check.of("key a;wire a.1 a.1;").count(5), 1);
        Check.due("two wires apart", Check.of("key a;key b;wire a.1 b.1;wire a.2 b.2;").count(5), 2);
        Check.due("a wire between", Check.of("key a;key b;wire a.1 b.1;wire a.2 b.2;wire b.2 b.1;").count(5), 1);
        Check.due("rails", Check.of("wire plus plus;wire minus minus;").count(5), 2);
        Check.due("joined rails", Check.of("wire plus minus;").count(5), 1);
        CoilBench chain = Check.of(Check.parts("key ", 24, ";") + "wire plus x0.1;wire x23.2 x23.1;"
            + "wire x0.1 x0.2 x1.1 x1.2 x2.1;wire x2.1 x22.2;wire x23.1 x22.2;");
        Check.due("a chain of wires", chain.count(5), 1);
        Check.due("its far end", chain.net(1, 23, 1), 1);
        Check.due("an end that it hasn't", chain.net(1, 2, 1), 0);
        StringBuilder pairs = new StringBuilder(Check.parts("key ", 24, ";") + Check.parts("lamp y", 24, ";"));
        for (int k = 0; k < 24; k++) {
            pairs.append("wire x").append(k).append(".1 yx").append(k).append(".1;wire x").append(k).append(".2 yx").append(k).append(".2;");
        }
        Check.due("pairs", Check.of(pairs.toString()).count(5), 48);
    }
}
