/** A bench of relays, as the document tells it: see README.md. */
public final class CoilBench {
    public static final int NONE = -1;

    private static final int REFUSED = -2;

    private static final int TAPE_ROOM = 4000;
    private static final int FED = 20;

    private static final int RELAY = 0;
    private static final int KEY = 1;
    private static final int LAMP = 2;
    private static final int CLOCK = 3;
    private static final int DIODE = 4;
    private static final int RAILS = 5;
    private static final int SORTS = 5;

    private static final int RELAYS = 40;
    private static final int CLOCKS = 4;
    private static final int KINDS = 6;
    private static final int[] MOST = {RELAYS, 24, 24, CLOCKS, 24};

    /** Of each sort the number of its first end; a relay has two coil ends and three for each contact. */
    private static final int RELAY_ENDS = 20;
    private static final int[] FIRST_END = {0, 800, 848, 896, 904, 952};
    private static final int ENDS = 954;

    private static final int LIVE = 1;
    private static final int GROUNDED = 2;
    private static final int SHORT = 3;

    private static final int BACK = 0;
    private static final int BETWEEN = 1;
    private static final int FRONT = 2;

    private static final int SYNTAX = 1;
    private static final int MANY = 2;
    private static final int NAMES = 3;

    private static final int MOST_TICKS = 500;
    private static final int RESTLESS = 2000;
    private static final int KEPT = 100;
    private static final int MOST_LIMIT = 16;
    private static final int MOST_DUE = 4;
    private static final int MORE_TICKS = 4;

    private final byte[] tape = new byte[TAPE_ROOM];
    private int taped = 0;
    private int fault = 0;
    private int faultPlace = NONE;
    private final Reader reader = new Reader();
    private final Machine machine = new Machine();
    private final State state = new State();
    private final History history = new History();
    private final Races races = new Races();

    public CoilBench() {
    }

    public int feed(int a, int b, int c, int d, int e) {
        if (taped > TAPE_ROOM - FED) {
            return NONE;
        }
        feedNumber(a);
        feedNumber(b);
        feedNumber(c);
        feedNumber(d);
        feedNumber(e);
        return taped;
    }

    private void feedNumber(int number) {
        for (int shift = 24; shift >= 0 && taped < TAPE_ROOM; shift -= 8) {
            tape[taped] = (byte) (number >> shift);
            taped++;
        }
    }

    public int load(int n) {
        if (n < 0 || n > taped) {
            return REFUSED;
        }
        reader.tokens.copy(tape, n);
        taped = 0;
        boolean sound = reader.read();
        fault = reader.fault;
        faultPlace = reader.faultPlace;
        return sound ? takeNetlist() : NONE;
    }

    public int adder(int n) {
        if (n < 1 || n > 7) {
            return NONE;
        }
        Adder.write(reader.tokens, n);
        return reader.read() ? takeNetlist() : NONE;
    }

    private int takeNetlist() {
        Netlist former = machine.netlist;
        machine.netlist = reader.draft;
        reader.draft = former;
        machine.wear.clear();
        state.clear();
        history.clear();
        races.clear();
        return machine.netlist.parts[RELAY];
    }

    public int wrong(int what) {
        switch (what) {
            case 0:
                return fault;
            case 1:
                return faultPlace;
            default:
                return NONE;
        }
    }

    public int count(int what) {
        switch (what) {
            case 0:
            case 1:
            case 2:
            case 3:
            case 4:
                return machine.netlist.parts[what];
            case 5:
                return machine.netlist.toldNets;
            case 6:
                return state.time;
            case 7:
                machine.settle(state);
                return machine.shortNets();
            case 8:
                return history.size;
            default:
                return NONE;
        }
    }

    public int letter(int sort, int i, int k) {
        if (!machine.netlist.has(sort, i)) {
            return NONE;
        }
        return letterOf(machine.netlist.names[sort][i], k);
    }

    /** A name stands in a long, its last byte lowest. */
    private static int letterOf(long name, int k) {
        int size = 0;
        for (int shift = 0; shift < 64; shift += 8) {
            if ((name >>> shift) != 0) {
                size++;
            }
        }
        if (k < 0 || k >= size) {
            return NONE;
        }
        return (int) (name >>> (8 * (size - 1 - k))) & 255;
    }

    public boolean key(int k, boolean down) {
        if (!machine.netlist.has(KEY, k)) {
            return false;
        }
        if (down) {
            state.keys |= 1 << k;
        } else {
            state.keys &= ~(1 << k);
        }
        return true;
    }

    public int tick(int n) {
        if (n < 0 || n > MOST_TICKS) {
            return NONE;
        }
        for (int done = 0; done < n; done++) {
            runTick();
        }
        return state.time;
    }

    /** What there was ahead of the tick, as the history keeps it. */
    private State runTick() {
        State ahead = history.keep(state);
        machine.step(state, NONE, 0L);
        return ahead;
    }

    public int quiet() {
        for (int ahead = 0; ahead < RESTLESS; ahead++) {
            if (runTick().restsAs(state)) {
                return ahead;
            }
        }
        return NONE;
    }

    public int relay(int r, int what) {
        Netlist netlist = machine.netlist;
        if (!netlist.has(RELAY, r)) {
            return NONE;
        }
        switch (what) {
            case 0:
                return state.isPicked(r) ? 1 : 0;
            case 1:
                return state.counts[r];
            case 2:
                machine.settle(state);
                return machine.isFed(RELAY, r) ? 1 : 0;
            case 3:
                return netlist.pickTime[r];
            case 4:
                return netlist.dropTime[r];
            case 5:
                return netlist.contacts[r];
            case 6:
                return netlist.toldEnds(r);
            default:
                return NONE;
        }
    }

    public int contact(int r, int c) {
        return machine.netlist.hasContact(r, c) ? state.positions[r] : NONE;
    }

    public int lamp(int l) {
        if (!machine.netlist.has(LAMP, l)) {
            return NONE;
        }
        machine.settle(state);
        return machine.isFed(LAMP, l) ? 1 : 0;
    }

    public int net(int sort, int i, int e) {
        int end = machine.netlist.endAt(sort, i, e);
        if (end == NONE) {
            return NONE;
        }
        machine.settle(state);
        return machine.powerAt(end);
    }

    public boolean stuck(int r, int c, int how) {
        if (!machine.netlist.hasContact(r, c) || how < NONE || how > FRONT) {
            return false;
        }
        machine.wear.stuckAt[contactNumber(r, c)] = how;
        return true;
    }

    public boolean dust(int r, int c, boolean is) {
        if (!machine.netlist.hasContact(r, c)) {
            return false;
        }
        machine.wear.dusty[contactNumber(r, c)] = is;
        return true;
    }

    private static int contactNumber(int r, int c) {
        return r * KINDS + c - 1;
    }

    public int race(int limit) {
        if (limit < 0 || limit > MOST_LIMIT) {
            return REFUSED;
        }
        races.begin(state);
        boolean tooMany = false;
        for (int tick = 1; tick <= limit; tick++) {
            int due = races.advance(machine);
            tooMany |= due > MOST_DUE;
            int ticksLeft = limit + MORE_TICKS - (tick - 1);
            if (due >= 2 && due <= MOST_DUE && races.dependsOnOrder(machine, ticksLeft)) {
                races.keep(tick);
                return 1;
            }
        }
        return tooMany ? -1 : 0;
    }

    public int raced(int what) {
        return races.told(what);
    }

    public int back(int n) {
        return history.takeBack(n, state) ? state.time : NONE;
    }

    /** A TEXT and its TOKENS, the last of them END. A sign's kind is its byte. */
    private static final class Tokens {
        private static final int NAME = 1;
        private static final int NUMBER = 2;
        private static final int END = 3;
        private static final int NO_TOKEN = 4;
        private static final int RELAY_WORD = 10;
        private static final int KEY_WORD = 11;
        private static final int LAMP_WORD = 12;
        private static final int CLOCK_WORD = 13;
        private static final int DIODE_WORD = 14;
        private static final int WIRE_WORD = 15;
        private static final int BREAK_WORD = 16;
        private static final int MAKE_WORD = 17;
        private static final int PLUS_WORD = 18;
        private static final int MINUS_WORD = 19;
        private static final int NAME_SIZE = 8;
        private static final int NUMBER_SIZE = 4;
        private static final int ROOM = TAPE_ROOM + 1;

        private final byte[] text = new byte[TAPE_ROOM];
        private int length = 0;
        private final int[] kinds = new int[ROOM];
        private final int[] places = new int[ROOM];
        /** A number's value, or a word's bytes, the last one lowest. */
        private final long[] values = new long[ROOM];
        private int size = 0;

        void copy(byte[] from, int bytes) {
            length = Math.max(0, Math.min(bytes, Math.min(from.length, TAPE_ROOM)));
            System.arraycopy(from, 0, text, 0, length);
        }

        void clear() {
            length = 0;
        }

        void append(char letter) {
            if (length < TAPE_ROOM) {
                text[length] = (byte) letter;
                length++;
            }
        }

        void split() {
            size = 0;
            boolean open = false;
            for (int k = 0; k < length; k++) {
                int sign = text[k];
                if (open && goesOn(sign)) {
                    extend(k, sign);
                } else if (!isBlank(sign)) {
                    begin(k, sign);
                }
                open = isLetter(sign) || isDigit(sign);
            }
            put(END, length, 0L);
            for (int t = 0; t < size; t++) {
                if (kinds[t] == NAME) {
                    kinds[t] = kindOfWord(values[t]);
                }
            }
        }

        private boolean goesOn(int sign) {
            return isDigit(sign) || isLetter(sign) && size > 0 && kinds[size - 1] == NAME;
        }

        private void extend(int place, int sign) {
            int last = size - 1;
            if (last < 0) {
                return;
            }
            boolean isWord = kinds[last] == NAME;
            if (place - places[last] >= (isWord ? NAME_SIZE : NUMBER_SIZE)) {
                kinds[last] = NO_TOKEN;
            }
            values[last] = isWord ? values[last] << 8 | sign : values[last] * 10 + sign - '0';
        }

        private void begin(int place, int sign) {
            if (isLetter(sign)) {
                put(NAME, place, sign);
            } else if (isDigit(sign)) {
                put(NUMBER, place, sign - '0');
            } else {
                boolean isToken = sign == '.' || sign == ';' || sign == '+' || sign == '-';
                put(isToken ? sign : NO_TOKEN, place, 0L);
            }
        }

        private void put(int kind, int place, long value) {
            if (size < ROOM) {
                kinds[size] = kind;
                places[size] = place;
                values[size] = value;
                size++;
            }
        }

        private static int kindOfWord(long word) {
            if (word == packed("wire")) {
                return WIRE_WORD;
            } else if (word == packed("plus")) {
                return PLUS_WORD;
            } else if (word == packed("minus")) {
                return MINUS_WORD;
            } else if (word == packed("relay")) {
                return RELAY_WORD;
            } else if (word == packed("break")) {
                return BREAK_WORD;
            } else if (word == packed("make")) {
                return MAKE_WORD;
            } else if (word == packed("key")) {
                return KEY_WORD;
            } else if (word == packed("lamp")) {
                return LAMP_WORD;
            } else if (word == packed("clock")) {
                return CLOCK_WORD;
            }
            return word == packed("diode") ? DIODE_WORD : NAME;
        }

        private static long packed(String word) {
            long bytes = 0L;
            for (int k = 0; k < word.length(); k++) {
                bytes = bytes << 8 | word.charAt(k);
            }
            return bytes;
        }

        private static boolean isBlank(int sign) {
            return sign == 32 || sign == 10;
        }

        private static boolean isLetter(int sign) {
            return sign >= 'a' && sign <= 'z' || sign >= 'A' && sign <= 'Z';
        }

        private static boolean isDigit(int sign) {
            return sign >= '0' && sign <= '9';
        }
    }

    /**
     * Reads a TEXT into its draft. A method that answers false stays at the token that was at fault, so that
     * its place can be told.
     */
    private static final class Reader {
        /** The shortest PIN, as in a.1, has three bytes. */
        private static final int PIN_ROOM = TAPE_ROOM / 3 + 1;
        /** No word's bytes are 0: such a part is found by no name. */
        private static final long NO_NAME = 0L;

        private final Tokens tokens = new Tokens();
        private Netlist draft = new Netlist();
        private int fault = 0;
        private int faultPlace = NONE;
        private int firstMany = NONE;
        private int firstTwice = NONE;
        private int at = 0;
        private int nameAt = 0;
        private int number = 0;
        private final int[] pinAt = new int[PIN_ROOM];
        private final int[] pinEnds = new int[PIN_ROOM];
        private final int[] pinWires = new int[PIN_ROOM];
        private int pins = 0;
        private int wires = 0;

        boolean read() {
            draft.clear();
            firstMany = NONE;
            firstTwice = NONE;
            at = 0;
            pins = 0;
            wires = 0;
            tokens.split();
            for (int done = 0; done < Tokens.ROOM && kind() != Tokens.END; done++) {
                if (!readStatement() || !pass(';')) {
                    return blame(SYNTAX, tokens.places[at]);
                }
            }
            if (firstMany != NONE) {
                return blame(MANY, firstMany);
            }
            int wrongName = findEnds();
            if (wrongName != NONE) {
                return blame(NAMES, wrongName);
            }
            joinWires();
            draft.numberNets();
            fault = 0;
            faultPlace = NONE;
            return true;
        }

        private boolean blame(int what, int place) {
            fault = what;
            faultPlace = place;
            return false;
        }

        private boolean readStatement() {
            if (pass(Tokens.WIRE_WORD)) {
                return readWire();
            } else if (pass(Tokens.RELAY_WORD)) {
                return readRelay();
            } else if (pass(Tokens.KEY_WORD)) {
                return readPlain(KEY);
            } else if (pass(Tokens.LAMP_WORD)) {
                return readPlain(LAMP);
            } else if (pass(Tokens.DIODE_WORD)) {
                return readPlain(DIODE);
            }
            return pass(Tokens.CLOCK_WORD) && readClock();
        }

        private boolean readPlain(int sort) {
            if (!passName()) {
                return false;
            }
            declare(sort);
            return true;
        }

        private boolean readRelay() {
            if (!passName()) {
                return false;
            }
            int r = declare(RELAY);
            if (!passNumber(1, 20)) {
                return false;
            }
            int pick = number;
            if (!passNumber(1, 20)) {
                return false;
            }
            int drop = number;
            int makes = 0;
            int kinds = 0;
            while (kinds < KINDS && (kind() == Tokens.BREAK_WORD || kind() == Tokens.MAKE_WORD)) {
                if (kind() == Tokens.MAKE_WORD) {
                    makes |= 1 << kinds;
                }
                kinds++;
                at++;
            }
            draft.setRelay(r, pick, drop, kinds, makes);
            return true;
        }

        private boolean readClock() {
            if (!passName()) {
                return false;
            }
            int c = declare(CLOCK);
            if (!passNumber(2, 100)) {
                return false;
            }
            int period = number;
            if (!passNumber(1, period - 1)) {
                return false;
            }
            draft.setClock(c, period, number);
            return true;
        }

        /** The new part's number; NONE for one too many. */
        private int declare(int sort) {
            long name = tokens.values[nameAt];
            boolean twice = draft.find(name) != NONE;
            if (twice && firstTwice == NONE) {
                firstTwice = tokens.places[nameAt];
            }
            int i = draft.add(sort, twice ? NO_NAME : name);
            if (i == NONE && firstMany == NONE) {
                firstMany = tokens.places[nameAt];
            }
            return i;
        }

        private boolean readWire() {
            wires++;
            int before = pins;
            for (int told = 0; told < PIN_ROOM && kind() != ';'; told++) {
                if (!readPin()) {
                    return false;
                }
            }
            return pins >= before + 2;
        }

        private boolean readPin() {
            int start = at;
            if (pass(Tokens.PLUS_WORD)) {
                return addPin(start, 0);
            }
            if (pass(Tokens.MINUS_WORD)) {
                return addPin(start, 1);
            }
            return passName() && pass('.') && readEnd(start);
        }

        /** What stands behind a PIN's point is kept as the number of a relay's end. */
        private boolean readEnd(int start) {
            if (kind() == Tokens.NAME) {
                long word = tokens.values[at];
                if (word != 'p' && word != 'n') {
                    return false;
                }
                at++;
                return addPin(start, word == 'p' ? 0 : 1);
            }
            if (!passNumber(1, KINDS)) {
                return false;
            }
            int middle = 3 * number - 1;
            if (pass('+')) {
                return addPin(start, middle + 1);
            }
            return addPin(start, pass('-') ? middle + 2 : middle);
        }

        private boolean addPin(int start, int end) {
            if (pins >= PIN_ROOM) {
                return false;
            }
            pinAt[pins] = start;
            pinEnds[pins] = end;
            pinWires[pins] = wires;
            pins++;
            return true;
        }

        private int kind() {
            return at < tokens.size ? tokens.kinds[at] : Tokens.END;
        }

        private boolean pass(int wanted) {
            if (at >= tokens.size || tokens.kinds[at] != wanted) {
                return false;
            }
            at++;
            return true;
        }

        private boolean passName() {
            nameAt = at;
            return pass(Tokens.NAME);
        }

        private boolean passNumber(int low, int high) {
            if (at >= tokens.size || tokens.kinds[at] != Tokens.NUMBER) {
                return false;
            }
            if (tokens.values[at] < low || tokens.values[at] > high) {
                return false;
            }
            number = (int) tokens.values[at];
            at++;
            return true;
        }

        /** Only now all parts are told: where the first wrong NAME stands, or NONE. */
        private int findEnds() {
            for (int p = 0; p < pins; p++) {
                int end = findEnd(pinAt[p], pinEnds[p]);
                if (end == NONE) {
                    int place = tokens.places[pinAt[p]];
                    return firstTwice == NONE ? place : Math.min(place, firstTwice);
                }
                pinEnds[p] = end;
            }
            return firstTwice;
        }

        private int findEnd(int start, int behind) {
            if (tokens.kinds[start] != Tokens.NAME) {
                return draft.endAt(RAILS, 0, behind);
            }
            int found = draft.find(tokens.values[start]);
            if (found == NONE) {
                return NONE;
            }
            int sort = found / RELAYS;
            int i = found % RELAYS;
            if (sort == RELAY) {
                return draft.endAt(RELAY, i, behind);
            }
            if (behind == 2) {
                return draft.endAt(sort, i, 0);
            }
            return behind == 5 ? draft.endAt(sort, i, 1) : NONE;
        }

        private void joinWires() {
            for (int p = 0; p < pins; p++) {
                boolean begins = p == 0 || pinWires[p] != pinWires[p - 1];
                draft.joinTold(begins ? pinEnds[p] : pinEnds[p - 1], pinEnds[p]);
            }
        }
    }

    /** Writes the adder's TEXT; # stands for i, @ for j. */
    private static final class Adder {
        private static final String KEYS = "key a#;key b#;";
        private static final String RELAY_A = "relay A# 2 3 break break break break break;";
        private static final String RELAY_B = "relay B# 2 3 break break break break break;";
        private static final String SUM = "lamp s#;";
        private static final String COILS = "wire plus a#.1 b#.1 A#.1;wire a#.2 A#.p;wire b#.2 B#.p;";
        private static final String GROUND = "wire minus A#.n B#.n s#.2;wire A#.1+ B#.1;wire A#.1- B#.2;";
        private static final String CARRY = "wire B#.1+ B#.3 C@.1;wire B#.2- B#.4 N@.1;";
        private static final String PROPAGATE = "wire A#.2+ B#.3-;wire A#.2- B#.3+;wire A#.3+ B#.4-;wire A#.3- B#.4+;";
        private static final String FROM_RAILS = "wire C#.1 A#.2 A#.4;wire N#.1 A#.3 A#.5;";
        private static final String TO_SUM = "wire B#.5+ A#.4+ A#.5-;wire B#.5- A#.4- A#.5+;wire B#.5 s#.1;";
        private static final String RAIL_LAMPS = "lamp C#;lamp N#;";
        private static final String NO_CARRY = "wire plus N0.1;";

        static void write(Tokens text, int bits) {
            text.clear();
            for (int i = 0; i < bits; i++) {
                append(text, KEYS, i);
                append(text, RELAY_A, i);
                append(text, RELAY_B, i);
                append(text, SUM, i);
                append(text, COILS, i);
                append(text, GROUND, i);
                append(text, CARRY, i);
                append(text, PROPAGATE, i);
                append(text, FROM_RAILS, i);
                append(text, TO_SUM, i);
                append(text, RAIL_LAMPS, i);
            }
            append(text, RAIL_LAMPS, bits);
            append(text, NO_CARRY, bits);
        }

        private static void append(Tokens text, String pattern, int i) {
            for (int k = 0; k < pattern.length(); k++) {
                char letter = pattern.charAt(k);
                if (letter == '#') {
                    text.append((char) ('0' + i));
                } else if (letter == '@') {
                    text.append((char) ('0' + i + 1));
                } else {
                    text.append(letter);
                }
            }
        }
    }

    /** The parts that a TEXT tells, and its NETS: first those that wires tell, then the other ends, each its own. */
    private static final class Netlist {
        private final int[] parts = new int[SORTS];
        private final long[][] names = new long[SORTS][RELAYS];
        private final int[] pickTime = new int[RELAYS];
        private final int[] dropTime = new int[RELAYS];
        private final int[] contacts = new int[RELAYS];
        private final int[] makes = new int[RELAYS];
        private final int[] period = new int[CLOCKS];
        private final int[] onTime = new int[CLOCKS];
        private final boolean[] told = new boolean[ENDS];
        /** Of each end one that a wire joins it to, nearer to the one that stands for all of them. */
        private final int[] joined = new int[ENDS];
        private final int[] netOf = new int[ENDS];
        private int toldNets = 0;
        private int nets = 0;

        Netlist() {
            clear();
            numberNets();
        }

        void clear() {
            for (int sort = 0; sort < SORTS; sort++) {
                parts[sort] = 0;
            }
            for (int end = 0; end < ENDS; end++) {
                told[end] = false;
                joined[end] = end;
                netOf[end] = NONE;
            }
        }

        int add(int sort, long name) {
            if (sort < 0 || sort >= SORTS || parts[sort] >= MOST[sort]) {
                return NONE;
            }
            int i = parts[sort];
            names[sort][i] = name;
            parts[sort]++;
            return i;
        }

        void setRelay(int r, int pick, int drop, int kinds, int makeBits) {
            if (has(RELAY, r)) {
                pickTime[r] = pick;
                dropTime[r] = drop;
                contacts[r] = kinds;
                makes[r] = makeBits;
            }
        }

        void setClock(int c, int ticks, int on) {
            if (has(CLOCK, c)) {
                period[c] = ticks;
                onTime[c] = on;
            }
        }

        /** The part of this name as its sort times RELAYS and its number; NONE without. */
        int find(long name) {
            for (int sort = 0; sort < SORTS; sort++) {
                for (int i = 0; i < parts[sort]; i++) {
                    if (names[sort][i] == name) {
                        return sort * RELAYS + i;
                    }
                }
            }
            return NONE;
        }

        boolean has(int sort, int i) {
            return sort >= 0 && sort < SORTS && i >= 0 && i < parts[sort];
        }

        boolean hasContact(int r, int c) {
            return has(RELAY, r) && c >= 1 && c <= contacts[r];
        }

        boolean isOn(int c, int time) {
            return period[c] > 0 && time % period[c] < onTime[c];
        }

        boolean makesFirst(int r, int c) {
            return (makes[r] >> (c - 1) & 1) != 0;
        }

        int endAt(int sort, int i, int e) {
            boolean isPart = has(sort, i) || sort == RAILS && i == 0;
            if (!isPart || e < 0 || e >= endsOf(sort, i)) {
                return NONE;
            }
            return FIRST_END[sort] + i * (sort == RELAY ? RELAY_ENDS : 2) + e;
        }

        private int endsOf(int sort, int i) {
            return sort == RELAY ? 2 + 3 * contacts[i] : 2;
        }

        int toldEnds(int r) {
            int ends = 0;
            for (int e = 0; e < RELAY_ENDS; e++) {
                int end = endAt(RELAY, r, e);
                if (end != NONE && told[end]) {
                    ends++;
                }
            }
            return ends;
        }

        void joinTold(int a, int b) {
            if (a < 0 || a >= ENDS || b < 0 || b >= ENDS) {
                return;
            }
            told[a] = true;
            told[b] = true;
            joined[headOf(a)] = headOf(b);
        }

        private int headOf(int end) {
            int head = end;
            for (int step = 0; step < ENDS && joined[head] != head; step++) {
                joined[head] = joined[joined[head]];
                head = joined[head];
            }
            return head;
        }

        void numberNets() {
            nets = 0;
            for (int end = 0; end < ENDS; end++) {
                if (told[end]) {
                    int head = headOf(end);
                    if (netOf[head] == NONE) {
                        netOf[head] = nets++;
                    }
                    netOf[end] = netOf[head];
                }
            }
            toldNets = nets;
            for (int sort = 0; sort < SORTS; sort++) {
                for (int i = 0; i < parts[sort]; i++) {
                    numberUntold(sort, i);
                }
            }
            numberUntold(RAILS, 0);
        }

        private void numberUntold(int sort, int i) {
            for (int e = 0; e < RELAY_ENDS; e++) {
                int end = endAt(sort, i, e);
                if (end != NONE && netOf[end] == NONE) {
                    netOf[end] = nets++;
                }
            }
        }
    }

    /** Coils, COUNTS, POSITIONS, keys and the TIME. A relay's contacts go over together: one POSITION tells all. */
    private static final class State {
        private long picked = 0L;
        private final int[] counts = new int[RELAYS];
        private final int[] positions = new int[RELAYS];
        private int keys = 0;
        private int time = 0;

        void clear() {
            picked = 0L;
            keys = 0;
            time = 0;
            for (int r = 0; r < RELAYS; r++) {
                counts[r] = 0;
                positions[r] = BACK;
            }
        }

        void copy(State from) {
            picked = from.picked;
            keys = from.keys;
            time = from.time;
            System.arraycopy(from.counts, 0, counts, 0, RELAYS);
            System.arraycopy(from.positions, 0, positions, 0, RELAYS);
        }

        boolean isPicked(int r) {
            return (picked >> r & 1L) != 0L;
        }

        boolean isDown(int k) {
            return (keys >> k & 1) != 0;
        }

        void goOver(int r) {
            picked ^= 1L << r;
            counts[r] = 0;
        }

        void moveContacts(int r) {
            if (isPicked(r)) {
                positions[r] = Math.min(FRONT, positions[r] + 1);
            } else {
                positions[r] = Math.max(BACK, positions[r] - 1);
            }
        }

        boolean restsAs(State other) {
            if (picked != other.picked) {
                return false;
            }
            for (int r = 0; r < RELAYS; r++) {
                if (counts[r] != other.counts[r] || positions[r] != other.positions[r]) {
                    return false;
                }
            }
            return true;
        }
    }

    /** What is stuck and what is dusty. */
    private static final class Wear {
        private final int[] stuckAt = new int[RELAYS * KINDS];
        private final boolean[] dusty = new boolean[RELAYS * KINDS];

        Wear() {
            clear();
        }

        void clear() {
            for (int number = 0; number < stuckAt.length; number++) {
                stuckAt[number] = NONE;
                dusty[number] = false;
            }
        }
    }

    /** The ways between NETS, laid anew for each moment, and what comes to each NET along them. */
    private static final class Ways {
        private static final int LINKS = 1200;

        private int nets = 0;
        private int links = 0;
        private final int[] firstLink = new int[ENDS];
        private final int[] nextLink = new int[LINKS];
        private final int[] leadsTo = new int[LINKS];
        private final int[] lets = new int[LINKS];
        private final int[] powers = new int[ENDS];
        private final int[] reached = new int[ENDS];

        void begin(int howMany) {
            nets = Math.max(0, Math.min(howMany, ENDS));
            links = 0;
            for (int each = 0; each < nets; each++) {
                firstLink[each] = NONE;
                powers[each] = 0;
            }
        }

        /** From a to b the power named there goes, from b to a the other one too. */
        void join(int a, int b, int there, int returning) {
            if (a < 0 || a >= nets || b < 0 || b >= nets || a == b || links > LINKS - 2) {
                return;
            }
            leadsTo[links] = b;
            lets[links] = there;
            nextLink[links] = firstLink[a];
            firstLink[a] = links;
            leadsTo[links + 1] = a;
            lets[links + 1] = returning;
            nextLink[links + 1] = firstLink[b];
            firstLink[b] = links + 1;
            links += 2;
        }

        void spread(int from, int power) {
            if (from < 0 || from >= nets) {
                return;
            }
            powers[from] |= power;
            reached[0] = from;
            int found = 1;
            for (int done = 0; done < found && done < nets; done++) {
                int link = firstLink[reached[done]];
                for (int step = 0; step < links && link != NONE; step++) {
                    int to = leadsTo[link];
                    if ((lets[link] & power) != 0 && (powers[to] & power) == 0 && found < nets) {
                        powers[to] |= power;
                        reached[found] = to;
                        found++;
                    }
                    link = nextLink[link];
                }
            }
        }

        int at(int which) {
            return which < 0 || which >= nets ? 0 : powers[which];
        }
    }

    /** A netlist with its wear, at work on a state. */
    private static final class Machine {
        private Netlist netlist = new Netlist();
        private final Wear wear = new Wear();
        private final Ways ways = new Ways();

        /**
         * A TICK. For a race's orders the goer (or NONE) goes over whatever its energy is, and the coils among
         * waiting stay as they are.
         */
        void step(State state, int goer, long waiting) {
            state.time++;
            settle(state);
            for (int r = 0; r < netlist.parts[RELAY]; r++) {
                if (r == goer) {
                    state.goOver(r);
                } else if ((waiting >> r & 1L) == 0L) {
                    runCoil(state, r, isFed(RELAY, r));
                }
                if (netlist.contacts[r] > 0) {
                    state.moveContacts(r);
                }
            }
        }

        private void runCoil(State state, int r, boolean energised) {
            boolean picked = state.isPicked(r);
            if (picked == energised) {
                state.counts[r] = 0;
                return;
            }
            state.counts[r]++;
            if (state.counts[r] >= (picked ? netlist.dropTime[r] : netlist.pickTime[r])) {
                state.goOver(r);
            }
        }

        /** Finds what is LIVE and GROUNDED in this state; the answers below are of the latest one settled. */
        void settle(State state) {
            ways.begin(netlist.nets);
            for (int r = 0; r < netlist.parts[RELAY]; r++) {
                for (int c = 1; c <= netlist.contacts[r]; c++) {
                    joinContact(r, c, state.positions[r]);
                }
            }
            for (int k = 0; k < netlist.parts[KEY]; k++) {
                if (state.isDown(k)) {
                    joinEnds(FIRST_END[KEY] + 2 * k, LIVE | GROUNDED);
                }
            }
            for (int c = 0; c < netlist.parts[CLOCK]; c++) {
                if (netlist.isOn(c, state.time)) {
                    joinEnds(FIRST_END[CLOCK] + 2 * c, LIVE | GROUNDED);
                }
            }
            for (int d = 0; d < netlist.parts[DIODE]; d++) {
                joinEnds(FIRST_END[DIODE] + 2 * d, LIVE);
            }
            ways.spread(netlist.netOf[FIRST_END[RAILS]], LIVE);
            ways.spread(netlist.netOf[FIRST_END[RAILS] + 1], GROUNDED);
        }

        private void joinContact(int r, int c, int position) {
            int number = contactNumber(r, c);
            if (wear.dusty[number]) {
                return;
            }
            int counted = wear.stuckAt[number] == NONE ? position : wear.stuckAt[number];
            boolean both = counted == BETWEEN && netlist.makesFirst(r, c);
            int middle = FIRST_END[RELAY] + r * RELAY_ENDS + 3 * c - 1;
            int net = netlist.netOf[middle];
            if (both || counted == FRONT) {
                ways.join(net, netlist.netOf[middle + 1], LIVE | GROUNDED, LIVE | GROUNDED);
            }
            if (both || counted == BACK) {
                ways.join(net, netlist.netOf[middle + 2], LIVE | GROUNDED, LIVE | GROUNDED);
            }
        }

        /** GROUNDED goes against the way that LIVE goes: a diode that lets LIVE pass lets it return. */
        private void joinEnds(int first, int there) {
            int returning = there == LIVE ? GROUNDED : there;
            ways.join(netlist.netOf[first], netlist.netOf[first + 1], there, returning);
        }

        int powerAt(int end) {
            return end < 0 || end >= ENDS ? 0 : ways.at(netlist.netOf[end]);
        }

        /** Whether a coil is ENERGISED, or a lamp lit. */
        boolean isFed(int sort, int i) {
            int end = FIRST_END[sort] + i * (sort == RELAY ? RELAY_ENDS : 2);
            int one = ways.at(netlist.netOf[end]);
            int other = ways.at(netlist.netOf[end + 1]);
            return one == LIVE && other == GROUNDED || one == GROUNDED && other == LIVE;
        }

        int shortNets() {
            int found = 0;
            for (int each = 0; each < netlist.toldNets; each++) {
                if (ways.at(each) == SHORT) {
                    found++;
                }
            }
            return found;
        }
    }

    /** What there was ahead of the latest ticks: a ring. */
    private static final class History {
        private final State[] kept = new State[KEPT];
        private int next = 0;
        private int size = 0;

        History() {
            for (int slot = 0; slot < KEPT; slot++) {
                kept[slot] = new State();
            }
        }

        void clear() {
            next = 0;
            size = 0;
        }

        State keep(State state) {
            State slot = kept[next];
            slot.copy(state);
            next = (next + 1) % KEPT;
            size = Math.min(KEPT, size + 1);
            return slot;
        }

        boolean takeBack(int n, State state) {
            if (n < 1 || n > size) {
                return false;
            }
            next = (next - n + KEPT) % KEPT;
            size -= n;
            state.copy(kept[next]);
            return true;
        }
    }

    /** Tries orders on states of its own, and keeps what the latest race told. */
    private static final class Races {
        private final State main = new State();
        private final State ahead = new State();
        private final State trial = new State();
        private long due = 0L;
        private int onTick = NONE;

        void clear() {
            onTick = NONE;
        }

        void begin(State from) {
            onTick = NONE;
            main.copy(from);
        }

        void keep(int tick) {
            onTick = tick;
        }

        /** On by a tick as told: how many were DUE at it. */
        int advance(Machine machine) {
            ahead.copy(main);
            machine.step(main, NONE, 0L);
            due = ahead.picked ^ main.picked;
            return Long.bitCount(due);
        }

        /** Whether the orders of those that were DUE end with other coils picked, so many ticks behind ahead. */
        boolean dependsOnOrder(Machine machine, int ticks) {
            int orders = 1;
            for (int factor = 2; factor <= Long.bitCount(due); factor++) {
                orders *= factor;
            }
            long first = pickedBehind(machine, 0, ticks);
            for (int order = 1; order < orders; order++) {
                if (pickedBehind(machine, order, ticks) != first) {
                    return true;
                }
            }
            return false;
        }

        /** An order's number tells, digit by digit, which of those that wait goes over next. */
        private long pickedBehind(Machine machine, int order, int ticks) {
            trial.copy(ahead);
            long waiting = due;
            int digits = order;
            int left = Long.bitCount(due);
            for (int done = 0; done < ticks; done++) {
                int goer = NONE;
                if (left > 0) {
                    goer = member(waiting, digits % left);
                    digits /= left;
                    waiting &= ~(1L << goer);
                    left--;
                }
                machine.step(trial, goer, waiting);
            }
            return trial.picked;
        }

        /** The k-th of a set of relays (from 0 on), by numbers rising; NONE without. */
        private static int member(long set, int k) {
            int smaller = 0;
            for (int r = 0; r < RELAYS; r++) {
                if ((set >> r & 1L) != 0L) {
                    if (smaller == k) {
                        return r;
                    }
                    smaller++;
                }
            }
            return NONE;
        }

        int told(int what) {
            if (onTick == NONE) {
                return NONE;
            }
            if (what == 0) {
                return onTick;
            }
            return what == 1 ? Long.bitCount(due) : member(due, what - 2);
        }
    }
}
