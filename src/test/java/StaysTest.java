import java.util.ArrayList;
import java.util.List;

/**
 * What a call leaves as it is: of two objects alike one gets a call more, then both go on in the same way, and all
 * that can be asked must be alike. No object is used for more than 512 calls.
 */
final class StaysTest {
    private interface Calls {
        void on(CoilBench x, StringBuilder answers);
    }

    private static final String BENCH = "relay A 2 3 break make;relay B 2 9 make;relay C 9 5 break;relay X 3 1 break;"
        + "relay Y 3 1 break;relay Z 9 9;key k;key q;lamp l;lamp m;clock c 7 3;diode d;"
        + "wire plus k.1 q.1 c.1 A.1 A.2 B.1 C.1;wire minus A.n B.n C.n X.n Y.n Z.n l.2;"
        + "wire k.2 X.1 Y.1 C.p;wire X.1- Y.p;wire Y.1- X.p;wire q.2 A.p Z.p;wire c.2 d.1;wire d.2 B.p l.1;";
    /** With a coil that goes over as often as it can. */
    private static final String RESTLESS = BENCH + "relay N 1 1 break;wire plus N.1;wire N.1- N.p;wire N.n minus;";
    private static final String WRONG = "wire A";
    /** Twenty bytes, which stay on the tape. */
    private static final String TAPED = "relay tape 7 8 make;";
    private static final int[] FAR = {Integer.MIN_VALUE, -1000, -3, 512, 1000, 65536, Integer.MAX_VALUE};

    public static void main(String[] args) {
        Check.due("bytes that stay on the tape", TAPED.length(), 20);
        readings();
        refusals();
        doneAlready();
        doneAndUndone();
        fullTape();
        feedLeaves();
        raceLeaves();
        faultLeaves();
        loadsLeaveNothing();
        addersLeaveNothing();
        ticksAlike();
        Check.end("StaysTest");
    }

    /** With every part of it in use: keys, COUNTS, POSITIONS, wear, kept ticks, a race, a FAULT, a tape. */
    private static CoilBench inUse() {
        return inUse(BENCH);
    }

    private static CoilBench inUse(String bench) {
        CoilBench x = new CoilBench();
        Check.due("load", Check.load(x, bench) >= 6, true);
        x.key(0, true);
        Check.due("race(6)", x.race(6), 1);
        x.tick(1);
        x.key(1, true);
        x.tick(2);
        x.key(0, false);
        x.tick(1);
        x.key(0, true);
        x.key(1, false);
        x.tick(1);
        x.stuck(0, 1, 2);
        x.stuck(0, 2, 1);
        x.stuck(3, 1, 0);
        x.dust(1, 1, true);
        x.dust(2, 1, true);
        x.stuck(2, 1, 2);
        Check.due("load with a FAULT", Check.load(x, WRONG), -1);
        Check.feed(x, TAPED);
        return x;
    }

    /** Ways to ask: each asks after all of one kind, also after some that there are not. */
    private static final List<Calls> QUESTIONS = List.of(
        (x, s) -> s.append(x.wrong(0)).append(' ').append(x.wrong(1)),
        (x, s) -> {
            for (int what = 0; what < 6; what++) {
                s.append(x.raced(what)).append(' ');
            }
        },
        (x, s) -> {
            for (int what = 0; what <= 8; what++) {
                s.append(x.count(what)).append(' ');
            }
        },
        (x, s) -> {
            for (int sort = 0; sort <= 4; sort++) {
                for (int i = 0; i < 7; i++) {
                    s.append(x.letter(sort, i, i % 2)).append(' ');
                }
            }
        },
        (x, s) -> {
            for (int r = 0; r < 7; r++) {
                for (int what = 0; what <= 6; what++) {
                    s.append(x.relay(r, what)).append(' ');
                }
            }
        },
        (x, s) -> {
            for (int r = 0; r < 7; r++) {
                s.append(x.contact(r, 1)).append(' ').append(x.contact(r, 2)).append(' ');
            }
        },
        (x, s) -> s.append(x.lamp(0)).append(x.lamp(1)).append(x.lamp(2)),
        (x, s) -> {
            for (int r = 0; r < 7; r++) {
                for (int e = 0; e < 8; e++) {
                    s.append(x.net(0, r, e));
                }
            }
        },
        (x, s) -> {
            for (int k = 0; k < 16; k++) {
                s.append(x.net(1 + k / 4, k % 4 / 2, k % 2));
            }
            s.append(x.net(5, 0, 0)).append(x.net(5, 0, 1));
        });
    private static final int OF_WRONG = 0;
    private static final int OF_RACED = 1;
    private static final int NOTHING = -1;

    /** All that can be asked but the one kind, from the first or from the last on: what a question does shows in those behind. */
    private static String view(CoilBench x, int but, boolean fromTheLast) {
        StringBuilder all = new StringBuilder();
        for (int k = 0; k < QUESTIONS.size(); k++) {
            int which = fromTheLast ? QUESTIONS.size() - 1 - k : k;
            if (which != but) {
                QUESTIONS.get(which).on(x, all.append(" / "));
            }
        }
        return all.toString();
    }

    /** The ways to go on, each of which shows something that no question shows at once. */
    private static List<Calls> futures(int ahead) {
        List<Calls> all = new ArrayList<>();
        all.add((x, s) -> s.append(""));
        for (int n = 1; n <= ahead + 1; n++) {
            int back = n;
            all.add((x, s) -> s.append(x.back(back)));
        }
        for (int n : new int[] {1, 2, 4, 7, 12}) {
            all.add((x, s) -> s.append(x.tick(n)));
        }
        all.add((x, s) -> s.append(x.tick(97)).append(' ').append(x.back(100)));
        all.add((x, s) -> s.append(x.quiet()));
        all.add((x, s) -> s.append(x.race(2)));
        all.add((x, s) -> s.append(x.race(16)));
        all.add((x, s) -> s.append(x.key(0, false)).append(x.tick(2)));
        all.add((x, s) -> s.append(x.key(1, true)).append(x.tick(2)));
        all.add((x, s) -> free(x, true, false));
        all.add((x, s) -> free(x, false, true));
        all.add((x, s) -> free(x, true, true));
        all.add((x, s) -> {
            free(x, true, true);
            s.append(x.tick(5));
        });
        return all;
    }

    /** Those that show what is on the tape. */
    private static List<Calls> tapeFutures() {
        List<Calls> all = new ArrayList<>();
        all.add((x, s) -> s.append(x.load(20)));
        all.add((x, s) -> s.append(x.load(19)));
        all.add((x, s) -> s.append(x.load(0)));
        all.add((x, s) -> s.append(x.load(21)));
        all.add((x, s) -> s.append(x.feed(0x20202020, 0x20202020, 0x20202020, 0x20202020, 0x2020207a)).append(x.load(40)));
        all.add((x, s) -> s.append(x.feed(1, 2, 3, 4, 5)));
        return all;
    }

    private static void free(CoilBench x, boolean stuck, boolean dusty) {
        for (int r = 0; r < 6; r++) {
            for (int c = 1; c <= 2; c++) {
                if (stuck) {
                    x.stuck(r, c, -1);
                }
                if (dusty) {
                    x.dust(r, c, false);
                }
            }
        }
    }

    private static String after(CoilBench x, Calls future, int but, boolean fromTheLast) {
        StringBuilder answers = new StringBuilder();
        future.on(x, answers);
        return answers.append(" : ").append(view(x, but, fromTheLast)).toString();
    }

    private interface Bench {
        CoilBench made();
    }

    /** Both benches, made anew for each way to go on, are alike in all but the one kind. */
    private static void alike(String what, List<Calls> futures, int but, Bench one, Bench other) {
        for (int k = 0; k < 2 * futures.size(); k++) {
            Calls future = futures.get(k / 2);
            String got = after(one.made(), future, but, k % 2 == 1);
            String due = after(other.made(), future, but, k % 2 == 1);
            Check.due(what + ", then " + k + ": " + got + " for " + due, got.equals(due), true);
        }
    }

    private static List<Calls> allFutures(int ahead) {
        List<Calls> all = futures(ahead);
        all.addAll(tapeFutures());
        return all;
    }

    /** On an object in use the call answers as told and leaves everything. */
    private static void leavesAll(String call, String due, Calls calls) {
        alike(call, allFutures(5), NOTHING, () -> {
            CoilBench x = inUse();
            StringBuilder answer = new StringBuilder();
            calls.on(x, answer);
            Check.due(call + " answers " + due + " and not " + answer, answer.toString().equals(due), true);
            return x;
        }, StaysTest::inUse);
    }

    /** Questions, whatever is asked, change nothing. */
    private static void readings() {
        leavesAll("wrong", "1 6 -1 -1 ", (x, s) -> {
            for (int what : new int[] {0, 1, 2, -1}) {
                s.append(x.wrong(what)).append(' ');
            }
        });
        leavesAll("count", "6 2 2 1 1 8 5 0 5 -1 -1 ", (x, s) -> {
            for (int what = 0; what <= 9; what++) {
                s.append(x.count(what)).append(' ');
            }
            s.append(x.count(-1)).append(' ');
        });
        leavesAll("letter", "65 -1 -1 -1 99 -1 ", (x, s) -> {
            s.append(x.letter(0, 0, 0)).append(' ').append(x.letter(0, 0, 1)).append(' ').append(x.letter(0, 6, 0)).append(' ');
            s.append(x.letter(5, 0, 0)).append(' ').append(x.letter(3, 0, 0)).append(' ').append(x.letter(-1, 0, 0)).append(' ');
        });
        leavesAll("relay", "1 1 0 2 3 2 4 -1 -1 ", (x, s) -> {
            for (int what = 0; what <= 7; what++) {
                s.append(x.relay(0, what)).append(' ');
            }
            s.append(x.relay(6, 0)).append(' ');
        });
        leavesAll("coils, COUNTS, POSITIONS", "112 132 010 010 010 00-1 ", (x, s) -> {
            for (int r = 0; r < 6; r++) {
                s.append(x.relay(r, 0)).append(x.relay(r, 1)).append(x.contact(r, 1)).append(' ');
            }
        });
        leavesAll("contact, lamp, net", "2 -1 -1 0 0 -1 1 -1 ", (x, s) -> {
            s.append(x.contact(0, 1)).append(' ').append(x.contact(0, 3)).append(' ').append(x.contact(5, 1)).append(' ');
            s.append(x.lamp(0)).append(' ').append(x.lamp(1)).append(' ').append(x.lamp(2)).append(' ');
            s.append(x.net(5, 0, 0)).append(' ').append(x.net(5, 1, 0)).append(' ');
        });
        leavesAll("raced", "3 2 3 4 -1 -1 ", (x, s) -> {
            for (int what : new int[] {0, 1, 2, 3, 4, -1}) {
                s.append(x.raced(what)).append(' ');
            }
        });
    }

    /** "doing nothing", or "false": the call changes nothing. */
    private static void refusals() {
        for (int n : new int[] {-1, 21, 4000, 4001}) {
            leavesAll("load(" + n + ")", "-2", (x, s) -> s.append(x.load(n)));
        }
        for (int n : new int[] {0, 8, -1}) {
            leavesAll("adder(" + n + ")", "-1", (x, s) -> s.append(x.adder(n)));
        }
        for (int k : new int[] {-1, 2, 24, 32, 33}) {
            leavesAll("key(" + k + ")", "falsefalse", (x, s) -> s.append(x.key(k, true)).append(x.key(k, false)));
        }
        for (int n : new int[] {-1, 501}) {
            leavesAll("tick(" + n + ")", "-1", (x, s) -> s.append(x.tick(n)));
        }
        for (int how : new int[] {-2, 3, 4}) {
            leavesAll("stuck at " + how, "falsefalse", (x, s) -> s.append(x.stuck(0, 1, how)).append(x.stuck(1, 1, how)));
        }
        int[][] none = {{-1, 1}, {6, 1}, {0, 0}, {0, 3}, {0, -1}, {0, 7}, {1, 0}, {1, 2}, {5, 1}, {40, 1}};
        for (int[] at : none) {
            leavesAll("stuck of none", "falsefalse", (x, s) ->
                s.append(x.stuck(at[0], at[1], 1)).append(x.stuck(at[0], at[1], -1)));
            leavesAll("dust of none", "falsefalse", (x, s) ->
                s.append(x.dust(at[0], at[1], true)).append(x.dust(at[0], at[1], false)));
        }
        for (int limit : new int[] {-1, 17, -2}) {
            leavesAll("race(" + limit + ")", "-2", (x, s) -> s.append(x.race(limit)));
        }
        for (int n : new int[] {0, -1, 6, 100, 101}) {
            leavesAll("back(" + n + ")", "-1", (x, s) -> s.append(x.back(n)));
        }
        for (int far : FAR) {
            leavesAll("calls with " + far, "-2 -1 -1 -2 -1 false false false false ", (x, s) -> {
                s.append(x.load(far)).append(' ').append(x.adder(far)).append(' ');
                s.append(x.tick(far)).append(' ');
                s.append(x.race(far)).append(' ').append(x.back(far)).append(' ').append(x.key(far, true)).append(' ');
                s.append(x.stuck(far, 1, 1)).append(' ').append(x.stuck(0, 1, far)).append(' ');
                s.append(x.dust(0, far, true)).append(' ');
            });
        }
    }

    /** What is so already is told to be done, and nothing is changed. */
    private static void doneAlready() {
        leavesAll("tick(0)", "5", (x, s) -> s.append(x.tick(0)));
        leavesAll("a key that is down", "true", (x, s) -> s.append(x.key(0, true)));
        leavesAll("a key that is up", "true", (x, s) -> s.append(x.key(1, false)));
        leavesAll("stuck there", "truetrue", (x, s) -> s.append(x.stuck(0, 1, 2)).append(x.stuck(3, 1, 0)));
        leavesAll("not stuck", "true", (x, s) -> s.append(x.stuck(1, 1, -1)));
        leavesAll("dusty", "true", (x, s) -> s.append(x.dust(1, 1, true)));
        leavesAll("not dusty", "true", (x, s) -> s.append(x.dust(0, 1, false)));
    }

    private static void doneAndUndone() {
        leavesAll("down and up", "truetrue", (x, s) -> s.append(x.key(1, true)).append(x.key(1, false)));
        leavesAll("up and down", "truetrue", (x, s) -> s.append(x.key(0, false)).append(x.key(0, true)));
        leavesAll("stuck elsewhere and back", "truetrue", (x, s) -> s.append(x.stuck(0, 2, 0)).append(x.stuck(0, 2, 1)));
        leavesAll("stuck and free", "truetrue", (x, s) -> s.append(x.stuck(4, 1, 2)).append(x.stuck(4, 1, -1)));
        leavesAll("free and stuck", "truetrue", (x, s) -> s.append(x.stuck(2, 1, -1)).append(x.stuck(2, 1, 2)));
        leavesAll("dusty and clean", "truetrue", (x, s) -> s.append(x.dust(0, 1, true)).append(x.dust(0, 1, false)));
        leavesAll("clean and dusty", "truetrue", (x, s) -> s.append(x.dust(2, 1, false)).append(x.dust(2, 1, true)));
        for (int n : new int[] {1, 2, 30, 95}) {
            leavesAll(n + " ticks and back", (5 + n) + " 5", (x, s) -> s.append(x.tick(n)).append(' ').append(x.back(n)));
        }
        leavesAll("quiet and back", "5", (x, s) -> s.append(x.back(x.quiet() + 1)));
    }

    private static CoilBench full(CoilBench x, int ahead) {
        for (int fed = ahead; fed < 4000; fed += 20) {
            x.feed(0x20202020, 0x20202020, 0x20202020, 0x20202020, 0x20202020);
        }
        return x;
    }

    /** "NONE, doing nothing: there would be more than 4,000." */
    private static void fullTape() {
        List<Calls> futures = futures(5);
        futures.add((x, s) -> s.append(x.load(20)));
        futures.add((x, s) -> s.append(x.load(3999)));
        futures.add((x, s) -> s.append(x.load(4000)));
        futures.add((x, s) -> s.append(x.load(4001)));
        Bench inUse = () -> full(inUse(), 20);
        Bench isNew = () -> full(new CoilBench(), 0);
        for (Bench made : List.of(inUse, isNew)) {
            alike("feed on a full tape", futures, NOTHING, () -> {
                CoilBench x = made.made();
                Check.due("feed on a full tape", x.feed(0x41414141, -1, 0, 7, Integer.MIN_VALUE), -1);
                return x;
            }, made);
        }
        CoilBench x = isNew.made();
        Check.due("feed on a full tape", x.feed(1, 2, 3, 4, 5), -1);
        Check.due("wrong(0) ahead of a load", x.wrong(0), 0);
        Check.due("wrong(1) ahead of a load", x.wrong(1), -1);
        Check.due("load of the whole tape", x.load(4000), 0);
    }

    /** A feed leaves all but the tape. */
    private static void feedLeaves() {
        alike("feed", futures(5), NOTHING, () -> {
            CoilBench x = inUse();
            Check.due("feed", x.feed(1, 2, 3, 4, 5), 40);
            return x;
        }, StaysTest::inUse);
    }

    /** "All is as it was then": but what raced() tells. */
    private static void raceLeaves() {
        for (int n = 0; n <= 16; n += 4) {
            int limit = n;
            alike("race(" + limit + ")", allFutures(5), OF_RACED, () -> {
                CoilBench x = inUse();
                Check.due("race(" + limit + ")", x.race(limit) >= -1, true);
                return x;
            }, StaysTest::inUse);
        }
    }

    /** "NONE, all stays but the tape: a FAULT", and what wrong() tells. */
    private static void faultLeaves() {
        for (String text : new String[] {"r", "wire plus a.1;", Check.parts("diode ", 25, ";"), "key k;key k;"}) {
            alike("load of " + text, futures(5), OF_WRONG, () -> {
                CoilBench x = inUse();
                x.load(1);
                Check.due("load of " + text, Check.load(x, text), -1);
                return x;
            }, StaysTest::inUse);
            alike("load of " + text, tapeFutures(), OF_WRONG, () -> {
                CoilBench x = inUse();
                x.load(1);
                Check.due("load of " + text, Check.load(x, text), -1);
                Check.feed(x, TAPED);
                return x;
            }, StaysTest::inUse);
        }
    }

    /** "its netlist stands in place of the one before, with its states at first, nothing stuck or dusty, no tick to take back" */
    private static void loadsLeaveNothing() {
        for (String text : new String[] {BENCH, BENCH.replace("break", "make"), "", "key k;wire plus k.1;"}) {
            alike("load behind another", allFutures(1), NOTHING, () -> {
                CoilBench x = inUse();
                x.load(1);
                Check.load(x, text);
                return x;
            }, () -> Check.of(text));
        }
    }

    /** "likewise (the tape stays)"; the latest load()'s FAULT stays too. */
    private static void addersLeaveNothing() {
        for (int k = 1; k <= 2; k++) {
            int n = k;
            alike("adder(" + n + ") behind a load", allFutures(1), NOTHING, () -> {
                CoilBench x = inUse();
                Check.due("adder", x.adder(n), 2 * n);
                return x;
            }, () -> {
                CoilBench y = new CoilBench();
                Check.load(y, WRONG);
                Check.feed(y, TAPED);
                Check.due("adder", y.adder(n), 2 * n);
                return y;
            });
        }
    }

    /** "TICKS are done": those of quiet() are like others, and those of many calls like those of one. */
    private static void ticksAlike() {
        alike("quiet", allFutures(12), NOTHING, () -> {
            CoilBench x = inUse();
            Check.due("quiet", x.quiet(), 9);
            return x;
        }, () -> {
            CoilBench y = inUse();
            y.tick(10);
            return y;
        });
        alike("quiet that ends with NONE", allFutures(100), NOTHING, () -> {
            CoilBench x = inUse(RESTLESS);
            Check.due("quiet", x.quiet(), -1);
            return x;
        }, () -> {
            CoilBench y = inUse(RESTLESS);
            for (int k = 0; k < 4; k++) {
                y.tick(500);
            }
            return y;
        });
        alike("ticks one by one", allFutures(100), NOTHING, () -> {
            CoilBench x = inUse(RESTLESS);
            for (int k = 0; k < 110; k++) {
                x.tick(1);
            }
            return x;
        }, () -> {
            CoilBench y = inUse(RESTLESS);
            y.tick(110);
            return y;
        });
    }
}
