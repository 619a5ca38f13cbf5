import java.util.ArrayList;
import java.util.List;

/** Runs of calls, the same each time, whose answers are compared with the slow model's. */
final class ModelTest {
    private static long seed = 1;
    private static int races = 0;
    private static int loads = 0;
    private static int tooMany = 0;
    private static final int[] FAULTS = new int[4];

    public static void main(String[] args) {
        int runs = args.length > 0 ? Integer.parseInt(args[0]) : 700;
        seed = args.length > 1 ? Long.parseLong(args[1]) : 1;
        for (int k = 0; k < runs; k++) {
            run(k);
        }
        System.out.println("races " + races + ", too many due " + tooMany + ", texts taken " + loads + ", faults "
            + FAULTS[1] + " " + FAULTS[2] + " " + FAULTS[3]);
        Check.due("runs that found races, faults", races > 20 && FAULTS[3] > 20 && FAULTS[2] > 2 && tooMany > 2, true);
        Check.end("ModelTest");
    }

    /** From 0 to below. */
    private static int any(int below) {
        seed = seed * 6364136223846793005L + 1442695040888963407L;
        return (int) ((seed >>> 33) % below);
    }

    private static String pick(List<String> from) {
        return from.get(any(from.size()));
    }

    /** A text of some parts, the coils mostly grounded and fed from few places, so that races come about. */
    private static String text() {
        StringBuilder text = new StringBuilder();
        List<String> wires = new ArrayList<>();
        List<String> pins = new ArrayList<>();
        List<String> live = new ArrayList<>();
        int relays = any(4) == 0 ? 5 + any(8) : any(5);
        int slow = any(4) == 0 ? 20 : any(2) == 0 ? 4 : 1;
        int wide = any(8) == 0 ? 7 : 4;
        for (int r = 0; r < relays; r++) {
            text.append("relay R").append(r).append(' ').append(1 + any(slow)).append(' ').append(1 + any(slow));
            int kinds = any(wide);
            for (int c = 1; c <= kinds; c++) {
                text.append(any(2) == 0 ? " break" : " make");
                String middle = "R" + r + "." + c;
                pins.addAll(List.of(middle, middle + "+", middle + "-"));
                live.add(middle + (any(3) == 0 ? "+" : "-"));
                if (any(3) > 0) {
                    wires.add("wire plus " + middle + ";");
                }
            }
            text.append(";\n");
            pins.addAll(List.of("R" + r + ".p", "R" + r + ".n"));
        }
        for (int k = any(4); k > 0; k--) {
            text.append("key k").append(k).append(';');
            addFeed("k" + k, pins, live, wires);
        }
        for (int k = any(3); k > 0; k--) {
            int period = 2 + any(any(2) == 0 ? 6 : 99);
            text.append("clock c").append(k).append(' ').append(period).append(' ').append(1 + any(period - 1)).append(';');
            addFeed("c" + k, pins, live, wires);
        }
        for (int k = any(4); k > 0; k--) {
            text.append("diode d").append(k).append(';');
            addFeed("d" + k, pins, live, wires);
        }
        for (int k = any(3); k > 0; k--) {
            text.append("lamp l").append(k).append(';');
            pins.addAll(List.of("l" + k + ".1", "l" + k + ".2"));
        }
        addWires(relays, pins, live, wires);
        while (!wires.isEmpty()) {
            text.append(wires.remove(any(wires.size())));
        }
        return text.toString();
    }

    private static void addFeed(String name, List<String> pins, List<String> live, List<String> wires) {
        pins.addAll(List.of(name + ".1", name + ".2"));
        live.add(name + ".2");
        if (any(2) == 0) {
            wires.add("wire plus " + name + ".1;");
        }
    }

    private static void addWires(int relays, List<String> pins, List<String> live, List<String> wires) {
        int few = any(2) == 0 ? 2 : live.size();
        for (int r = 0; r < relays; r++) {
            if (any(6) > 0) {
                wires.add("wire minus R" + r + ".n;");
            }
            if (any(6) > 0 && !live.isEmpty()) {
                wires.add("wire R" + r + ".p " + live.get(live.size() - 1 - any(Math.min(few, live.size()))) + ";");
            }
        }
        for (int w = any(6); w > 0 && !pins.isEmpty(); w--) {
            String pin = any(8) > 0 ? pick(pins) : any(2) == 0 ? "plus" : "minus";
            wires.add("wire " + pin + " " + pick(pins) + (any(3) == 0 ? " " + pick(live.isEmpty() ? pins : live) : "") + ";");
        }
    }

    private static final String[] SCRAPS = {";", ".", "+", "-", " ", "\n", "relay", "key ", "lamp a;", "wire", "plus", "minus",
        "break", " make", "1", "0", "21", " 7 ", "A", "k1", "R0.", "R0", ".p", ".1", ".2-", "key k1;", "relay R1 2 2;", "\t", "\0",
        "abcdefghi", "12345", "\u00e9", "clock c1 5 4;", "diode d1;", "wire d1.1 d2.2;", "wire R0.1 R1.1-;"};

    private static String harmed(String text) {
        StringBuilder harmed = new StringBuilder(text);
        for (int k = 1 + any(2); k > 0; k--) {
            int at = any(harmed.length() + 1);
            int to = Math.min(harmed.length(), at + any(4));
            int how = any(4);
            if (how == 0) {
                harmed.delete(at, to);
            } else if (how == 1) {
                harmed.setLength(at);
            } else if (how == 2) {
                harmed.replace(at, to, SCRAPS[any(SCRAPS.length)]);
            } else {
                harmed.insert(at, SCRAPS[any(SCRAPS.length)]);
            }
        }
        if (any(20) == 0) {
            for (int k = 0; k < 24; k++) {
                harmed.append("diode D" + k + ";");
            }
        }
        return harmed.toString();
    }

    private static String run = "";
    private static int wrong = 0;

    private static void due(String call, int got, int want) {
        if (got != want && wrong++ < 5) {
            System.out.println(run);
        }
        Check.due(call, got, want);
    }

    private static void due(String call, boolean got, boolean want) {
        due(call, got ? 1 : 0, want ? 1 : 0);
    }

    private static void load(CoilBench x, Model m, String text) {
        for (int at = 0; at < text.length(); at += 20) {
            int[] n = new int[5];
            for (int k = 0; k < 20; k++) {
                n[k / 4] = n[k / 4] << 8 | (at + k < text.length() ? text.charAt(at + k) : ' ');
            }
            due("feed", x.feed(n[0], n[1], n[2], n[3], n[4]), m.feed(n[0], n[1], n[2], n[3], n[4]));
        }
        run = text.replace("\n", " ") + " : ";
        int relays = x.load(text.length());
        due("load", relays, m.load(text.length()));
        due("wrong(0)", x.wrong(0), m.wrong(0));
        due("wrong(1)", x.wrong(1), m.wrong(1));
        FAULTS[x.wrong(0)]++;
        loads += relays >= 0 ? 1 : 0;
    }

    private static void run(int number) {
        CoilBench x = new CoilBench();
        Model m = new Model();
        if (number % 20 == 19) {
            int n = any(9);
            due("adder " + n, x.adder(n), m.adder(n));
            run = "adder " + n;
        } else {
            load(x, m, text());
        }
        for (int k = 0; k < 60; k++) {
            if (any(15) == 0) {
                load(x, m, any(3) == 0 ? text() : harmed(text()));
            }
            call(x, m);
        }
        all(x, m);
    }

    private static void call(CoilBench x, Model m) {
        int a = any(6) - 1;
        int b = any(6) - 1;
        int n = any(12) == 0 ? any(140) : any(4);
        boolean is = any(3) > 0;
        run += " ";
        switch (any(9)) {
            case 0:
            case 1:
                run += "key(" + a + "," + is + ")";
                due(run, x.key(a, is), m.key(a, is));
                break;
            case 2:
            case 3:
            case 4:
                run += "tick(" + n + ")";
                due(run, x.tick(n), m.tick(n));
                break;
            case 5:
                run += "stuck(" + a + "," + b + "," + (n - 1) + ")";
                due(run, x.stuck(a, b, n - 1), m.stuck(a, b, n - 1));
                break;
            case 6:
                run += "dust(" + a + "," + b + "," + !is + ")";
                due(run, x.dust(a, b, !is), m.dust(a, b, !is));
                break;
            case 7:
                race(x, m, any(18) - 1);
                break;
            default:
                run += "back(" + n + ")";
                due(run, x.back(n), m.back(n));
                if (any(12) == 0) {
                    run += " quiet()";
                    due(run, x.quiet(), m.quiet());
                }
        }
        state(x, m);
    }

    private static void race(CoilBench x, Model m, int limit) {
        run += "race(" + limit + ")";
        int told = x.race(limit);
        due(run, told, m.race(limit));
        races += told == 1 ? 1 : 0;
        tooMany += told == -1 ? 1 : 0;
        for (int what = -1; what < 8; what++) {
            due(run + " raced(" + what + ")", x.raced(what), m.raced(what));
        }
    }

    private static void state(CoilBench x, Model m) {
        due(run + " TIME", x.count(6), m.count(6));
        due(run + " kept", x.count(8), m.count(8));
        for (int r = 0; r < 5; r++) {
            due(run + " relay " + r, x.relay(r, 0) * 100 + x.relay(r, 1), m.relay(r, 0) * 100 + m.relay(r, 1));
            due(run + " contact " + r, x.contact(r, 1), m.contact(r, 1));
        }
    }

    private static void all(CoilBench x, Model m) {
        for (int what = -1; what < 10; what++) {
            due(run + " count " + what, x.count(what), m.count(what));
        }
        for (int sort = -1; sort < 7; sort++) {
            for (int i = -1; i < Math.max(1, m.count(sort)) + 1; i++) {
                for (int e = -1; e < (sort == 0 ? 21 : 3); e++) {
                    due(run + " net " + sort + " " + i + " " + e, x.net(sort, i, e), m.net(sort, i, e));
                    due(run + " letter", x.letter(sort, i, e), m.letter(sort, i, e));
                }
            }
        }
        for (int r = -1; r < m.count(0) + 1; r++) {
            for (int k = -1; k < 8; k++) {
                due(run + " relay " + r + " " + k, x.relay(r, k), m.relay(r, k));
                due(run + " contact " + r + " " + k, x.contact(r, k), m.contact(r, k));
            }
            due(run + " lamp " + r, x.lamp(r), m.lamp(r));
        }
    }
}
