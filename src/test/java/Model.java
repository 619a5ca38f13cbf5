import java.util.ArrayList;
import java.util.Arrays;
import java.util.HashMap;
import java.util.HashSet;
import java.util.List;
import java.util.Map;
import java.util.Set;
import java.util.regex.Matcher;
import java.util.regex.Pattern;

/**
 * The document once more, told in another way than the class: in sets of names, with every contact's own
 * POSITION and copies of everything. Slow, for comparing only.
 */
final class Model {
    private static final Pattern TOKEN = Pattern.compile("[A-Za-z][A-Za-z0-9]*|[0-9]+|[^ \n]", Pattern.DOTALL);
    private static final Set<String> WORDS = Set.of("relay", "key", "lamp", "clock", "diode", "wire", "break",
        "make", "plus", "minus");
    private static final List<String> SORTS = List.of("relay", "key", "lamp", "clock", "diode");
    private static final int[] MOST = {40, 24, 24, 4, 24};

    private static final class Part {
        String name;
        int sort;
        int first;
        int second;
        List<String> kinds = new ArrayList<>();
    }

    private static final class Netlist {
        Map<Integer, List<Part>> parts = new HashMap<>();
        List<List<String>> wires = new ArrayList<>();
        /** Ends by NET, in the order in which wires tell them. */
        List<Set<String>> nets = new ArrayList<>();

        Netlist() {
            for (int sort = 0; sort < 5; sort++) {
                parts.put(sort, new ArrayList<>());
            }
        }

        String netOf(String end) {
            for (int k = 0; k < nets.size(); k++) {
                if (nets.get(k).contains(end)) {
                    return "net " + k;
                }
            }
            return end;
        }
    }

    private static final class Moment {
        boolean[] picked = new boolean[40];
        int[] counts = new int[40];
        int[][] positions = new int[40][7];
        boolean[] down = new boolean[24];
        int time;

        Moment copy() {
            Moment m = new Moment();
            m.picked = picked.clone();
            m.counts = counts.clone();
            for (int r = 0; r < 40; r++) {
                m.positions[r] = positions[r].clone();
            }
            m.down = down.clone();
            m.time = time;
            return m;
        }

        String tell() {
            return Arrays.toString(picked) + Arrays.toString(counts) + Arrays.deepToString(positions);
        }
    }

    private String tape = "";
    private int fault = 0;
    private int place = -1;
    private Netlist list = new Netlist();
    private Moment now = new Moment();
    private List<Moment> past = new ArrayList<>();
    private int[][] stuckAt = new int[40][7];
    private boolean[][] dusty = new boolean[40][7];
    private int raceTick = -1;
    private List<Integer> raceDue = new ArrayList<>();

    Model() {
        fresh(new Netlist());
    }

    private int fresh(Netlist netlist) {
        list = netlist;
        now = new Moment();
        past = new ArrayList<>();
        stuckAt = new int[40][7];
        for (int[] row : stuckAt) {
            Arrays.fill(row, -1);
        }
        dusty = new boolean[40][7];
        raceTick = -1;
        return list.parts.get(0).size();
    }

    int feed(int a, int b, int c, int d, int e) {
        if (tape.length() + 20 > 4000) {
            return -1;
        }
        StringBuilder more = new StringBuilder();
        for (int number : new int[] {a, b, c, d, e}) {
            for (int k = 3; k >= 0; k--) {
                more.append((char) (number >>> 8 * k & 255));
            }
        }
        tape += more;
        return tape.length();
    }

    int load(int n) {
        if (n < 0 || n > tape.length()) {
            return -2;
        }
        String text = tape.substring(0, n);
        tape = "";
        return take(text) ? list.parts.get(0).size() : -1;
    }

    private boolean take(String text) {
        Netlist read = read(text);
        if (read != null) {
            fresh(read);
            fault = 0;
            place = -1;
        }
        return read != null;
    }

    private Netlist blame(int what, int where) {
        fault = what;
        place = where;
        return null;
    }

    /** What may come next is told by a state's name: a machine over tokens. */
    private Netlist read(String text) {
        List<String> tokens = new ArrayList<>();
        List<Integer> places = new ArrayList<>();
        for (Matcher m = TOKEN.matcher(text); m.find();) {
            tokens.add(m.group());
            places.add(m.start());
        }
        tokens.add("");
        places.add(text.length());
        Netlist read = new Netlist();
        List<Object[]> namings = new ArrayList<>();
        String want = "statement";
        Part part = null;
        List<String> wire = null;
        String pin = null;
        int pinPlace = 0;
        int many = -1;
        int[] counts = new int[5];
        for (int t = 0; t < tokens.size(); t++) {
            String token = tokens.get(t);
            int where = places.get(t);
            boolean word = token.matches("[A-Za-z][A-Za-z0-9]{0,7}");
            int value = token.matches("[0-9]{1,4}") ? Integer.parseInt(token) : -1;
            boolean name = word && !WORDS.contains(token);
            if (want.equals("statement") && token.isEmpty()) {
                break;
            } else if (want.equals("statement") && SORTS.contains(token)) {
                part = new Part();
                part.sort = SORTS.indexOf(token);
                want = "name";
            } else if (want.equals("statement") && token.equals("wire")) {
                wire = new ArrayList<>();
                read.wires.add(wire);
                want = "pin";
            } else if (want.equals("name") && name) {
                part.name = token;
                read.parts.get(part.sort).add(part);
                namings.add(new Object[] {where, part});
                counts[part.sort]++;
                if (many < 0 && counts[part.sort] > MOST[part.sort]) {
                    many = where;
                }
                want = part.sort == 0 || part.sort == 3 ? "first" : "end";
            } else if (want.equals("first") && value >= (part.sort == 0 ? 1 : 2)
                && value <= (part.sort == 0 ? 20 : 100)) {
                part.first = value;
                want = "second";
            } else if (want.equals("second") && value >= 1 && value <= (part.sort == 0 ? 20 : part.first - 1)) {
                part.second = value;
                want = part.sort == 0 ? "kind" : "end";
            } else if (want.equals("kind") && (token.equals("break") || token.equals("make"))
                && part.kinds.size() < 6) {
                part.kinds.add(token);
            } else if ((want.equals("kind") || want.equals("end")) && token.equals(";")) {
                want = "statement";
            } else if ((want.equals("pin") || want.equals("side")) && token.equals(";") && wire.size() >= 2) {
                want = "statement";
            } else if (want.equals("side") && (token.equals("+") || token.equals("-"))) {
                String told = wire.get(wire.size() - 1) + token;
                wire.set(wire.size() - 1, told);
                namings.set(namings.size() - 1, new Object[] {pinPlace, told});
                want = "pin";
            } else if ((want.equals("pin") || want.equals("side")) && (token.equals("plus") || token.equals("minus"))) {
                wire.add(token);
                want = "pin";
            } else if ((want.equals("pin") || want.equals("side")) && name) {
                pin = token;
                pinPlace = where;
                want = "point";
            } else if (want.equals("point") && token.equals(".")) {
                want = "behind";
            } else if (want.equals("behind") && (token.equals("p") || token.equals("n") || value >= 1 && value <= 6)) {
                String told = pin + "." + (value < 0 ? token : String.valueOf(value));
                wire.add(told);
                namings.add(new Object[] {pinPlace, told});
                want = value < 0 ? "pin" : "side";
            } else {
                return blame(1, where);
            }
        }
        if (many >= 0) {
            return blame(2, many);
        }
        return named(read, namings) ? joined(read) : null;
    }

    private boolean named(Netlist read, List<Object[]> namings) {
        Map<String, Part> byName = new HashMap<>();
        for (Object[] naming : namings) {
            if (naming[1] instanceof Part p) {
                byName.putIfAbsent(p.name, p);
            }
        }
        Set<String> ahead = new HashSet<>();
        for (Object[] naming : namings) {
            boolean sound;
            if (naming[1] instanceof Part p) {
                sound = ahead.add(p.name);
            } else {
                String told = (String) naming[1];
                Part p = byName.get(told.substring(0, told.indexOf('.')));
                sound = p != null && ends(p).contains(told);
            }
            if (!sound) {
                blame(3, (Integer) naming[0]);
                return false;
            }
        }
        return true;
    }

    /** The ends of a part by their numbers. */
    private static List<String> ends(Part p) {
        List<String> ends = new ArrayList<>();
        if (p.sort > 0) {
            ends.add(p.name + ".1");
            ends.add(p.name + ".2");
            return ends;
        }
        ends.add(p.name + ".p");
        ends.add(p.name + ".n");
        for (int c = 1; c <= p.kinds.size(); c++) {
            ends.add(p.name + "." + c);
            ends.add(p.name + "." + c + "+");
            ends.add(p.name + "." + c + "-");
        }
        return ends;
    }

    private static Netlist joined(Netlist read) {
        for (List<String> wire : read.wires) {
            Set<String> net = new HashSet<>(wire);
            List<Set<String>> others = new ArrayList<>();
            for (Set<String> other : read.nets) {
                boolean apart = true;
                for (String end : wire) {
                    apart &= !other.contains(end);
                }
                if (apart) {
                    others.add(other);
                } else {
                    net.addAll(other);
                }
            }
            others.add(net);
            read.nets = others;
        }
        return read;
    }

    int adder(int n) {
        if (n < 1 || n > 7) {
            return -1;
        }
        String each = "key ai;key bi;relay Ai 2 3 break break break break break;"
            + "relay Bi 2 3 break break break break break;lamp si;"
            + "wire plus ai.1 bi.1 Ai.1;wire ai.2 Ai.p;wire bi.2 Bi.p;wire minus Ai.n Bi.n si.2;wire Ai.1+ Bi.1;"
            + "wire Ai.1- Bi.2;wire Bi.1+ Bi.3 Cj.1;wire Bi.2- Bi.4 Nj.1;wire Ai.2+ Bi.3-;wire Ai.2- Bi.3+;"
            + "wire Ai.3+ Bi.4-;wire Ai.3- Bi.4+;wire Ci.1 Ai.2 Ai.4;wire Ni.1 Ai.3 Ai.5;wire Bi.5+ Ai.4+ Ai.5-;"
            + "wire Bi.5- Ai.4- Ai.5+;wire Bi.5 si.1;lamp Ci;lamp Ni;";
        String index = "\\b([A-Zabs])";
        StringBuilder text = new StringBuilder();
        for (int i = 0; i < n; i++) {
            text.append(each.replaceAll(index + "i\\b", "$1" + i).replaceAll(index + "j\\b", "$1" + (i + 1)));
        }
        text.append("lamp Ci;lamp Ni;".replaceAll(index + "i\\b", "$1" + n)).append("wire plus N0.1;");
        int keptFault = fault;
        int keptPlace = place;
        boolean taken = take(text.toString());
        fault = keptFault;
        place = keptPlace;
        return taken ? list.parts.get(0).size() : -99;
    }

    int wrong(int what) {
        return what == 0 ? fault : what == 1 ? place : -1;
    }

    int count(int what) {
        if (what >= 0 && what < 5) {
            return list.parts.get(what).size();
        }
        if (what == 7) {
            int found = 0;
            for (int k = 0; k < list.nets.size(); k++) {
                found += power("net " + k, now) == 3 ? 1 : 0;
            }
            return found;
        }
        return what == 5 ? list.nets.size() : what == 6 ? now.time : what == 8 ? past.size() : -1;
    }

    private Part part(int sort, int i) {
        List<Part> all = list.parts.get(sort);
        return all == null || i < 0 || i >= all.size() ? null : all.get(i);
    }

    int letter(int sort, int i, int k) {
        Part p = part(sort, i);
        return p == null || k < 0 || k >= p.name.length() ? -1 : p.name.charAt(k);
    }

    boolean key(int k, boolean down) {
        if (part(1, k) == null) {
            return false;
        }
        now.down[k] = down;
        return true;
    }

    /** One-way steps between NETS: way by way, as {from, to}. */
    private List<String[]> steps(Moment m) {
        List<String[]> steps = new ArrayList<>();
        for (int r = 0; r < list.parts.get(0).size(); r++) {
            Part p = list.parts.get(0).get(r);
            for (int c = 1; c <= p.kinds.size(); c++) {
                String middle = p.name + "." + c;
                int at = stuckAt[r][c] >= 0 ? stuckAt[r][c] : m.positions[r][c];
                boolean between = at == 1 && p.kinds.get(c - 1).equals("make");
                if (!dusty[r][c] && (at == 0 || between)) {
                    both(steps, middle, middle + "-");
                }
                if (!dusty[r][c] && (at == 2 || between)) {
                    both(steps, middle, middle + "+");
                }
            }
        }
        for (int k = 0; k < list.parts.get(1).size(); k++) {
            if (m.down[k]) {
                Part p = list.parts.get(1).get(k);
                both(steps, p.name + ".1", p.name + ".2");
            }
        }
        for (Part p : list.parts.get(3)) {
            if (m.time % p.first < p.second) {
                both(steps, p.name + ".1", p.name + ".2");
            }
        }
        for (Part p : list.parts.get(4)) {
            steps.add(new String[] {list.netOf(p.name + ".1"), list.netOf(p.name + ".2")});
        }
        return steps;
    }

    private void both(List<String[]> steps, String a, String b) {
        steps.add(new String[] {list.netOf(a), list.netOf(b)});
        steps.add(new String[] {list.netOf(b), list.netOf(a)});
    }

    private static Set<String> reach(String from, List<String[]> steps, int start) {
        Set<String> reached = new HashSet<>();
        reached.add(from);
        for (boolean more = true; more;) {
            more = false;
            for (String[] step : steps) {
                if (reached.contains(step[start]) && reached.add(step[1 - start])) {
                    more = true;
                }
            }
        }
        return reached;
    }

    private int power(String net, Moment m) {
        List<String[]> steps = steps(m);
        boolean live = reach(list.netOf("plus"), steps, 0).contains(net);
        boolean grounded = reach(list.netOf("minus"), steps, 1).contains(net);
        return (live ? 1 : 0) + (grounded ? 2 : 0);
    }

    private boolean fed(Part p, Moment m) {
        int one = power(list.netOf(ends(p).get(0)), m);
        int other = power(list.netOf(ends(p).get(1)), m);
        return one + other == 3 && one * other == 2;
    }

    /** A TICK; in a race goer (or -1) goes over and those that wait keep all. */
    private void step(Moment m, int goer, List<Integer> waiting) {
        m.time++;
        List<Part> relays = list.parts.get(0);
        boolean[] fed = new boolean[relays.size()];
        for (int r = 0; r < fed.length; r++) {
            fed[r] = fed(relays.get(r), m);
        }
        for (int r = 0; r < fed.length; r++) {
            if (waiting.contains(r)) {
                continue;
            }
            boolean over = r == goer;
            if (!over && fed[r] != m.picked[r]) {
                m.counts[r]++;
                over = m.counts[r] == (m.picked[r] ? relays.get(r).second : relays.get(r).first);
            } else {
                m.counts[r] = 0;
            }
            if (over) {
                m.counts[r] = 0;
                m.picked[r] = !m.picked[r];
            }
        }
        for (int r = 0; r < fed.length; r++) {
            for (int c = 1; c <= relays.get(r).kinds.size(); c++) {
                int to = m.positions[r][c] + (m.picked[r] ? 1 : -1);
                m.positions[r][c] = to < 0 ? 0 : to > 2 ? 2 : to;
            }
        }
    }

    private void run() {
        past.add(now.copy());
        if (past.size() > 100) {
            past.remove(0);
        }
        step(now, -1, List.of());
    }

    int tick(int n) {
        if (n < 0 || n > 500) {
            return -1;
        }
        for (int k = 0; k < n; k++) {
            run();
        }
        return now.time;
    }

    int quiet() {
        for (int k = 0; k < 2000; k++) {
            String before = now.tell();
            run();
            if (before.equals(now.tell())) {
                return k;
            }
        }
        return -1;
    }

    int relay(int r, int what) {
        Part p = part(0, r);
        if (p == null) {
            return -1;
        }
        if (what == 6) {
            int told = 0;
            for (String end : ends(p)) {
                told += list.netOf(end).startsWith("net ") ? 1 : 0;
            }
            return told;
        }
        int[] all = {now.picked[r] ? 1 : 0, now.counts[r], fed(p, now) ? 1 : 0, p.first, p.second, p.kinds.size()};
        return what < 0 || what > 5 ? -1 : all[what];
    }

    private boolean isContact(int r, int c) {
        Part p = part(0, r);
        return p != null && c >= 1 && c <= p.kinds.size();
    }

    int contact(int r, int c) {
        return isContact(r, c) ? now.positions[r][c] : -1;
    }

    int lamp(int l) {
        Part p = part(2, l);
        return p == null ? -1 : fed(p, now) ? 1 : 0;
    }

    int net(int sort, int i, int e) {
        if (sort == 5 && i == 0 && (e == 0 || e == 1)) {
            return power(list.netOf(e == 0 ? "plus" : "minus"), now);
        }
        Part p = part(sort, i);
        if (p == null || e < 0 || e >= ends(p).size()) {
            return -1;
        }
        return power(list.netOf(ends(p).get(e)), now);
    }

    boolean stuck(int r, int c, int how) {
        if (!isContact(r, c) || how < -1 || how > 2) {
            return false;
        }
        stuckAt[r][c] = how;
        return true;
    }

    boolean dust(int r, int c, boolean is) {
        if (!isContact(r, c)) {
            return false;
        }
        dusty[r][c] = is;
        return true;
    }

    int race(int limit) {
        if (limit < 0 || limit > 16) {
            return -2;
        }
        raceTick = -1;
        Moment main = now.copy();
        boolean more = false;
        for (int done = 0; done < limit; done++) {
            Moment ahead = main.copy();
            step(main, -1, List.of());
            List<Integer> due = new ArrayList<>();
            for (int r = 0; r < 40; r++) {
                if (ahead.picked[r] != main.picked[r]) {
                    due.add(r);
                }
            }
            more |= due.size() > 4;
            if (due.size() > 1 && due.size() < 5) {
                Set<String> ends = new HashSet<>();
                orders(ahead, due, limit + 4 - done, ends);
                if (ends.size() > 1) {
                    raceTick = done + 1;
                    raceDue = due;
                    return 1;
                }
            }
        }
        return more ? -1 : 0;
    }

    private void orders(Moment m, List<Integer> waiting, int ticks, Set<String> ends) {
        if (waiting.isEmpty()) {
            Moment end = m.copy();
            for (int k = 0; k < ticks; k++) {
                step(end, -1, waiting);
            }
            ends.add(Arrays.toString(end.picked));
        }
        for (Integer goer : waiting) {
            List<Integer> rest = new ArrayList<>(waiting);
            rest.remove(goer);
            Moment on = m.copy();
            step(on, goer, rest);
            orders(on, rest, ticks - 1, ends);
        }
    }

    int raced(int what) {
        if (raceTick < 0 || what < 0 || what > raceDue.size() + 1) {
            return -1;
        }
        return what == 0 ? raceTick : what == 1 ? raceDue.size() : raceDue.get(what - 2);
    }

    int back(int n) {
        if (n < 1 || n > 100 || n > past.size()) {
            return -1;
        }
        now = past.get(past.size() - n).copy();
        past = new ArrayList<>(past.subList(0, past.size() - n));
        return now.time;
    }
}
