import java.math.BigInteger;
import java.util.ArrayList;
import java.util.Arrays;
import java.util.List;
import java.util.function.Consumer;

/**
 * The document once more, written for plainness alone: nothing is pruned, kept or used again.
 * ModelTest holds the class against it.
 */
final class Model {
    static final int NONE = -1000000, BAD = -1000001, STATE = -1000002, FULL = -1000003;

    /** One goer. */
    static final class Person {
        char sort;
        int weight, start, place, fell;
        boolean up = true, held;

        Person(char sort, int weight, int start) {
            this.sort = sort;
            this.weight = weight;
            this.start = start;
        }

        Person twin() {
            Person t = new Person(sort, weight, start);
            t.place = place;
            t.fell = fell;
            t.up = up;
            t.held = held;
            return t;
        }

        int load() {
            return sort == 'g' ? weight / 2 : weight;
        }
    }

    /** One lake at one time. */
    static final class World {
        int rope, hour;
        List<Integer> rungs = new ArrayList<>();
        List<Person> people = new ArrayList<>();

        World twin() {
            World t = new World();
            t.rope = rope;
            t.hour = hour;
            t.rungs = new ArrayList<>(rungs);
            for (Person p : people) {
                t.people.add(p.twin());
            }
            return t;
        }

        World with(Consumer<World> change, int hours) {
            World t = twin();
            change.accept(t);
            for (int i = 0; i < hours; i++) {
                t.hour();
            }
            return t;
        }

        int top() {
            return rungs.size() + 1;
        }

        boolean usable(int place) {
            return place == 0 || place == top() || place > 0 && place < top() && rungs.get(place - 1) > 0;
        }

        /** The place that a step from here leads to, or -1; by is 1 for up, -1 for down. */
        int next(int place, int by) {
            for (int far = 1; far <= 2; far++) {
                int there = place + by * far;
                if (there < 0 || there > top()) {
                    return -1;
                }
                if (usable(there)) {
                    return there;
                }
            }
            return -1;
        }

        int hanging() {
            return people.stream().filter(p -> p.place >= 1 && p.place < top()).mapToInt(Person::load).sum();
        }

        boolean up(Person p) {
            int there = next(p.place, 1);
            if (there < 0 || p.place == 0 && hanging() + p.load() > rope) {
                return false;
            }
            p.place = there;
            return true;
        }

        int highestWhole() {
            for (int place = rungs.size(); place >= 1; place--) {
                if (usable(place)) {
                    return place;
                }
            }
            return -1;
        }

        void fetch(Person p) {
            if (p.up && p.place > 0 && (p.place == highestWhole() || next(p.place, 1) < 0)) {
                p.up = false;
            }
            if (p.up) {
                up(p);
                return;
            }
            int there = next(p.place, -1);
            if (there >= 0) {
                p.place = there;
            }
            if (p.place == 0) {
                p.up = true;
            }
        }

        void move(Person p) {
            switch (p.sort) {
                case 'c' -> up(p);
                case 'd' -> {
                    if (up(p) && p.place != top()) {
                        up(p);
                    }
                }
                case 'k' -> {
                    if (hour % 2 == 0) {
                        up(p);
                    }
                }
                default -> fetch(p);
            }
        }

        int snap(int place) {
            rungs.set(place - 1, 0);
            int who = 0;
            for (int i = 0; i < people.size(); i++) {
                Person p = people.get(i);
                if (p.place == place) {
                    p.place = 0;
                    p.up = true;
                    p.fell++;
                    who |= 1 << i;
                }
            }
            return who;
        }

        void hour() {
            for (Person p : people) {
                if (p.place != top() && !p.held && p.start <= hour) {
                    move(p);
                }
            }
            for (int place = 1; place <= rungs.size(); place++) {
                int load = loadAt(place);
                int left = rungs.get(place - 1);
                if (load > left || load > 0 && left == 1) {
                    snap(place);
                } else if (load > 0) {
                    rungs.set(place - 1, left - 1);
                }
            }
            hour++;
        }

        int loadAt(int place) {
            return people.stream().filter(p -> p.place == place).mapToInt(Person::load).sum();
        }

        int at(int place) {
            int who = 0;
            for (int i = 0; i < people.size(); i++) {
                who |= people.get(i).place == place ? 1 << i : 0;
            }
            return who;
        }

        int falls() {
            return people.stream().mapToInt(p -> p.fell).sum();
        }

        int brokenBits() {
            int bits = 0;
            for (int i = 0; i < rungs.size(); i++) {
                bits |= rungs.get(i) == 0 ? 1 << i : 0;
            }
            return bits;
        }

        int heldBits() {
            int bits = 0;
            for (int i = 0; i < people.size(); i++) {
                bits |= people.get(i).held ? 1 << i : 0;
            }
            return bits;
        }

        boolean isUpThere(int g) {
            return people.get(g).place == top();
        }
    }

    private static final String SORTS = "?cdkfg";
    private final int[][] rows = new int[8][];
    private final int[] lanes = new int[8];
    private String tape = "";
    private int faultNumber, statusNumber;
    private World world;
    private final List<World> past = new ArrayList<>();
    private final World[] images = new World[2];
    private List<Integer> traced = new ArrayList<>();

    private static boolean out(int v, int least, int most) {
        return v < least || v > most;
    }

    private boolean noGoer(int g) {
        return world == null || out(g, 0, world.people.size() - 1);
    }

    private boolean noRung(int r) {
        return world == null || out(r, 0, world.rungs.size() - 1);
    }

    private int found(int number) {
        statusNumber = number;
        return -1000010 - number;
    }

    private int fine(int answer) {
        statusNumber = 0;
        return answer;
    }

    private void act() {
        past.add(world.twin());
        if (past.size() > 24) {
            past.remove(0);
        }
    }

    long call(String name, int[] a) {
        switch (name) {
            case "row": return row(a[0], a[1], a[2]);
            case "set": return set(a[0], a[1], a[2]);
            case "copy": return copy(a[0], a[1], a[2], a[3], a[4]);
            case "drop": return drop(a[0]);
            case "feed": return feed(a[0]);
            case "lake": return lake();
            case "fault": return faultNumber;
            case "undo": return undo();
            case "hours": return hours(a[0]);
            case "begin": return begin(a[0], a[1]);
            case "hold": return hold(a[0], a[1]);
            case "mend": return mend(a[0]);
            case "takeOut": return takeOut(a[0]);
            case "goer": return goer(a[0], a[1]);
            case "rung": return rung(a[0], a[1]);
            case "stand": return stand(a[0]);
            case "ahead": return noGoer(a[0]) || out(a[1], 0, 60) ? BAD : later(a[1]).people.get(a[0]).place;
            case "strength": return noRung(a[0]) || out(a[1], 0, 60) ? BAD : later(a[1]).rungs.get(a[0]);
            case "above": return above(a[0]);
            case "broken": return noRung(a[0]) ? BAD : when(a[0]);
            case "first": return first(a[0]);
            case "falls": return world == null ? STATE : out(a[0], 0, 60) ? BAD : later(a[0]).falls() - world.falls();
            case "mends": return mends(a[0], a[1], a[2]);
            case "holds": return holds(a[0], a[1], a[2]);
            case "line": return line(a[0], a[1]);
            case "heavy": return heavy(a[0]);
            case "who": return who(a);
            case "rotten": return rotten(a[0], a[1], a[2], a[3]);
            case "risk": return risk(a[0], a[1], a[2], a[3]);
            case "drawn": return drawn(a[0], a[1], a[2]);
            case "image": return image(a[0]);
            case "restore": return restore(a[0]);
            case "kind": return noGoer(a[0]) ? BAD : kindOf(a[0]);
            case "as": return as(a[0], a[1]);
            case "ask": return ask(a[0], a[1]);
            case "trace": return out(a[0], 0, traced.size() - 1) ? NONE : traced.get(a[0]);
            case "count": return count(a[0]);
            case "status": return statusNumber;
            default: throw new IllegalArgumentException(name);
        }
    }

    private int row(int row, int lane, int n) {
        if (out(row, 0, 7) || out(lane, 0, 2) || n > 40) {
            return BAD;
        }
        if (n < 0) {
            return found(4);
        }
        rows[row] = new int[n];
        lanes[row] = lane;
        return fine(n);
    }

    private int set(int row, int i, int v) {
        if (out(row, 0, 7)) {
            return BAD;
        }
        if (rows[row] == null) {
            return found(1);
        }
        if (out(i, 0, rows[row].length - 1)) {
            return found(2);
        }
        int spare = new int[] {24, 16, 0}[lanes[row]];
        rows[row][i] = v << spare >> spare;
        return fine(rows[row][i]);
    }

    private static boolean beyond(int[] row, int i, int n) {
        return i < 0 || n < 0 || (long) i + n > row.length;
    }

    private int copy(int a, int i, int b, int j, int n) {
        if (out(a, 0, 7) || out(b, 0, 7)) {
            return BAD;
        }
        if (rows[a] == null || rows[b] == null) {
            return found(1);
        }
        if (lanes[a] != lanes[b]) {
            return found(5);
        }
        if (beyond(rows[a], i, n) || beyond(rows[b], j, n)) {
            return found(2);
        }
        int[] was = rows[a].clone();
        for (int k = 0; k < n; k++) {
            rows[b][j + k] = was[i + k];
        }
        return fine(n);
    }

    private int drop(int row) {
        if (out(row, 0, 7)) {
            return BAD;
        }
        if (rows[row] == null) {
            return found(1);
        }
        int n = rows[row].length;
        rows[row] = null;
        return fine(n);
    }

    private int feed(int letter) {
        if (out(letter, 0, 255)) {
            return BAD;
        }
        if (tape.length() == 100) {
            return FULL;
        }
        tape += (char) letter;
        return tape.length();
    }

    /** The text as a list of tokens with their places; an empty token at the end. */
    private static List<String> tokens(String text, List<Integer> places) {
        List<String> list = new ArrayList<>();
        java.util.regex.Matcher m = java.util.regex.Pattern.compile("[0-9]+|(?s).").matcher(text);
        while (m.find()) {
            list.add(m.group());
            places.add(m.start());
        }
        list.add("");
        places.add(text.length());
        return list;
    }

    /** What must stand at the next token, by the tokens before it: a regular pattern of signs. */
    private int lake() {
        String text = tape;
        tape = "";
        List<Integer> places = new ArrayList<>();
        List<String> list = tokens(text, places);
        World w = new World();
        int[] law = new int[2];
        int at = 0;
        String shape = "l#,#;";
        int rungsTold = 0;
        int part = 0;
        char sort = 0;
        int weight = 0;
        while (true) {
            String t = list.get(at);
            char want = shape.charAt(part);
            int fault = 0;
            boolean number = t.matches("[0-9]{1,2}");
            int value = number ? Integer.parseInt(t) : -1;
            if (want == '#') {
                int[] bounds = bounds(shape, part);
                fault = !number ? 1 : out(value, bounds[0], bounds[1]) ? 2 : 0;
            } else if (want == 'g') {
                boolean letter = t.length() == 1 && "cdkfg".contains(t);
                fault = letter ? w.people.size() == 6 ? 3 : 0 : 1;
                if (t.equals("r") && w.people.isEmpty()) {
                    fault = 3;
                }
                if (t.isEmpty() && !w.people.isEmpty()) {
                    world = w;
                    past.clear();
                    return w.people.size();
                }
            } else {
                fault = t.equals("" + want) ? 0 : 1;
            }
            if (fault != 0) {
                faultNumber = fault;
                return -1000100 - places.get(at);
            }
            if (shape.startsWith("l") && want == '#') {
                law[part / 3] = value;
            } else if (shape.startsWith("r") && want == '#') {
                w.rungs.add(value);
            } else if (want == 'g') {
                sort = t.charAt(0);
            } else if (shape.startsWith("g") && part == 1) {
                weight = value;
            } else if (shape.startsWith("g") && part == 3) {
                w.people.add(new Person(sort, weight, value));
            }
            at++;
            part++;
            if (part == shape.length()) {
                part = 0;
                w.rope = law[1];
                shape = w.rungs.size() < law[0] ? "r#;" : "g#,#;";
            }
        }
    }

    private static int[] bounds(String shape, int part) {
        if (shape.startsWith("l")) {
            return part == 1 ? new int[] {2, 9} : new int[] {1, 99};
        }
        if (shape.startsWith("r")) {
            return new int[] {0, 99};
        }
        return part == 1 ? new int[] {1, 30} : new int[] {0, 30};
    }

    private int undo() {
        if (past.isEmpty()) {
            return STATE;
        }
        world = past.remove(past.size() - 1);
        return past.size();
    }

    private int hours(int n) {
        if (world == null) {
            return STATE;
        }
        if (out(n, 1, 24)) {
            return BAD;
        }
        if (world.hour + n > 999) {
            return FULL;
        }
        for (int i = 0; i < n; i++) {
            act();
            world.hour();
        }
        return world.at(world.top());
    }

    private int begin(int g, int n) {
        if (noGoer(g) || out(n, 0, 30)) {
            return BAD;
        }
        act();
        int was = world.people.get(g).start;
        world.people.get(g).start = n;
        return was;
    }

    private int hold(int g, int on) {
        if (noGoer(g) || out(on, 0, 1)) {
            return BAD;
        }
        if (world.people.get(g).held == (on == 1)) {
            return STATE;
        }
        act();
        world.people.get(g).held = on == 1;
        return world.heldBits();
    }

    private int mend(int r) {
        if (noRung(r)) {
            return BAD;
        }
        act();
        return world.rungs.set(r, 99);
    }

    private int takeOut(int r) {
        if (noRung(r)) {
            return BAD;
        }
        if (world.rungs.get(r) == 0) {
            return STATE;
        }
        act();
        return world.snap(r + 1);
    }

    private int goer(int g, int what) {
        if (noGoer(g) || out(what, 0, 6)) {
            return BAD;
        }
        Person p = world.people.get(g);
        return new int[] {p.place, p.weight, p.start, p.load(), p.up ? 1 : 0, p.held ? 1 : 0, p.fell}[what];
    }

    private int rung(int r, int what) {
        if (noRung(r) || out(what, 0, 2)) {
            return BAD;
        }
        return new int[] {world.rungs.get(r), world.loadAt(r + 1), world.at(r + 1)}[what];
    }

    private int stand(int what) {
        if (world == null) {
            return STATE;
        }
        if (out(what, 0, 4)) {
            return BAD;
        }
        return new int[] {world.at(world.top()), world.at(0), world.hanging(),
            world.brokenBits(), world.heldBits()}[what];
    }

    private World later(int n) {
        return world.with(w -> { }, n);
    }

    private int above(int g) {
        if (noGoer(g)) {
            return BAD;
        }
        for (int n = 0; n <= 60; n++) {
            if (later(n).isUpThere(g)) {
                return n;
            }
        }
        return NONE;
    }

    private int when(int r) {
        for (int n = 0; n <= 60; n++) {
            if (later(n).rungs.get(r) == 0) {
                return n;
            }
        }
        return NONE;
    }

    private int first(int what) {
        if (world == null) {
            return STATE;
        }
        if (out(what, 0, 1)) {
            return BAD;
        }
        int best = NONE;
        int which = NONE;
        for (int r = 0; r < world.rungs.size(); r++) {
            int n = world.rungs.get(r) == 0 ? NONE : when(r);
            if (n != NONE && (best == NONE || n < best)) {
                best = n;
                which = r;
            }
        }
        return what == 0 ? which : best;
    }

    /** Of sets (bits) that are good the smallest, of these the least. */
    private static int smallest(List<Integer> good, int what) {
        int best = -1;
        for (int bits : good) {
            int sign = Integer.compare(Integer.bitCount(bits), Integer.bitCount(best));
            if (sign < 0 || sign == 0 && bits < best) {
                best = bits;
            }
        }
        return best == -1 ? NONE : what == 0 ? Integer.bitCount(best) : best;
    }

    private int mends(int g, int n, int what) {
        if (noGoer(g) || out(n, 1, 30) || out(what, 0, 1)) {
            return BAD;
        }
        List<Integer> good = new ArrayList<>();
        for (int bits = 0; bits < 1 << world.rungs.size(); bits++) {
            int set = bits;
            World w = world.with(x -> {
                for (int r = 0; r < x.rungs.size(); r++) {
                    if ((set >> r & 1) == 1) {
                        x.rungs.set(r, 99);
                    }
                }
            }, n);
            if (w.isUpThere(g)) {
                good.add(bits);
            }
        }
        return smallest(good, what);
    }

    private int holds(int g, int n, int what) {
        if (noGoer(g) || out(n, 1, 30) || out(what, 0, 1)) {
            return BAD;
        }
        List<Integer> good = new ArrayList<>();
        for (int bits = 0; bits < 1 << world.people.size(); bits++) {
            int set = bits;
            if ((bits >> g & 1) == 1 || (bits & world.heldBits()) != 0) {
                continue;
            }
            World w = world.with(x -> {
                for (int i = 0; i < x.people.size(); i++) {
                    x.people.get(i).held |= (set >> i & 1) == 1;
                }
            }, n);
            if (w.isUpThere(g)) {
                good.add(bits);
            }
        }
        return smallest(good, what);
    }

    private static void orders(List<Integer> left, List<Integer> sofar, List<List<Integer>> all) {
        if (left.isEmpty()) {
            all.add(new ArrayList<>(sofar));
        }
        for (Integer g : left) {
            List<Integer> rest = new ArrayList<>(left);
            rest.remove(g);
            sofar.add(g);
            orders(rest, sofar, all);
            sofar.remove(sofar.size() - 1);
        }
    }

    private int line(int n, int k) {
        if (world == null) {
            return STATE;
        }
        if (out(n, 1, 60) || k < -1) {
            return BAD;
        }
        List<Integer> boat = new ArrayList<>();
        for (int g = 0; g < world.people.size(); g++) {
            if (world.people.get(g).place == 0 && !world.people.get(g).held) {
                boat.add(g);
            }
        }
        List<List<Integer>> all = new ArrayList<>();
        orders(boat, new ArrayList<>(), all);
        int most = -1;
        List<Integer> best = null;
        for (List<Integer> one : all) {
            World w = world.with(x -> {
                for (int i = 0; i < one.size(); i++) {
                    x.people.get(one.get(i)).start = x.hour + i;
                }
            }, n);
            int above = Integer.bitCount(w.at(w.top()));
            if (above > most) {
                most = above;
                best = one;
            }
        }
        return k == -1 ? most : k < best.size() ? best.get(k) : NONE;
    }

    private int heavy(int n) {
        if (world == null) {
            return STATE;
        }
        if (out(n, 1, 60)) {
            return BAD;
        }
        int best = NONE;
        for (int weight = 1; weight <= 30 && world.people.size() < 6; weight++) {
            int kilos = weight;
            World w = world.with(x -> x.people.add(new Person('c', kilos, x.hour)), n);
            if (w.isUpThere(world.people.size())) {
                best = weight;
            }
        }
        return best;
    }

    private boolean fits(Consumer<World> change, int g, int[] told) {
        for (int h = 1; h <= told.length; h++) {
            if (world.with(change, h).people.get(g).place != told[h - 1]) {
                return false;
            }
        }
        return true;
    }

    private int who(int[] a) {
        int g = a[0];
        int n = a[5];
        if (noGoer(g) || out(a[1], 0, 2) || noGoer(a[2]) || out(a[3], 0, 7) || out(n, 1, 12)) {
            return BAD;
        }
        int[] row = rows[a[3]];
        if (row == null) {
            return found(1);
        }
        if (beyond(row, a[4], n)) {
            return found(2);
        }
        int[] told = Arrays.copyOfRange(row, a[4], a[4] + n);
        int bits = 0;
        for (int v = a[1] == 2 ? 0 : 1; v <= (a[1] == 0 ? 5 : 30); v++) {
            int one = v;
            Consumer<World> change = a[1] == 0 ? w -> w.people.get(g).sort = SORTS.charAt(one)
                : a[1] == 1 ? w -> w.people.get(g).weight = one
                : w -> w.people.get(g).start = one;
            bits |= fits(change, a[2], told) ? 1 << v : 0;
        }
        return fine(bits);
    }

    private int rotten(int g, int row, int i, int n) {
        if (noGoer(g) || out(row, 0, 7) || out(n, 1, 12)) {
            return BAD;
        }
        if (rows[row] == null) {
            return found(1);
        }
        if (beyond(rows[row], i, n)) {
            return found(2);
        }
        int[] told = Arrays.copyOfRange(rows[row], i, i + n);
        int bits = fits(w -> { }, g, told) ? 1024 : 0;
        for (int r = 0; r < world.rungs.size(); r++) {
            int one = r + 1;
            if (world.rungs.get(r) > 0 && fits(w -> w.snap(one), g, told)) {
                bits |= 1 << r;
            }
        }
        return fine(bits);
    }

    /** How many of 10 to the power of the rungs that are free are good. */
    private BigInteger good(World w, int rung, int g, int n, int p) {
        if (rung == w.rungs.size()) {
            return w.with(x -> { }, n).isUpThere(g) ? BigInteger.ONE : BigInteger.ZERO;
        }
        if (world.rungs.get(rung) == 0 || world.at(rung + 1) != 0) {
            return good(w, rung + 1, g, n, p);
        }
        World lost = w.twin();
        lost.rungs.set(rung, 0);
        return good(lost, rung + 1, g, n, p).multiply(BigInteger.valueOf(p))
            .add(good(w, rung + 1, g, n, p).multiply(BigInteger.valueOf(10 - p)));
    }

    private long risk(int g, int n, int p, int what) {
        if (noGoer(g) || out(n, 0, 30) || out(p, 0, 10) || out(what, 0, 1)) {
            return BAD;
        }
        BigInteger good = good(world, 0, g, n, p);
        int free = 0;
        for (int r = 0; r < world.rungs.size(); r++) {
            free += world.rungs.get(r) > 0 && world.at(r + 1) == 0 ? 1 : 0;
        }
        BigInteger all = BigInteger.TEN.pow(free);
        return (what == 0 ? good : all).divide(good.gcd(all)).longValueExact();
    }

    private int drawn(int n, int seed, int what) {
        if (world == null) {
            return STATE;
        }
        if (out(n, 0, 60) || out(seed, 1, 999999) || out(what, 0, 1)) {
            return BAD;
        }
        World w = world.twin();
        BigInteger x = BigInteger.valueOf(seed);
        for (int i = 0; i < n; i++) {
            x = x.multiply(BigInteger.valueOf(16807)).mod(BigInteger.valueOf(2147483647));
            int r = x.mod(BigInteger.valueOf(w.rungs.size())).intValue();
            if (x.mod(BigInteger.valueOf(4)).signum() == 0) {
                w.rungs.set(r, 99);
            } else if (x.mod(BigInteger.valueOf(7)).signum() == 0 && w.rungs.get(r) != 0) {
                w.snap(r + 1);
            }
            w.hour();
        }
        return what == 0 ? Integer.bitCount(w.at(w.top())) : w.falls() - world.falls();
    }

    private int image(int k) {
        if (out(k, 0, 1)) {
            return BAD;
        }
        if (world == null) {
            return STATE;
        }
        images[k] = world.twin();
        return 1;
    }

    private int restore(int k) {
        if (out(k, 0, 1)) {
            return BAD;
        }
        if (images[k] == null) {
            return STATE;
        }
        world = images[k].twin();
        past.clear();
        return 1;
    }

    private int kindOf(int g) {
        return SORTS.indexOf(world.people.get(g).sort);
    }

    private int as(int g, int kind) {
        if (noGoer(g) || out(kind, 0, 5)) {
            return BAD;
        }
        String fits = new String[] {"", "01", "012", "013", "04", "045"}[kindOf(g)];
        return fits.indexOf('0' + kind) >= 0 ? fine(g) : found(3);
    }

    private int ask(int g, int what) {
        if (noGoer(g) || out(what, 0, 1)) {
            return BAD;
        }
        Person p = world.people.get(g);
        int w = p.weight;
        String trace;
        int answer;
        switch ("" + p.sort + what) {
            case "c0": trace = "11 10 21 20"; answer = w + g + p.place; break;
            case "c1": trace = "21 20"; answer = g + p.place; break;
            case "d0": trace = "12 11 10 24 21 20"; answer = -(w + 2 * (g + p.place)); break;
            case "d1": trace = "24 21 20"; answer = 2 * (g + p.place); break;
            case "k0": trace = "11 10 22 21 20"; answer = w + g + p.place - 1000; break;
            case "k1": trace = "22 21 20"; answer = g + p.place - 1000; break;
            case "f0": trace = "13 10"; answer = w - 100; break;
            case "f1": trace = "23 20 13 10"; answer = g - (w - 100); break;
            case "g0": trace = "14 13 10"; answer = 2 * (w - 100); break;
            default: trace = "23 20 14 13 10"; answer = g - 2 * (w - 100); break;
        }
        traced = new ArrayList<>();
        for (String one : trace.split(" ")) {
            traced.add(Integer.parseInt(one));
        }
        return answer;
    }

    private int count(int what) {
        World w = world == null ? new World() : world;
        switch (what) {
            case 0: return (int) Arrays.stream(rows).filter(r -> r != null).count();
            case 1: return w.rungs.size();
            case 2: return w.people.size();
            case 3: return w.hour;
            case 4: return Integer.bitCount(w.at(w.top()));
            case 5: return w.falls();
            case 6: return past.size();
            case 7: return tape.length();
            default: return BAD;
        }
    }
}
