import java.lang.reflect.Method;
import java.util.Arrays;
import java.util.HashMap;
import java.util.Map;
import java.util.Random;

/** Runs of calls by fixed draws, each answer held against the model's. */
public final class ModelTest {
    private static final int RUNS = Integer.getInteger("runs", 500), CALLS = 400;
    private static final String[] CHEAP = {
        "row", "set", "copy", "drop", "feed", "lake", "fault", "undo", "hours", "hours", "begin", "hold", "mend",
        "takeOut", "goer", "goer", "rung", "stand", "ahead", "strength", "falls", "who", "who", "rotten", "rotten",
        "heavy", "drawn", "drawn", "image", "restore", "kind", "as", "ask", "trace", "count", "status", "tell",
        "told", "told", "above", "broken", "first"
    };
    private static final String[] DEAR = {"mends", "mends", "holds", "holds", "line", "risk", "risk"};

    private final Checks checks = new Checks("ModelTest");
    private final Map<String, Method> methods = new HashMap<>();
    private Random draws;
    private LadderSprings x;
    private Model model;
    private int run;

    public static void main(String[] args) throws Exception {
        ModelTest test = new ModelTest();
        for (Method m : LadderSprings.class.getDeclaredMethods()) {
            test.methods.put(m.getName(), m);
        }
        for (test.run = 0; test.run < RUNS; test.run++) {
            test.oneRun();
        }
        for (test.run = RUNS; test.run < 2 * RUNS; test.run++) {
            test.runOfLines();
        }
        test.checks.end();
    }

    private void oneRun() throws Exception {
        draws = new Random(7919L * run + 1);
        x = new LadderSprings();
        model = new Model();
        if (run % 10 != 0) {
            tell(text());
        }
        for (int i = 0; i < CALLS; i++) {
            String name = draws.nextInt(40) == 0 ? DEAR[draws.nextInt(DEAR.length)] : CHEAP[draws.nextInt(CHEAP.length)];
            if (name.equals("tell")) {
                if (draws.nextInt(6) == 0) {
                    tell(draws.nextInt(3) == 0 ? text() : spoilt(text()));
                }
            } else if (name.equals("told")) {
                tellPlaces();
            } else {
                drawCall(name);
            }
        }
    }

    /** One line after the other, each of a lake that differs but little from the one before. */
    private void runOfLines() throws Exception {
        draws = new Random(104729L * run + 3);
        x = new LadderSprings();
        model = new Model();
        int n = upTo(1, 12);
        StringBuilder text = new StringBuilder("l3," + upTo(5, 20) + ";");
        for (int i = 0; i < 3; i++) {
            text.append("r").append(up(10)).append(";");
        }
        for (int i = upTo(2, 4); i > 0; i--) {
            text.append("cdkfgcdk".charAt(up(8))).append(upTo(1, 9)).append(",").append(up(3)).append(";");
        }
        tell(text.toString());
        for (int i = 0; i < 40; i++) {
            switch (up(9)) {
                case 0: call("hours", 1); break;
                case 1: call("begin", up(goers()), up(5)); break;
                case 2: call("hold", up(goers()), up(2)); break;
                case 3: call("mend", up(3)); break;
                case 4: call("takeOut", up(3)); break;
                case 5: call("undo"); break;
                case 6: call("image", up(2)); break;
                case 7: call("restore", up(2)); break;
                default: alter(text); tell(text.toString()); break;
            }
            for (int k = -1; k <= 4; k++) {
                call("line", n, k);
            }
        }
    }

    /** Another figure or another sort somewhere, so that the text mostly stays whole. */
    private void alter(StringBuilder text) {
        int at = upTo(3, text.length() - 1);
        if (Character.isDigit(text.charAt(at))) {
            text.setCharAt(at, (char) ('1' + up(9)));
        } else if ("cdkfg".indexOf(text.charAt(at)) >= 0) {
            text.setCharAt(at, "cdkfg".charAt(up(5)));
        }
    }

    private int up(int bound) {
        return draws.nextInt(bound);
    }

    private int upTo(int least, int most) {
        return least + draws.nextInt(most - least + 1);
    }

    /** A number of least to most, now and then beyond, now and then far off. */
    private int about(int least, int most) {
        switch (up(40)) {
            case 0: return least - 1;
            case 1: return most + 1;
            case 2: return up(2) == 0 ? Integer.MIN_VALUE : Integer.MAX_VALUE;
            case 3: return least;
            case 4: return most;
            default: return upTo(least, most);
        }
    }

    private int goers() {
        return Math.max(1, (int) model.call("count", new int[] {2}));
    }

    private int rungs() {
        return Math.max(2, (int) model.call("count", new int[] {1}));
    }

    private String text() {
        int rungs = upTo(2, 9);
        int rope = up(3) == 0 ? upTo(1, 30) : upTo(20, 99);
        int most = up(3) == 0 ? 10 : up(2) == 0 ? 40 : 99;
        int weights = up(2) == 0 ? 8 : 30;
        StringBuilder text = new StringBuilder("l" + rungs + "," + rope + ";");
        for (int i = 0; i < rungs; i++) {
            text.append("r").append(up(4) == 0 ? 0 : up(most + 1)).append(";");
        }
        int people = upTo(1, 6);
        for (int i = 0; i < people; i++) {
            text.append("cdkfg".charAt(up(5))).append(upTo(1, weights)).append(",")
                .append(up(3) == 0 ? up(31) : up(4)).append(";");
        }
        return text.toString();
    }

    private String spoilt(String text) {
        StringBuilder s = new StringBuilder(text);
        int at = up(s.length());
        switch (up(6)) {
            case 0: s.setLength(at); break;
            case 1: s.deleteCharAt(at); break;
            case 2: s.setCharAt(at, (char) up(256)); break;
            case 3: s.insert(at, "lrcdkfg,;0123456789 ".charAt(up(20))); break;
            case 4: s.append("r5;"); break;
            default: s.append("c5,0;d4,3;k6,6;c1,0;c2,2;c3,3;"); break;
        }
        return s.length() > 100 ? s.substring(0, 100) : s.toString();
    }

    private void tell(String text) throws Exception {
        call("lake");
        for (int i = 0; i < text.length(); i++) {
            call("feed", text.charAt(i));
        }
        call("lake");
        call("fault");
    }

    /** A row that tells where one will be, perhaps under another start or with a wrong item, so that something fits. */
    private void tellPlaces() throws Exception {
        int n = upTo(1, 12);
        int goer = up(goers());
        int row = up(8);
        int from = up(5);
        call("row", row, up(3), from + n);
        boolean otherwise = up(2) == 0;
        if (otherwise) {
            call("begin", up(goers()), up(6));
        }
        for (int h = 1; h <= n; h++) {
            int place = (int) model.call("ahead", new int[] {goer, h});
            call("set", row, from + h - 1, up(60) == 0 ? up(4) : place);
        }
        if (otherwise && up(2) == 0) {
            call("undo");
        }
        call("rotten", goer, row, from, n);
        for (int which = 0; which < 3; which++) {
            call("who", up(2) == 0 ? goer : up(goers()), which, goer, row, from, n);
        }
        call("status");
    }

    private void drawCall(String name) throws Exception {
        switch (name) {
            case "row": call(name, about(0, 7), about(0, 2), about(0, 40)); break;
            case "set": call(name, about(0, 7), about(0, 20), up(2) == 0 ? up(12) : draws.nextInt()); break;
            case "copy": call(name, about(0, 7), about(0, 6), about(0, 7), about(0, 6), about(0, 8)); break;
            case "drop": call(name, about(0, 7)); break;
            case "feed": call(name, about(0, 255)); break;
            case "hours": call(name, up(3) == 0 ? about(1, 24) : about(1, 3)); break;
            case "begin": call(name, about(0, goers() - 1), about(0, 30)); break;
            case "hold": call(name, about(0, goers() - 1), up(3) == 0 ? about(0, 1) : 0); break;
            case "mend": case "broken": call(name, about(0, rungs() - 1)); break;
            case "takeOut":
                if (up(3) == 0) {
                    call(name, about(0, rungs() - 1));
                }
                break;
            case "goer": call(name, about(0, goers() - 1), about(0, 6)); break;
            case "rung": call(name, about(0, rungs() - 1), about(0, 2)); break;
            case "stand": call(name, about(0, 4)); break;
            case "ahead": call(name, about(0, goers() - 1), about(0, 60)); break;
            case "strength": call(name, about(0, rungs() - 1), about(0, 60)); break;
            case "above": case "kind": call(name, about(0, goers() - 1)); break;
            case "first": call(name, about(0, 1)); break;
            case "falls": call(name, about(0, 60)); break;
            case "mends": case "holds": drawSearch(name); break;
            case "line": drawLine(); break;
            case "heavy": call(name, about(1, 60)); break;
            case "who":
                call(name, about(0, goers() - 1), about(0, 2), about(0, goers() - 1), about(0, 7), about(0, 3), about(1, 12));
                break;
            case "rotten": call(name, about(0, goers() - 1), about(0, 7), about(0, 3), about(1, 12)); break;
            case "risk": drawRisk(); break;
            case "drawn": call(name, about(0, 60), about(1, 999999), about(0, 1)); break;
            case "image": call(name, about(0, 1)); break;
            case "restore":
                if (up(4) == 0) {
                    call(name, about(0, 1));
                }
                break;
            case "as": call(name, about(0, goers() - 1), about(0, 5)); break;
            case "ask": drawAsk(); break;
            case "trace": call(name, about(0, 16)); break;
            case "count": call(name, about(0, 7)); break;
            default: call(name); break;
        }
    }

    private void drawSearch(String name) throws Exception {
        int goer = about(0, goers() - 1);
        int n = about(1, 30);
        call(name, goer, n, 0);
        call(name, goer, n, 1);
        call(name, goer, n, about(0, 1));
    }

    private void drawLine() throws Exception {
        int n = about(1, 60);
        call("line", n, -1);
        call("line", n, about(-1, 6));
        call("line", n, up(6));
    }

    private void drawRisk() throws Exception {
        int goer = about(0, goers() - 1);
        int n = about(0, 30);
        int p = about(0, 10);
        call("risk", goer, n, p, 0);
        call("risk", goer, n, p, about(0, 1));
    }

    private void drawAsk() throws Exception {
        call("ask", about(0, goers() - 1), about(0, 1));
        for (int i = 0; i < 7; i++) {
            call("trace", i);
        }
    }

    private void call(String name, int... numbers) throws Exception {
        Object[] boxed = Arrays.stream(numbers).boxed().toArray();
        long want = model.call(name, numbers);
        long got = ((Number) methods.get(name).invoke(x, boxed)).longValue();
        checks.due("run " + run + " " + name + Arrays.toString(numbers), got, want);
    }
}
