import java.lang.reflect.Method;
import java.util.ArrayList;
import java.util.Arrays;
import java.util.HashMap;
import java.util.HashSet;
import java.util.List;
import java.util.Map;
import java.util.Set;

/**
 * Runs edges. An edge has a promise, the words of the document that it rests on, and lines of calls on a new object.
 *
 * <p>A line is a call with its numbers and, behind "=", the answer that is due. MIN and MAX are the least and the
 * greatest int. "tell TEXT" feeds a text and reads it, "fill ROW LANE ITEMS" makes a row with these items, "times N CALL"
 * makes a call N times (what is due behind it is due each time).
 *
 * <p>Every call that is refused, or finds something, is also held to the Terms: it changes nothing but status().
 */
final class Edges {
    private static final int MOST_CALLS = 512;
    private static final Map<String, Integer> NUMBERS = Map.of(
        "NONE", Checks.NONE, "BAD", Checks.BAD, "STATE", Checks.STATE, "FULL", Checks.FULL, "NULL", Checks.NULL,
        "PLACE", Checks.PLACE, "KIND", Checks.KIND, "SIZE", Checks.SIZE, "STORE", Checks.STORE);

    /** A call by its name, with its numbers. */
    private static final class Call {
        final String name;
        final int[] numbers;

        Call(String name, int... numbers) {
            this.name = name;
            this.numbers = numbers;
        }

        @Override
        public String toString() {
            return name + Arrays.toString(numbers);
        }
    }

    private final Checks checks;
    private final Map<String, Method> methods = new HashMap<>();
    private final Set<Integer> promises = new HashSet<>();
    private final Set<String> edges = new HashSet<>();
    private String edge;
    private LadderSprings x;
    private List<Call> past;

    Edges(Checks checks) {
        this.checks = checks;
        for (Method m : LadderSprings.class.getDeclaredMethods()) {
            methods.put(m.getName(), m);
        }
    }

    void edge(int promise, String words, String lines) {
        edge = "Promise " + promise + ", '" + words + "': ";
        checks.holds(edge + "it is told once", edges.add(edge));
        checks.holds(edge + "an answer is due", lines.contains("="));
        promises.add(promise);
        x = new LadderSprings();
        past = new ArrayList<>();
        for (String line : lines.split("\n")) {
            if (!line.isBlank()) {
                runLine(line.strip());
            }
        }
        checks.holds(edge + "an object is used for 512 calls at most", past.size() <= MOST_CALLS);
    }

    /** Each promise has an edge, and there is no other. */
    void haveAll(int last) {
        for (int promise = 1; promise <= last; promise++) {
            checks.holds("Promise " + promise + " has an edge", promises.contains(promise));
        }
        checks.due("promises that have edges", promises.size(), last);
    }

    private void runLine(String line) {
        String[] sides = line.split(" = ");
        String[] words = sides[0].split(" ");
        Integer due = sides.length > 1 ? Integer.valueOf(number(sides[1])) : null;
        switch (words[0]) {
            case "tell":
                for (char letter : words[1].toCharArray()) {
                    make(new Call("feed", letter), null);
                }
                make(new Call("lake"), due);
                break;
            case "fill":
                make(new Call("row", number(words[1]), number(words[2]), words.length - 3), due);
                for (int i = 3; i < words.length; i++) {
                    make(new Call("set", number(words[1]), i - 3, number(words[i])), null);
                }
                break;
            case "times":
                for (int i = number(words[1]); i > 0; i--) {
                    make(callOf(words, 2), due);
                }
                break;
            default:
                make(callOf(words, 0), due);
                break;
        }
    }

    private static Call callOf(String[] words, int from) {
        int[] numbers = new int[words.length - from - 1];
        for (int i = 0; i < numbers.length; i++) {
            numbers[i] = number(words[from + 1 + i]);
        }
        return new Call(words[from], numbers);
    }

    private static int number(String word) {
        if (word.equals("MIN")) {
            return Integer.MIN_VALUE;
        }
        if (word.equals("MAX")) {
            return Integer.MAX_VALUE;
        }
        return NUMBERS.containsKey(word) ? NUMBERS.get(word) : Integer.parseInt(word);
    }

    private void make(Call call, Integer due) {
        if (due != null && due <= Checks.BAD) {
            changesNothing(call, due);
        }
        long got = answer(x, call);
        if (due != null) {
            checks.due(edge + call, got, due);
        }
        past.add(call);
    }

    private long answer(LadderSprings one, Call call) {
        Method method = methods.get(call.name);
        if (method == null) {
            throw new IllegalArgumentException(edge + "no such call: " + call);
        }
        try {
            return ((Number) method.invoke(one, Arrays.stream(call.numbers).boxed().toArray())).longValue();
        } catch (ReflectiveOperationException e) {
            throw new IllegalStateException(edge + call, e);
        }
    }

    private LadderSprings twin() {
        LadderSprings twin = new LadderSprings();
        for (Call call : past) {
            answer(twin, call);
        }
        return twin;
    }

    /** Two twins, one of which has made the call, are asked for all that can be seen. */
    private void changesNothing(Call call, int due) {
        LadderSprings without = twin();
        LadderSprings with = twin();
        answer(with, call);
        boolean found = due <= Checks.NULL && due >= Checks.STORE;
        checks.due(edge + call + ", status", with.status(), found ? Checks.NULL + 1 - due : without.status());
        List<String> was = face(without, call.name.equals("lake"));
        List<String> is = face(with, call.name.equals("lake"));
        for (int i = 0; i < was.size(); i++) {
            checks.holds(edge + call + " leaves " + was.get(i) + ", got " + is.get(i), was.get(i).equals(is.get(i)));
        }
    }

    /** What can be seen of an object; it is used up by this. A text that is read is gone, and its fault is new. */
    private List<String> face(LadderSprings one, boolean wasRead) {
        List<String> face = new ArrayList<>();
        if (!wasRead) {
            look(face, one, "fault");
            look(face, one, "count", 7);
        }
        for (int i = 0; i < 7; i++) {
            look(face, one, "trace", i);
        }
        lookAtLake(face, one);
        for (int k = 0; k < 2; k++) {
            look(face, one, "count", 6);
            while (one.undo() >= 0) {
                look(face, one, "count", 3);
                look(face, one, "stand", 1);
                look(face, one, "stand", 3);
                look(face, one, "stand", 4);
            }
            look(face, one, "restore", k);
            lookAtLake(face, one);
        }
        for (int row = 0; row < 8; row++) {
            look(face, one, "copy", row, 0, 0, 0, 0);
            look(face, one, "drop", row);
        }
        return face;
    }

    private void lookAtLake(List<String> face, LadderSprings one) {
        for (int what = 0; what <= 5; what++) {
            look(face, one, "count", what);
        }
        for (int g = 0; g < one.count(2); g++) {
            look(face, one, "kind", g);
            for (int what = 0; what <= 6; what++) {
                look(face, one, "goer", g, what);
            }
        }
        for (int r = 0; r < one.count(1); r++) {
            look(face, one, "rung", r, 0);
        }
    }

    private void look(List<String> face, LadderSprings one, String name, int... numbers) {
        Call call = new Call(name, numbers);
        face.add(call + " as " + answer(one, call));
    }
}
