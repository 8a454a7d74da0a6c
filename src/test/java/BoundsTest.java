import java.lang.reflect.Method;
import java.util.ArrayList;
import java.util.Arrays;
import java.util.HashMap;
import java.util.List;
import java.util.Map;

/**
 * Every call with every number at, next to and far from its bounds, in all ways together, held against the model:
 * which refusal is first wherever several fit, and that none of them leaves anything behind or throws.
 */
public final class BoundsTest {
    private static final int MIN = Integer.MIN_VALUE, MAX = Integer.MAX_VALUE;
    /** As many as leave room, within 512, for what is told ahead and looked at behind. */
    private static final int CALLS = 300;
    private static final String[] TEXTS = {
        "", "l2,30;r20;r9;c5,0;", "l3,20;r6;r0;r9;c5,0;f9,0;d5,2;",
        "l9,50;r9;r9;r0;r9;r30;r9;r0;r9;r9;c5,0;d9,0;k5,2;f2,0;g9,1;c1,3;"
    };

    private final Checks checks = new Checks("BoundsTest");
    private final Map<String, Method> methods = new HashMap<>();
    private String text;
    private LadderSprings x;
    private Model model;
    private int calls;

    public static void main(String[] args) throws Exception {
        BoundsTest test = new BoundsTest();
        for (Method m : LadderSprings.class.getDeclaredMethods()) {
            test.methods.put(m.getName(), m);
        }
        for (String text : TEXTS) {
            test.text = text;
            test.all();
        }
        test.checks.end();
    }

    private void all() throws Exception {
        int[] row = bounds(0, 7);
        int[] goer = bounds(0, Math.max(1, text.split("[cdkfg]").length - 1) - 1);
        int[] rung = bounds(0, text.isEmpty() ? 1 : text.charAt(1) - '1');
        int[] bit = bounds(0, 1);
        grid("row", row, bounds(0, 2), bounds(0, 40));
        grid("set", row, bounds(0, 12), new int[] {MIN, -129, -1, 0, 127, 128, 32768, 65536, MAX});
        grid("copy", bounds(0, 3), bounds(0, 12), bounds(0, 3), bounds(0, 12), bounds(0, 12));
        grid("drop", row);
        grid("feed", bounds(0, 255));
        grid("lake");
        grid("fault");
        grid("undo");
        grid("hours", bounds(1, 24));
        grid("begin", goer, bounds(0, 30));
        grid("hold", goer, bit);
        grid("mend", rung);
        grid("takeOut", rung);
        grid("goer", goer, bounds(0, 6));
        grid("rung", rung, bounds(0, 2));
        grid("stand", bounds(0, 4));
        grid("ahead", goer, bounds(0, 60));
        grid("strength", rung, bounds(0, 60));
        grid("above", goer);
        grid("broken", rung);
        grid("first", bit);
        grid("falls", bounds(0, 60));
        grid("mends", goer, bounds(1, 30), bit);
        grid("holds", goer, bounds(1, 30), bit);
        grid("line", bounds(1, 60), bounds(-1, 5));
        grid("heavy", bounds(1, 60));
        grid("who", goer, bounds(0, 2), goer, bounds(0, 3), bounds(0, 12), bounds(1, 12));
        grid("rotten", goer, bounds(0, 3), bounds(0, 12), bounds(1, 12));
        grid("risk", goer, bounds(0, 30), bounds(0, 10), bit);
        grid("drawn", bounds(0, 60), bounds(1, 999999), bit);
        grid("image", bit);
        grid("restore", bit);
        grid("kind", goer);
        grid("as", goer, bounds(0, 5));
        grid("ask", goer, bit);
        grid("trace", bounds(0, 16));
        grid("count", bounds(0, 7));
        grid("status");
    }

    private static int[] bounds(int least, int most) {
        return Arrays.stream(new int[] {MIN, least - 1, least, least + 1, most - 1, most, most + 1, MAX}).distinct().toArray();
    }

    /** All ways to take one number of each list. */
    private void grid(String name, int[]... lists) throws Exception {
        List<int[]> ways = new ArrayList<>();
        ways.add(new int[0]);
        for (int[] list : lists) {
            List<int[]> longer = new ArrayList<>();
            for (int[] way : ways) {
                for (int number : list) {
                    int[] one = Arrays.copyOf(way, way.length + 1);
                    one[way.length] = number;
                    longer.add(one);
                }
            }
            ways = longer;
        }
        begin();
        for (int[] way : ways) {
            if (calls > CALLS) {
                lookAtAll();
                begin();
            }
            call(name, way);
        }
        lookAtAll();
    }

    /** A lake two hours on, with an image and acts, and rows of all lanes, of none and missing. */
    private void begin() throws Exception {
        x = new LadderSprings();
        model = new Model();
        calls = 0;
        for (int i = 0; i < text.length(); i++) {
            call("feed", text.charAt(i));
        }
        call("lake");
        call("hours", 1);
        call("image", 1);
        call("hold", 0, 1);
        call("hours", 1);
        call("row", 0, 2, 12);
        call("row", 1, 2, 13);
        call("row", 2, 0, 0);
        call("row", 7, 1, 5);
        call("set", 0, 0, 1);
        call("set", 0, 11, 1);
        call("ask", 0, 1);
        call("drop", 6);
    }

    private void lookAtAll() throws Exception {
        call("status");
        call("fault");
        for (int what = 0; what <= 7; what++) {
            call("count", what);
        }
        for (int what = 0; what <= 4; what++) {
            call("stand", what);
        }
        for (int what = 0; what <= 6; what++) {
            call("goer", 0, what);
        }
        call("trace", 0);
        call("trace", 1);
        call("undo");
        call("restore", 0);
        call("restore", 1);
        call("count", 3);
        for (int row = 0; row <= 7; row++) {
            call("drop", row);
        }
    }

    private void call(String name, int... numbers) throws Exception {
        Object[] boxed = Arrays.stream(numbers).boxed().toArray();
        calls++;
        long want = model.call(name, numbers);
        long got = ((Number) methods.get(name).invoke(x, boxed)).longValue();
        checks.due("'" + text + "' " + name + Arrays.toString(numbers), got, want);
    }
}
