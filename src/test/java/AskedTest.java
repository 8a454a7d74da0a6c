/** Promises 34 to 37, and 39 as far as as() goes. */
public final class AskedTest {
    private static final Checks c = new Checks("AskedTest");

    public static void main(String[] args) {
        noLake();
        kinds();
        takenAs();
        asksInTheBoat();
        asksOnRungs();
        theTraceStays();
        c.end();
    }

    private static LadderSprings five() {
        return Checks.of("l4,90;r60;r60;r60;r60;c7,0;d8,0;k9,0;f10,0;g11,0;");
    }

    private static void noLake() {
        LadderSprings x = new LadderSprings();
        c.due("kind", x.kind(0), Checks.BAD);
        c.due("as", x.as(0, 0), Checks.BAD);
        c.due("ask", x.ask(0, 0), Checks.BAD);
        c.due("trace", x.trace(0), Checks.NONE);
    }

    private static void kinds() {
        LadderSprings x = five();
        for (int g = 0; g < 5; g++) {
            c.due("kind", x.kind(g), g + 1);
        }
        c.due("kind", x.kind(5), Checks.BAD);
        c.due("kind", x.kind(-1), Checks.BAD);
    }

    private static void takenAs() {
        LadderSprings x = five();
        String[] are = {"01", "012", "013", "04", "045"};
        for (int g = 0; g < 5; g++) {
            for (int kind = 0; kind <= 5; kind++) {
                boolean so = are[g].indexOf('0' + kind) >= 0;
                c.due(g + " as " + kind, x.as(g, kind), so ? g : Checks.KIND);
                c.due("status of " + g + " as " + kind, x.status(), so ? 0 : 3);
            }
        }
        x.as(0, 5);
        c.due("BAD", x.as(0, 6), Checks.BAD);
        c.due("BAD", x.as(0, -1), Checks.BAD);
        c.due("BAD", x.as(5, 0), Checks.BAD);
        c.due("BAD", x.as(-1, 0), Checks.BAD);
        c.due("BAD leaves status", x.status(), 3);
        x.ask(0, 0);
        c.due("so does ask", x.status(), 3);
    }

    private static void asked(LadderSprings x, int one, int what, int answer, int... trace) {
        String call = "ask(" + one + ", " + what + ")";
        c.due(call, x.ask(one, what), answer);
        for (int i = 0; i < trace.length; i++) {
            c.due(call + " trace " + i, x.trace(i), trace[i]);
        }
        c.due(call + " ends", x.trace(trace.length), Checks.NONE);
    }

    private static void asksInTheBoat() {
        LadderSprings x = five();
        asked(x, 0, 0, 7, 11, 10, 21, 20);
        asked(x, 0, 1, 0, 21, 20);
        asked(x, 1, 0, -(8 + 2), 12, 11, 10, 24, 21, 20);
        asked(x, 1, 1, 2, 24, 21, 20);
        asked(x, 2, 0, 9 + 2 - 1000, 11, 10, 22, 21, 20);
        asked(x, 2, 1, 2 - 1000, 22, 21, 20);
        asked(x, 3, 0, 10 - 100, 13, 10);
        asked(x, 3, 1, 3 + 90, 23, 20, 13, 10);
        asked(x, 4, 0, 2 * (11 - 100), 14, 13, 10);
        asked(x, 4, 1, 4 + 178, 23, 20, 14, 13, 10);
    }

    private static void asksOnRungs() {
        LadderSprings x = five();
        x.hours(2);
        asked(x, 0, 0, 7 + 0 + 2, 11, 10, 21, 20);
        asked(x, 0, 1, 2, 21, 20);
        asked(x, 1, 1, 2 * (1 + 4), 24, 21, 20);
        asked(x, 1, 0, -(8 + 10), 12, 11, 10, 24, 21, 20);
        asked(x, 2, 1, 2 + 1 - 1000, 22, 21, 20);
        asked(x, 3, 1, 3 + 90, 23, 20, 13, 10);
    }

    private static void theTraceStays() {
        LadderSprings x = five();
        x.ask(3, 0);
        c.due("BAD", x.ask(5, 0), Checks.BAD);
        c.due("BAD", x.ask(-1, 0), Checks.BAD);
        c.due("BAD", x.ask(0, 2), Checks.BAD);
        c.due("BAD", x.ask(0, -1), Checks.BAD);
        c.due("what is refused leaves it", x.trace(0), 13);
        c.due("what is refused leaves it", x.trace(1), 10);
        c.due("no more", x.trace(2), Checks.NONE);
        c.due("-1", x.trace(-1), Checks.NONE);
        c.due("16", x.trace(16), Checks.NONE);
        c.due("far", x.trace(Integer.MAX_VALUE), Checks.NONE);
        c.due("far", x.trace(Integer.MIN_VALUE), Checks.NONE);
    }
}
