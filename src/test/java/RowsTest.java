/** Promises 2 to 5, and 39 as far as rows go. */
public final class RowsTest {
    private static final Checks c = new Checks("RowsTest");

    public static void main(String[] args) {
        rowsAreMade();
        itemsKeepTheLowestBits();
        itemsAreCopied();
        copiesAreRefused();
        rowsAreDropped();
        statusTellsTheLatestFinding();
        c.end();
    }

    private static void rowsAreMade() {
        LadderSprings x = new LadderSprings();
        c.due("no rows at first", x.count(0), 0);
        c.due("row of 0", x.row(0, 0, 0), 0);
        c.due("row of 40", x.row(7, 2, 40), 40);
        c.due("two rows", x.count(0), 2);
        c.due("row -1", x.row(-1, 0, 1), Checks.BAD);
        c.due("row 8", x.row(8, 0, 1), Checks.BAD);
        c.due("lane -1", x.row(1, -1, 1), Checks.BAD);
        c.due("lane 3", x.row(1, 3, 1), Checks.BAD);
        c.due("41 items", x.row(1, 0, 41), Checks.BAD);
        c.due("fewer than none", x.row(1, 0, -1), Checks.SIZE);
        c.due("far fewer than none", x.row(1, 0, Integer.MIN_VALUE), Checks.SIZE);
        c.due("BAD is ahead of SIZE", x.row(8, 0, -1), Checks.BAD);
        c.due("BAD lane is ahead of SIZE", x.row(1, 3, -1), Checks.BAD);
        c.due("still two rows", x.count(0), 2);
        c.due("a row in place of another", x.row(7, 0, 3), 3);
        c.due("still two", x.count(0), 2);
        x.set(7, 1, 5);
        c.due("what is found changes nothing", x.row(7, 1, -3), Checks.SIZE);
        c.due("the row is still there", x.drop(7), 3);
        LadderSprings y = Checks.of("l2,30;r20;r9;c5,0;");
        Checks.fill(y, 0, 1, 2, 3);
        c.due("as told", y.rotten(0, 0, 0, 3), 1024);
        y.row(0, 2, 3);
        c.due("items are 0 anew", y.rotten(0, 0, 0, 1), 0);
    }

    private static void itemsKeepTheLowestBits() {
        LadderSprings x = new LadderSprings();
        c.due("missing", x.set(0, 0, 1), Checks.NULL);
        x.row(0, 0, 2);
        x.row(1, 1, 2);
        x.row(2, 2, 2);
        c.due("byte", x.set(0, 0, 127), 127);
        c.due("byte 128", x.set(0, 0, 128), -128);
        c.due("byte 511", x.set(0, 0, 511), -1);
        c.due("byte -129", x.set(0, 0, -129), 127);
        c.due("short", x.set(1, 1, 32768), -32768);
        c.due("short 65537", x.set(1, 1, 65537), 1);
        c.due("short -32769", x.set(1, 1, -32769), 32767);
        c.due("int", x.set(2, 0, Integer.MAX_VALUE), Integer.MAX_VALUE);
        c.due("int", x.set(2, 0, Integer.MIN_VALUE), Integer.MIN_VALUE);
        c.due("place -1", x.set(0, -1, 1), Checks.PLACE);
        c.due("place 2", x.set(0, 2, 1), Checks.PLACE);
        c.due("row 8", x.set(8, 0, 1), Checks.BAD);
        c.due("row -1", x.set(-1, -1, 1), Checks.BAD);
        x.row(3, 0, 0);
        c.due("a row of none has no place", x.set(3, 0, 1), Checks.PLACE);
        c.due("a missing one is ahead of its place", x.set(4, -1, 1), Checks.NULL);
    }

    private static void itemsAreCopied() {
        LadderSprings x = Checks.of("l2,30;r20;r9;c5,0;");
        Checks.fill(x, 0, 1, 2, 3, 9, 9);
        c.due("up, over itself", x.copy(0, 0, 0, 2, 3), 3);
        c.due("1 2 1 2 3", x.rotten(0, 0, 2, 3), 1024);
        c.due("down, over itself", x.copy(0, 2, 0, 1, 3), 3);
        c.due("1 1 2 3 3", x.rotten(0, 0, 1, 3), 1024);
        x.row(1, 2, 4);
        c.due("to another", x.copy(0, 1, 1, 1, 3), 3);
        c.due("0 1 2 3", x.rotten(0, 1, 1, 3), 1024);
        c.due("0 is still in front", x.who(0, 2, 0, 1, 0, 3), 2);
        c.due("none", x.copy(0, 5, 1, 4, 0), 0);
    }

    private static void copiesAreRefused() {
        LadderSprings x = new LadderSprings();
        x.row(0, 2, 4);
        x.row(1, 2, 3);
        x.row(2, 1, 3);
        c.due("a", x.copy(-1, 0, 1, 0, 1), Checks.BAD);
        c.due("a 8", x.copy(8, 0, 1, 0, 1), Checks.BAD);
        c.due("b", x.copy(0, 0, 8, 0, 1), Checks.BAD);
        c.due("b -1", x.copy(3, 0, -1, 0, 1), Checks.BAD);
        c.due("a is missing", x.copy(3, 0, 0, 0, 1), Checks.NULL);
        c.due("b is missing", x.copy(0, 0, 3, 0, 1), Checks.NULL);
        c.due("NULL is ahead of PLACE", x.copy(0, -1, 3, 0, 1), Checks.NULL);
        c.due("two lanes", x.copy(0, 0, 2, 0, 1), Checks.STORE);
        c.due("STORE is ahead of PLACE", x.copy(0, -1, 2, 0, 1), Checks.STORE);
        c.due("STORE for none", x.copy(2, 0, 1, 0, 0), Checks.STORE);
        c.due("i", x.copy(0, -1, 1, 0, 1), Checks.PLACE);
        c.due("j", x.copy(0, 0, 1, -1, 1), Checks.PLACE);
        c.due("n", x.copy(0, 0, 1, 0, -1), Checks.PLACE);
        c.due("end of a", x.copy(0, 3, 1, 0, 2), Checks.PLACE);
        c.due("end of b", x.copy(0, 0, 1, 2, 2), Checks.PLACE);
        c.due("none beyond the end of a", x.copy(0, 5, 1, 0, 0), Checks.PLACE);
        c.due("none beyond the end of b", x.copy(0, 0, 1, 4, 0), Checks.PLACE);
        c.due("sums that wrap", x.copy(0, Integer.MAX_VALUE, 1, 0, Integer.MAX_VALUE), Checks.PLACE);
        c.due("sums that wrap", x.copy(0, 1, 1, 1, Integer.MAX_VALUE), Checks.PLACE);
        c.due("all of b", x.copy(0, 1, 1, 0, 3), 3);
    }

    private static void rowsAreDropped() {
        LadderSprings x = new LadderSprings();
        x.row(5, 1, 17);
        c.due("drop", x.drop(5), 17);
        c.due("none left", x.count(0), 0);
        c.due("drop again", x.drop(5), Checks.NULL);
        c.due("set", x.set(5, 0, 0), Checks.NULL);
        c.due("-1", x.drop(-1), Checks.BAD);
        c.due("8", x.drop(8), Checks.BAD);
    }

    private static void statusTellsTheLatestFinding() {
        LadderSprings x = new LadderSprings();
        c.due("at first", x.status(), 0);
        x.drop(0);
        c.due("NULL", x.status(), 1);
        x.row(9, 0, 0);
        c.due("BAD leaves it", x.status(), 1);
        x.feed(65);
        x.lake();
        x.count(0);
        c.due("calls without a row leave it", x.status(), 1);
        x.row(0, 0, 3);
        c.due("none", x.status(), 0);
        x.set(0, 3, 0);
        c.due("PLACE", x.status(), 2);
        x.set(0, 2, 0);
        c.due("set", x.status(), 0);
        x.row(1, 1, -1);
        c.due("SIZE", x.status(), 4);
        x.copy(0, 0, 0, 0, 0);
        c.due("copy", x.status(), 0);
        x.row(1, 1, 1);
        x.copy(0, 0, 1, 0, 0);
        c.due("STORE", x.status(), 5);
        x.drop(0);
        c.due("drop", x.status(), 0);
    }
}
