/** Promises 18 to 31: what is foretold, and that nothing changes by it. */
public final class ForetoldTest {
    private static final Checks c = new Checks("ForetoldTest");
    /** As it is, the climber and the fetcher break both low rungs, and nobody gets above. */
    private static final String CROWD = "l3,20;r6;r4;r9;c5,0;f9,0;d5,2;";
    private static final String ONE = "l2,30;r20;r9;c5,0;";

    public static void main(String[] args) {
        noLake();
        aheadAndStrength();
        whenAboveAndBroken();
        falls();
        mends();
        holds();
        lines();
        lastOfAllOrders();
        linesAreSoughtAnew();
        heavy();
        whoByHisOwn();
        whoByAnother();
        rotten();
        risks();
        springs();
        wrongNumbers();
        nothingChanges();
        c.end();
    }

    private static void noLake() {
        LadderSprings x = new LadderSprings();
        c.due("ahead", x.ahead(0, 0), Checks.BAD);
        c.due("strength", x.strength(0, 0), Checks.BAD);
        c.due("above", x.above(0), Checks.BAD);
        c.due("broken", x.broken(0), Checks.BAD);
        c.due("first", x.first(5), Checks.STATE);
        c.due("falls", x.falls(-1), Checks.STATE);
        c.due("mends", x.mends(0, 1, 0), Checks.BAD);
        c.due("holds", x.holds(0, 1, 0), Checks.BAD);
        c.due("line", x.line(0, -2), Checks.STATE);
        c.due("heavy", x.heavy(0), Checks.STATE);
        c.due("who", x.who(0, 0, 0, 0, 0, 1), Checks.BAD);
        c.due("rotten", x.rotten(0, 0, 0, 1), Checks.BAD);
        c.due("risk", x.risk(0, 0, 0, 0), Checks.BAD);
        c.due("drawn", x.drawn(-1, 0, 2), Checks.STATE);
    }

    private static void aheadAndStrength() {
        LadderSprings x = Checks.of(CROWD);
        c.due("now", x.ahead(0, 0), 0);
        c.due("now", x.strength(1, 0), 4);
        c.due("behind 1", x.strength(0, 1), 0);
        c.due("behind 1", x.strength(1, 1), 4);
        c.due("behind 2", x.strength(1, 2), 0);
        c.due("behind 60", x.strength(2, 60), 9);
        LadderSprings y = Checks.of("l9,30;r9;r9;r9;r9;r9;r9;r9;r9;r9;c5,0;k5,30;");
        for (int n = 0; n <= 9; n++) {
            c.due("climber behind " + n, y.ahead(0, n), n);
        }
        c.due("climber behind 60", y.ahead(0, 60), 10);
        c.due("curate behind 30", y.ahead(1, 30), 0);
        c.due("curate behind 31", y.ahead(1, 31), 1);
        c.due("curate behind 32", y.ahead(1, 32), 1);
        c.due("curate behind 33", y.ahead(1, 33), 2);
        c.due("worn twice by him", y.strength(1, 60), 6);
        y.hours(3);
        c.due("from now on", y.ahead(0, 2), 5);
    }

    private static void whenAboveAndBroken() {
        LadderSprings x = Checks.of(CROWD);
        c.due("never", x.above(0), Checks.NONE);
        c.due("rung 0", x.broken(0), 1);
        c.due("rung 1", x.broken(1), 2);
        c.due("rung 2", x.broken(2), Checks.NONE);
        c.due("first", x.first(0), 0);
        c.due("first behind", x.first(1), 1);
        x.hours(1);
        c.due("is broken", x.broken(0), 0);
        c.due("next", x.first(0), 1);
        c.due("next behind", x.first(1), 1);
        x.hours(1);
        c.due("none more", x.first(0), Checks.NONE);
        c.due("none more behind", x.first(1), Checks.NONE);
        LadderSprings y = Checks.of(ONE);
        c.due("above", y.above(0), 3);
        y.hours(2);
        c.due("above", y.above(0), 1);
        y.hours(1);
        c.due("he is", y.above(0), 0);
        LadderSprings two = Checks.of("l3,90;r30;r5;r5;c3,2;d4,0;d4,1;");
        c.due("none breaks", two.first(0), Checks.NONE);
        LadderSprings both = Checks.of("l3,90;r3;r3;r3;c4,0;d4,0;");
        c.due("two at once: the lowest", both.first(0), 0);
        c.due("behind", both.first(1), 1);
        c.due("the other one, too", both.broken(1), 1);
        LadderSprings late = Checks.of("l2,9;r60;r0;f9,0;");
        c.due("he wears it every other hour till it is too weak", late.broken(0), Checks.NONE);
        LadderSprings sixty = Checks.of("l2,9;r60;r60;c1,0;");
        sixty.hours(1);
        sixty.hold(0, 1);
        c.due("59 are left", sixty.broken(0), 59);
        LadderSprings later = Checks.of("l2,9;r62;r62;c1,0;");
        later.hours(1);
        later.hold(0, 1);
        c.due("61 are beyond", later.broken(0), Checks.NONE);
        later.hours(1);
        c.due("60 are not", later.broken(0), 60);
        c.due("first", later.first(0), 0);
        c.due("first behind", later.first(1), 60);
        LadderSprings waits = Checks.of("l2,9;r66;r66;c9,0;c9,0;");
        waits.hours(1);
        waits.hold(0, 1);
        c.due("the rope is free once the rung broke below the held one", waits.above(1), 60);
        LadderSprings longer = Checks.of("l2,9;r67;r67;c9,0;c9,0;");
        longer.hours(1);
        longer.hold(0, 1);
        c.due("61 are too many", longer.above(1), Checks.NONE);
    }

    private static void falls() {
        LadderSprings x = Checks.of(CROWD);
        c.due("in none", x.falls(0), 0);
        c.due("in 1", x.falls(1), 2);
        c.due("in 2", x.falls(2), 4);
        c.due("in 60", x.falls(60), 4);
        x.hours(1);
        c.due("from now on", x.falls(60), 2);
    }

    private static void mends() {
        LadderSprings x = Checks.of(CROWD);
        c.due("the climber", x.mends(0, 5, 0), 1);
        c.due("the second rung", x.mends(0, 5, 1), 2);
        c.due("in time", x.mends(0, 4, 0), 2);
        c.due("the two above", x.mends(0, 4, 1), 6);
        c.due("too soon", x.mends(0, 3, 0), Checks.NONE);
        c.due("too soon", x.mends(0, 3, 1), Checks.NONE);
        c.due("the draper", x.mends(2, 4, 0), 1);
        c.due("of several the least", x.mends(2, 4, 1), 1);
        c.due("too soon for him", x.mends(2, 3, 1), Checks.NONE);
        c.due("a fetcher", x.mends(1, 30, 0), Checks.NONE);
        x.hold(0, 1);
        c.due("held", x.mends(0, 30, 0), Checks.NONE);
        LadderSprings all = Checks.of("l2,12;r3;r3;c9,1;c9,0;");
        c.due("all, or the other one is on the rope first", all.mends(1, 3, 0), 2);
        c.due("all", all.mends(1, 3, 1), 3);
        LadderSprings y = Checks.of(ONE);
        c.due("none needed", y.mends(0, 3, 0), 0);
        c.due("none needed", y.mends(0, 3, 1), 0);
        y.hours(3);
        c.due("he is above", y.holds(0, 1, 0), 0);
        c.due("he is above", y.mends(0, 1, 0), 0);
    }

    private static void holds() {
        LadderSprings x = Checks.of(CROWD);
        c.due("for the climber", x.holds(0, 5, 0), 1);
        c.due("the fetcher", x.holds(0, 5, 1), 2);
        c.due("too soon", x.holds(0, 4, 0), Checks.NONE);
        c.due("too soon", x.holds(0, 4, 1), Checks.NONE);
        c.due("for the draper", x.holds(2, 4, 1), 2);
        c.due("for the fetcher", x.holds(1, 30, 0), Checks.NONE);
        x.hold(1, 1);
        c.due("he is held", x.holds(0, 5, 0), 0);
        c.due("he is held", x.holds(0, 5, 1), 0);
        x.hold(0, 1);
        c.due("himself", x.holds(0, 30, 1), Checks.NONE);
        LadderSprings y = Checks.of("l2,30;r9;r9;c4,0;c4,0;c4,0;");
        c.due("one of 12", y.holds(2, 3, 0), 1);
        c.due("the least of them", y.holds(2, 3, 1), 1);
        LadderSprings four = Checks.of("l2,30;r9;r9;c2,0;c2,0;c4,0;c5,0;");
        c.due("one heavy rather than two light", four.holds(3, 3, 0), 1);
        c.due("the heavy one", four.holds(3, 3, 1), 4);
        LadderSprings z = Checks.of("l2,30;r9;r9;c5,0;c5,0;c9,0;");
        c.due("both", z.holds(2, 3, 0), 2);
        c.due("both", z.holds(2, 3, 1), 3);
        z.hold(1, 1);
        c.due("the other one", z.holds(2, 3, 0), 1);
        c.due("the other one", z.holds(2, 3, 1), 1);
    }

    private static void order(LadderSprings x, int n, int most, int... order) {
        c.due("line, most behind " + n, x.line(n, -1), most);
        for (int k = 0; k < order.length; k++) {
            c.due("line, behind " + n + ", " + k, x.line(n, k), order[k]);
        }
        c.due("line, no more", x.line(n, order.length), Checks.NONE);
    }

    private static void lines() {
        LadderSprings x = Checks.of(CROWD);
        order(x, 4, 2, 2, 0, 1);
        order(x, 3, 1, 1, 2, 0);
        order(x, 2, 0, 0, 1, 2);
        c.due("far", x.line(4, Integer.MAX_VALUE), Checks.NONE);
        x.hold(1, 1);
        order(x, 1, 0, 0, 2);
        x.hold(0, 1);
        x.hold(2, 1);
        order(x, 60, 0);
        LadderSprings y = Checks.of("l2,30;r20;r9;c5,0;c6,0;");
        y.hours(1);
        order(y, 1, 0);
        y.hours(1);
        order(y, 60, 2, 0, 1);
    }

    /** Of 720 orders the last is the only one by which five get above, or all that can. */
    private static void lastOfAllOrders() {
        order(Checks.of("l5,64;r27;r26;r13;r18;r10;d17,0;d1,0;d11,0;c12,0;g2,0;c10,0;"), 9, 5, 5, 4, 3, 2, 1, 0);
        order(Checks.of("l3,31;r5;r13;r10;k16,0;c4,0;c12,0;d4,0;d21,0;c13,0;"), 14, 5, 5, 4, 3, 2, 1, 0);
    }

    private static void linesAreSoughtAnew() {
        LadderSprings x = Checks.of(CROWD);
        order(x, 4, 2, 2, 0, 1);
        x.hold(1, 1);
        order(x, 4, 2, 2, 0);
        x.mend(1);
        order(x, 4, 2, 0, 2);
        x.undo();
        order(x, 4, 2, 2, 0);
        x.image(1);
        x.hours(4);
        order(x, 4, 2);
        x.restore(1);
        order(x, 4, 2, 2, 0);
        Checks.tell(x, CROWD);
        order(x, 4, 2, 2, 0, 1);
    }

    private static void heavy() {
        LadderSprings x = Checks.of("l2,30;r20;r9;k1,9;");
        c.due("too soon", x.heavy(1), Checks.NONE);
        c.due("too soon", x.heavy(2), Checks.NONE);
        c.due("borne by both", x.heavy(3), 9);
        c.due("once he broke the upper one", x.heavy(4), 19);
        c.due("no more by time", x.heavy(60), 19);
        LadderSprings y = Checks.of("l2,15;r20;r9;k1,9;");
        c.due("the rope", y.heavy(4), 15);
        LadderSprings least = Checks.of("l2,1;r20;r9;k1,9;");
        c.due("the least", least.heavy(4), 1);
        LadderSprings z = Checks.of(CROWD);
        c.due("none", z.heavy(60), Checks.NONE);
        LadderSprings six = Checks.of("l2,90;r90;r90;f1,9;f1,9;f1,9;f1,9;f1,9;f1,9;");
        c.due("no room", six.heavy(60), Checks.NONE);
        LadderSprings five = Checks.of("l2,90;r90;r90;f1,9;f1,9;f1,9;f1,9;f1,9;");
        c.due("room", five.heavy(3), 30);
        LadderSprings last = Checks.of("l2,30;r40;r40;c10,0;");
        c.due("the last by number", last.heavy(3), 20);
        last.hours(1);
        c.due("beginning now", last.heavy(3), 20);
        last.hold(0, 1);
        c.due("room on the rope", last.heavy(3), 20);
    }

    private static void whoByHisOwn() {
        LadderSprings x = Checks.of(ONE);
        Checks.fill(x, 0, 1, 2, 3, 0, 0, 0);
        c.due("a climber", x.who(0, 0, 0, 0, 0, 3), 2);
        c.due("a climber, a fetcher, a girl", x.who(0, 0, 0, 0, 0, 2), 2 + 16 + 32);
        c.due("any but a draper", x.who(0, 0, 0, 0, 0, 1), 2 + 8 + 16 + 32);
        c.due("1 to 9", x.who(0, 1, 0, 0, 0, 3), 1022);
        c.due("start 0", x.who(0, 2, 0, 0, 0, 3), 1);
        c.due("weights that break all", x.who(0, 1, 0, 0, 3, 3), 2145386496);
        c.due("starts of 3 to 30", x.who(0, 2, 0, 0, 3, 3), 2147483640);
        c.due("none", x.who(0, 0, 0, 0, 2, 1), 0);
        Checks.fill(x, 1, 2, 3, 3);
        c.due("a draper", x.who(0, 0, 0, 1, 0, 3), 4);
        x.hours(2);
        c.due("from now on", x.who(0, 0, 0, 1, 1, 2), 2 + 4 + 8);
    }

    private static void whoByAnother() {
        LadderSprings x = Checks.of(CROWD);
        Checks.fill(x, 3, 9, 1, 0, 0);
        c.due("kind of the fetcher", x.who(1, 0, 0, 3, 1, 3), 4);
        c.due("weight", x.who(1, 1, 0, 3, 1, 3), 2);
        c.due("start", x.who(1, 2, 0, 3, 1, 3), 6);
        c.due("GOER", x.who(3, 0, 0, 3, 1, 3), Checks.BAD);
        c.due("GOER", x.who(-1, 0, 0, 3, 1, 3), Checks.BAD);
        c.due("which", x.who(0, 3, 0, 3, 1, 3), Checks.BAD);
        c.due("which", x.who(0, -1, 0, 3, 1, 3), Checks.BAD);
        c.due("OTHER", x.who(0, 0, 3, 3, 1, 3), Checks.BAD);
        c.due("ROW", x.who(0, 0, 0, 8, 1, 3), Checks.BAD);
        c.due("ROW", x.who(0, 0, 0, -1, 1, 3), Checks.BAD);
        c.due("n", x.who(0, 0, 0, 3, 1, 0), Checks.BAD);
        c.due("n", x.who(0, 0, 0, 3, 1, 13), Checks.BAD);
        c.due("NULL", x.who(0, 0, 0, 2, -1, 3), Checks.NULL);
        c.due("status", x.status(), 1);
        c.due("n is ahead of NULL", x.who(0, 0, 0, 2, 0, 0), Checks.BAD);
        c.due("PLACE", x.who(0, 0, 0, 3, 2, 3), Checks.PLACE);
        c.due("status", x.status(), 2);
        c.due("PLACE", x.who(0, 0, 0, 3, -1, 3), Checks.PLACE);
        c.due("PLACE", x.who(0, 0, 0, 3, Integer.MAX_VALUE, 3), Checks.PLACE);
        c.due("it fits", x.who(0, 0, 0, 3, 2, 2), 2 + 8 + 16 + 32 + 4);
        c.due("status", x.status(), 0);
        x.row(4, 0, 12);
        c.due("12 are fine", x.who(2, 2, 2, 4, 0, 12), Integer.MAX_VALUE - 2);
    }

    private static void rotten() {
        LadderSprings x = Checks.of(ONE);
        Checks.fill(x, 0, 1, 2, 3, 2, 3, 1, 3);
        c.due("as it is", x.rotten(0, 0, 0, 3), 1024);
        c.due("the lowest", x.rotten(0, 0, 3, 2), 1);
        c.due("the other one", x.rotten(0, 0, 5, 2), 2);
        c.due("as it is, or one", x.rotten(0, 0, 0, 1), 1026);
        x.hours(1);
        c.due("below him", x.rotten(0, 0, 1, 1), 1025);
        c.due("nothing changes", x.goer(0, 0), 1);
        LadderSprings y = Checks.of("l3,30;r20;r0;r9;c5,0;");
        Checks.fill(y, 0, 1, 3, 4, 0);
        c.due("as it is; the broken one is none", y.rotten(0, 0, 0, 3), 1024);
        c.due("stuck below two", y.rotten(0, 0, 3, 1), 1);
        c.due("GOER", y.rotten(1, 0, 0, 1), Checks.BAD);
        c.due("ROW", y.rotten(0, 8, 0, 1), Checks.BAD);
        c.due("n", y.rotten(0, 0, 0, 0), Checks.BAD);
        c.due("n", y.rotten(0, 0, 0, 13), Checks.BAD);
        c.due("n is ahead of NULL", y.rotten(0, 5, 0, 13), Checks.BAD);
        c.due("NULL", y.rotten(0, 5, -1, 1), Checks.NULL);
        c.due("status", y.status(), 1);
        c.due("PLACE", y.rotten(0, 0, 4, 1), Checks.PLACE);
        c.due("status", y.status(), 2);
        c.due("PLACE", y.rotten(0, 0, -1, 1), Checks.PLACE);
        c.due("fits", y.rotten(0, 0, 0, 1), 1024 + 4);
        c.due("status", y.status(), 0);
    }

    private static void fraction(LadderSprings x, int n, int p, long above, long below) {
        c.due("risk in " + n + " by " + p + ", above", x.risk(0, n, p, 0), above);
        c.due("risk in " + n + " by " + p + ", below", x.risk(0, n, p, 1), below);
    }

    private static void risks() {
        LadderSprings x = Checks.of(ONE);
        fraction(x, 3, 5, 3, 4);
        fraction(x, 3, 1, 99, 100);
        fraction(x, 3, 0, 1, 1);
        fraction(x, 3, 10, 0, 1);
        fraction(x, 2, 5, 1, 2);
        fraction(x, 2, 2, 8, 25);
        fraction(x, 2, 0, 0, 1);
        fraction(x, 1, 5, 0, 1);
        fraction(x, 0, 5, 0, 1);
        x.hours(1);
        fraction(x, 1, 3, 3, 10);
        fraction(x, 2, 3, 1, 1);
        x.hours(2);
        fraction(x, 0, 7, 1, 1);
        LadderSprings nine = Checks.of("l9,9;r9;r9;r9;r9;r9;r9;r9;r9;r9;c1,0;");
        // In 5 hours he gets above only by passing a broken rung with each step.
        fraction(nine, 5, 1, 6561, 1000000000);
        fraction(nine, 5, 5, 1, 512);
        fraction(nine, 5, 2, 256, 1953125);
        LadderSprings broken = Checks.of("l3,30;r20;r0;r9;c5,0;");
        fraction(broken, 3, 1, 81, 100);
        LadderSprings behind = Checks.of("l2,30;r20;r20;c5,1;c5,0;");
        behind.hours(1);
        fraction(behind, 2, 3, 3, 10);
    }

    private static void springs() {
        LadderSprings x = Checks.of(ONE);
        c.due("X is 16807: the upper one is taken out", x.drawn(1, 1, 0), 0);
        c.due("then he is above", x.drawn(2, 1, 0), 1);
        c.due("nobody fell", x.drawn(2, 1, 1), 0);
        c.due("none", x.drawn(0, 1, 0), 0);
        x.hours(2);
        c.due("it is taken out below him", x.drawn(1, 1, 1), 1);
        c.due("so he is not above", x.drawn(1, 1, 0), 0);
        c.due("by another draw he is", x.drawn(1, 2, 0), 1);
        x.takeOut(1);
        c.due("falls of before do not count", x.drawn(1, 1, 1), 0);
        LadderSprings y = Checks.of("l2,30;r0;r0;c5,0;");
        c.due("X is 67228: mended, though 7 would leave 0", y.drawn(2, 4, 0), 1);
        c.due("not so by 2", y.drawn(2, 2, 0), 0);
        y.mend(0);
        y.hours(2);
        c.due("he is above", y.drawn(0, 999999, 0), 1);
    }

    private static void wrongNumbers() {
        LadderSprings x = Checks.of(ONE);
        c.due("ahead", x.ahead(1, 0), Checks.BAD);
        c.due("ahead", x.ahead(0, -1), Checks.BAD);
        c.due("ahead", x.ahead(0, 61), Checks.BAD);
        c.due("strength", x.strength(2, 0), Checks.BAD);
        c.due("strength", x.strength(-1, 0), Checks.BAD);
        c.due("strength", x.strength(0, -1), Checks.BAD);
        c.due("strength", x.strength(0, 61), Checks.BAD);
        c.due("above", x.above(1), Checks.BAD);
        c.due("above", x.above(-1), Checks.BAD);
        c.due("broken", x.broken(2), Checks.BAD);
        c.due("broken", x.broken(-1), Checks.BAD);
        c.due("first", x.first(2), Checks.BAD);
        c.due("first", x.first(-1), Checks.BAD);
        c.due("falls", x.falls(-1), Checks.BAD);
        c.due("falls", x.falls(61), Checks.BAD);
        c.due("mends", x.mends(1, 1, 0), Checks.BAD);
        c.due("mends", x.mends(0, 0, 0), Checks.BAD);
        c.due("mends", x.mends(0, 31, 0), Checks.BAD);
        c.due("mends", x.mends(0, 1, 2), Checks.BAD);
        c.due("holds", x.holds(1, 1, 0), Checks.BAD);
        c.due("holds", x.holds(0, 0, 0), Checks.BAD);
        c.due("holds", x.holds(0, 31, 0), Checks.BAD);
        c.due("holds", x.holds(0, 1, -1), Checks.BAD);
        c.due("holds", x.holds(0, 1, 2), Checks.BAD);
        c.due("line", x.line(0, 0), Checks.BAD);
        c.due("line", x.line(61, 0), Checks.BAD);
        c.due("line", x.line(1, -2), Checks.BAD);
        c.due("heavy", x.heavy(0), Checks.BAD);
        c.due("heavy", x.heavy(61), Checks.BAD);
        c.due("risk", x.risk(1, 0, 0, 0), Checks.BAD);
        c.due("risk", x.risk(0, -1, 0, 0), Checks.BAD);
        c.due("risk", x.risk(0, 31, 0, 0), Checks.BAD);
        c.due("risk", x.risk(0, 0, -1, 0), Checks.BAD);
        c.due("risk", x.risk(0, 0, 11, 0), Checks.BAD);
        c.due("risk", x.risk(0, 0, 0, 2), Checks.BAD);
        c.due("drawn", x.drawn(-1, 1, 0), Checks.BAD);
        c.due("drawn", x.drawn(61, 1, 0), Checks.BAD);
        c.due("drawn", x.drawn(0, 0, 0), Checks.BAD);
        c.due("drawn", x.drawn(0, 1000000, 0), Checks.BAD);
        c.due("drawn", x.drawn(0, 1, 2), Checks.BAD);
    }

    private static String face(LadderSprings x) {
        StringBuilder s = new StringBuilder();
        for (int g = 0; g < 6; g++) {
            for (int what = 0; what < 7; what++) {
                s.append(x.goer(g, what)).append(' ');
            }
        }
        for (int r = 0; r < 9; r++) {
            s.append(x.rung(r, 0)).append(' ');
        }
        for (int what = 0; what < 8; what++) {
            s.append(x.count(what)).append(' ');
        }
        return s.toString();
    }

    private static void nothingChanges() {
        LadderSprings x = Checks.of("l4,40;r16;r9;r0;r12;c5,0;f9,0;d5,1;g9,0;");
        x.hours(2);
        x.hold(3, 1);
        Checks.fill(x, 0, 1, 2, 3);
        String ahead = face(x);
        x.ahead(0, 9);
        x.strength(0, 9);
        x.above(0);
        x.broken(0);
        x.first(0);
        x.falls(20);
        x.mends(0, 9, 0);
        x.holds(0, 9, 0);
        x.line(20, 0);
        x.heavy(20);
        x.who(0, 0, 0, 0, 0, 3);
        x.who(0, 1, 0, 0, 0, 3);
        x.who(0, 2, 1, 0, 0, 3);
        x.rotten(0, 0, 0, 3);
        x.risk(0, 9, 5, 0);
        x.drawn(30, 77, 0);
        x.image(0);
        c.holds("all is as it was", face(x).equals(ahead));
    }
}
