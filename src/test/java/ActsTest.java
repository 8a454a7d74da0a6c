/** Promises 9 to 17, 32, 33 and 38: hours, acts, what stands, images. */
public final class ActsTest {
    private static final Checks c = new Checks("ActsTest");
    /** Both rungs break in turn under the climber and the fetcher together. */
    private static final String CROWD = "l3,20;r6;r4;r9;c5,0;f9,0;d5,2;";
    private static final String ONE = "l2,30;r20;r9;c5,0;";

    public static void main(String[] args) {
        noLake();
        climbersAndWear();
        fallsOfMany();
        drapers();
        curates();
        fetchers();
        fetchersWithNoWayDown();
        girls();
        rope();
        startsAndHolds();
        mendAndTakeOut();
        wrongNumbers();
        undoing();
        undoEachAct();
        lastHour();
        images();
        c.end();
    }

    private static void places(LadderSprings x, String when, int... places) {
        for (int g = 0; g < places.length; g++) {
            c.due(when + ", goer " + g, x.goer(g, 0), places[g]);
        }
    }

    private static void strengths(LadderSprings x, String when, int... strengths) {
        for (int r = 0; r < strengths.length; r++) {
            c.due(when + ", rung " + r, x.rung(r, 0), strengths[r]);
        }
    }

    private static void noLake() {
        LadderSprings x = new LadderSprings();
        c.due("hours", x.hours(1), Checks.STATE);
        c.due("STATE is ahead of BAD", x.hours(0), Checks.STATE);
        c.due("stand", x.stand(9), Checks.STATE);
        c.due("begin", x.begin(0, 0), Checks.BAD);
        c.due("hold", x.hold(0, 1), Checks.BAD);
        c.due("mend", x.mend(0), Checks.BAD);
        c.due("takeOut", x.takeOut(0), Checks.BAD);
        c.due("goer", x.goer(0, 0), Checks.BAD);
        c.due("rung", x.rung(0, 0), Checks.BAD);
        c.due("undo", x.undo(), Checks.STATE);
        c.due("image", x.image(0), Checks.STATE);
        c.due("image 2", x.image(2), Checks.BAD);
        c.due("restore", x.restore(1), Checks.STATE);
        c.due("restore -1", x.restore(-1), Checks.BAD);
    }

    private static void climbersAndWear() {
        LadderSprings x = Checks.of(ONE);
        c.due("hour 0", x.hours(1), 0);
        places(x, "hour 1", 1);
        strengths(x, "hour 1", 19, 9);
        c.due("load", x.rung(0, 1), 5);
        c.due("who", x.rung(0, 2), 1);
        c.due("load of all", x.stand(2), 5);
        c.due("boat", x.stand(1), 0);
        x.hours(1);
        places(x, "hour 2", 2);
        strengths(x, "hour 2", 19, 8);
        c.due("above", x.hours(1), 1);
        places(x, "hour 3", 3);
        c.due("above", x.stand(0), 1);
        c.due("how many", x.count(4), 1);
        c.due("load of all", x.stand(2), 0);
        c.due("for good", x.hours(24), 1);
        strengths(x, "hour 27", 19, 8);
        c.due("hour", x.count(3), 27);
    }

    private static void fallsOfMany() {
        LadderSprings x = Checks.of(CROWD);
        x.hours(1);
        places(x, "hour 1", 0, 0, 0);
        strengths(x, "hour 1", 0, 4, 9);
        c.due("fell", x.goer(0, 6), 1);
        c.due("fell", x.goer(1, 6), 1);
        c.due("fell", x.goer(2, 6), 0);
        c.due("broken", x.stand(3), 1);
        x.hours(1);
        strengths(x, "hour 2", 0, 0, 9);
        c.due("all fell", x.count(5), 4);
        c.due("no step over two", x.hours(5), 0);
        places(x, "hour 7", 0, 0, 0);
        c.due("broken", x.stand(3), 3);

        LadderSprings even = Checks.of("l2,30;r5;r1;c5,0;");
        even.hours(1);
        strengths(even, "a load of just the strength is borne", 4, 1);
        places(even, "it is borne", 1);
        LadderSprings last = Checks.of("l2,30;r1;r9;c1,0;");
        last.hours(1);
        strengths(last, "worn to nothing", 0, 9);
        places(last, "he falls when it is worn out", 0);
        c.due("he fell", last.goer(0, 6), 1);
        last.hours(1);
        places(last, "over one broken rung", 2);
    }

    private static void drapers() {
        LadderSprings x = Checks.of("l3,30;r9;r9;r9;d4,0;");
        x.hours(1);
        places(x, "two steps", 2);
        strengths(x, "passed by", 9, 8, 9);
        c.due("above", x.hours(1), 1);
        places(x, "just above", 4);
        LadderSprings y = Checks.of("l2,30;r9;r9;d4,0;");
        y.hours(1);
        c.due("one step is enough", y.hours(1), 1);
        places(y, "no second one", 3);
        LadderSprings z = Checks.of("l4,30;r9;r0;r0;r9;d4,0;");
        z.hours(1);
        places(z, "no second step there", 1);
        z.hours(1);
        places(z, "no first step either", 1);
    }

    private static void curates() {
        LadderSprings x = Checks.of("l2,30;r9;r9;k4,0;k3,1;");
        x.hours(1);
        places(x, "hour 1", 1, 0);
        x.hours(1);
        places(x, "hour 2", 1, 0);
        x.hours(1);
        places(x, "hour 3", 2, 1);
        strengths(x, "hour 3", 6, 8);
        x.hours(1);
        places(x, "hour 4", 2, 1);
        c.due("hour 5", x.hours(1), 1);
    }

    private static void fetchers() {
        LadderSprings x = Checks.of("l3,30;r9;r9;r9;f4,0;");
        int[] way = {1, 2, 3, 2, 1, 0, 1, 2, 3, 2};
        int[] up = {1, 1, 1, 0, 0, 1, 1, 1, 1, 0};
        for (int h = 0; h < way.length; h++) {
            x.hours(1);
            places(x, "hour " + (h + 1), way[h]);
            c.due("up in hour " + (h + 1), x.goer(0, 4), up[h]);
        }
        LadderSprings over = Checks.of("l4,50;r9;r0;r9;r9;f5,0;");
        int[] wayOver = {1, 3, 4, 3, 1, 0, 1};
        for (int h = 0; h < wayOver.length; h++) {
            over.hours(1);
            places(over, "over a broken one, hour " + (h + 1), wayOver[h]);
        }
        LadderSprings low = Checks.of("l2,50;r0;r9;f5,0;");
        low.hours(1);
        places(low, "over the lowest", 2);
        low.hours(1);
        places(low, "over the lowest into the boat", 0);
        c.due("up again", low.goer(0, 4), 1);
        LadderSprings y = Checks.of("l4,50;r9;r0;r0;r9;f5,0;");
        y.hours(1);
        places(y, "below the gap", 1);
        y.hours(1);
        places(y, "no step up there: back", 0);
        c.due("up again", y.goer(0, 4), 1);
        LadderSprings z = Checks.of("l3,50;r9;r9;r0;f5,0;");
        z.hours(2);
        places(z, "the highest that is not broken", 2);
        z.hours(1);
        places(z, "turns, never above", 1);
        c.due("down", z.goer(0, 4), 0);
        z.mend(2);
        z.hours(1);
        places(z, "goes on down though a rung was mended", 0);
    }

    private static void fetchersWithNoWayDown() {
        LadderSprings x = Checks.of("l4,50;r9;r9;r9;r9;f5,0;");
        x.hours(3);
        c.due("nobody there", x.takeOut(0), 0);
        c.due("nobody there", x.takeOut(1), 0);
        x.hours(1);
        places(x, "hour 4", 4);
        x.hours(3);
        places(x, "no step down", 3);
        c.due("still down", x.goer(0, 4), 0);
        strengths(x, "it wears", 0, 0, 5, 8);
        c.due("too heavy for it in the second hour", x.broken(2), 2);
        x.hours(5);
        places(x, "fell", 0);
        c.due("up after a fall", x.goer(0, 4), 1);

        LadderSprings y = Checks.of("l4,50;r9;r9;r9;r9;f5,0;");
        y.hours(4);
        y.takeOut(0);
        y.takeOut(1);
        c.due("on a rung, down over one", y.takeOut(2), 0);
        y.hours(1);
        places(y, "turns but cannot go", 4);
        c.due("turned", y.goer(0, 4), 0);
        c.due("taken out below him", y.takeOut(3), 1);
        c.due("up", y.goer(0, 4), 1);
    }

    private static void girls() {
        LadderSprings x = Checks.of("l2,4;r4;r0;g9,0;");
        c.due("weight", x.goer(0, 1), 9);
        c.due("half, cut", x.goer(0, 3), 4);
        x.hours(1);
        places(x, "borne", 1);
        strengths(x, "worn", 3, 0);
        c.due("load on it", x.rung(0, 1), 4);
        x.hours(1);
        places(x, "back", 0);
        x.hours(1);
        places(x, "too heavy now", 0);
        strengths(x, "broken", 0, 0);
        LadderSprings y = Checks.of("l2,1;r5;r0;g1,0;");
        y.hours(1);
        strengths(y, "no load, no wear", 5, 0);
        c.due("but she is there", y.rung(0, 2), 1);
        c.due("and falls", y.takeOut(0), 1);
    }

    private static void rope() {
        LadderSprings x = Checks.of("l2,10;r50;r50;c6,0;c5,0;c4,0;");
        x.hours(1);
        places(x, "6 and 4 are 10", 1, 0, 1);
        x.hours(1);
        places(x, "no room for 5 more", 2, 0, 2);
        x.hours(1);
        places(x, "room behind him who came above", 3, 1, 3);
        LadderSprings y = Checks.of("l2,10;r50;r50;c5,0;c6,0;");
        y.hours(2);
        places(y, "in order of numbers", 2, 0);
        y.hours(1);
        places(y, "above bears no load, in the same hour", 3, 1);
        LadderSprings z = Checks.of("l2,5;r50;r50;c6,0;g11,0;");
        z.hours(1);
        places(z, "his own load alone; half of 11", 0, 1);
    }

    private static void startsAndHolds() {
        LadderSprings x = Checks.of("l3,30;r20;r20;r20;c5,2;c4,0;");
        c.due("what it was", x.begin(0, 0), 2);
        c.due("what it was", x.begin(0, 1), 0);
        x.hours(1);
        places(x, "not yet", 0, 1);
        x.hours(1);
        places(x, "now", 1, 2);
        c.due("another", x.begin(0, 30), 1);
        x.hours(1);
        places(x, "stays where he is", 1, 3);
        strengths(x, "and wears", 17, 19, 19);
        c.due("start", x.goer(0, 2), 30);
        x.begin(0, 3);
        c.due("held", x.hold(1, 1), 2);
        c.due("held again", x.hold(1, 1), Checks.STATE);
        c.due("both", x.hold(0, 1), 3);
        c.due("stand", x.stand(4), 3);
        x.hours(2);
        places(x, "held", 1, 3);
        strengths(x, "held ones wear, too", 15, 19, 17);
        c.due("no more", x.hold(1, 0), 1);
        c.due("no more again", x.hold(1, 0), Checks.STATE);
        c.due("goer 5", x.goer(0, 5), 1);
        c.due("goer 5", x.goer(1, 5), 0);
        c.due("on he goes", x.hours(1), 2);
    }

    private static void mendAndTakeOut() {
        LadderSprings x = Checks.of("l3,60;r20;r0;r9;c5,0;f9,0;d3,1;");
        c.due("a broken one", x.mend(1), 0);
        c.due("another", x.mend(2), 9);
        c.due("a mended one", x.mend(2), 99);
        strengths(x, "mended", 20, 99, 99);
        x.hours(1);
        c.due("taken out", x.takeOut(0), 3);
        strengths(x, "taken out", 0, 99, 99);
        places(x, "fell", 0, 0, 0);
        c.due("fell", x.goer(1, 6), 1);
        c.due("all", x.count(5), 2);
        c.due("again", x.takeOut(0), Checks.STATE);
        c.due("boat", x.stand(1), 7);
        c.due("acts", x.count(6), 5);
        x.hours(1);
        places(x, "over it", 2, 2, 3);
    }

    private static void wrongNumbers() {
        LadderSprings x = Checks.of(ONE);
        c.due("hours 0", x.hours(0), Checks.BAD);
        c.due("hours 25", x.hours(25), Checks.BAD);
        c.due("begin -1", x.begin(-1, 0), Checks.BAD);
        c.due("begin 1", x.begin(1, 0), Checks.BAD);
        c.due("begin at -1", x.begin(0, -1), Checks.BAD);
        c.due("begin at 31", x.begin(0, 31), Checks.BAD);
        c.due("hold 1", x.hold(1, 1), Checks.BAD);
        c.due("hold by 2", x.hold(0, 2), Checks.BAD);
        c.due("hold by -1", x.hold(0, -1), Checks.BAD);
        c.due("mend -1", x.mend(-1), Checks.BAD);
        c.due("mend 2", x.mend(2), Checks.BAD);
        c.due("takeOut -1", x.takeOut(-1), Checks.BAD);
        c.due("takeOut 2", x.takeOut(2), Checks.BAD);
        c.due("goer what", x.goer(0, 7), Checks.BAD);
        c.due("goer what", x.goer(0, -1), Checks.BAD);
        c.due("goer 1", x.goer(1, 0), Checks.BAD);
        c.due("rung what", x.rung(0, 3), Checks.BAD);
        c.due("rung what", x.rung(0, -1), Checks.BAD);
        c.due("rung 2", x.rung(2, 0), Checks.BAD);
        c.due("rung -1", x.rung(-1, 0), Checks.BAD);
        c.due("stand what", x.stand(5), Checks.BAD);
        c.due("stand what", x.stand(-1), Checks.BAD);
        c.due("count what", x.count(8), Checks.BAD);
        c.due("count what", x.count(-1), Checks.BAD);
        c.due("nothing is an act", x.count(6), 0);
        c.due("nothing has changed", x.count(3), 0);
    }

    private static void undoing() {
        LadderSprings x = Checks.of(ONE);
        x.hours(24);
        c.due("24 acts", x.count(6), 24);
        x.hours(2);
        c.due("no more than that", x.count(6), 24);
        for (int left = 23; left >= 0; left--) {
            c.due("undo", x.undo(), left);
        }
        c.due("none", x.undo(), Checks.STATE);
        c.due("two hours were forgotten", x.count(3), 2);
        places(x, "hour 2", 2);
        x.mend(0);
        x.hours(3);
        c.due("four", x.count(6), 4);
        c.due("undo", x.undo(), 3);
        c.due("hour", x.count(3), 4);
        x.hold(0, 1);
        c.due("undo", x.undo(), 3);
        c.due("not held", x.stand(4), 0);
    }

    private static void undoEachAct() {
        LadderSprings x = Checks.of("l3,60;r20;r8;r9;c5,0;f9,0;d3,1;");
        x.hours(3);
        places(x, "hour 3", 1, 1, 3);
        c.due("all fell once", x.count(5), 3);
        x.begin(2, 7);
        x.hold(0, 1);
        x.mend(0);
        c.due("taken out below him", x.takeOut(2), 4);
        c.due("fell", x.goer(2, 6), 2);
        c.due("acts", x.count(6), 7);
        c.due("undo takeOut", x.undo(), 6);
        places(x, "as ahead", 1, 1, 3);
        c.due("strength", x.rung(2, 0), 8);
        c.due("fell", x.goer(2, 6), 1);
        c.due("undo mend", x.undo(), 5);
        c.due("strength", x.rung(0, 0), 18);
        c.due("undo hold", x.undo(), 4);
        c.due("held", x.stand(4), 0);
        c.due("undo begin", x.undo(), 3);
        c.due("start", x.goer(2, 2), 1);
        c.due("undo an hour", x.undo(), 2);
        places(x, "hour 2", 0, 0, 0);
        c.due("fell", x.count(5), 3);
        c.due("undo an hour", x.undo(), 1);
        places(x, "hour 1", 1, 1, 0);
        strengths(x, "hour 1", 19, 8, 9);
        c.due("fell", x.count(5), 0);
    }

    private static void lastHour() {
        LadderSprings x = Checks.of(ONE);
        for (int i = 0; i < 41; i++) {
            x.hours(24);
        }
        c.due("16 more are too many", x.hours(16), Checks.FULL);
        c.due("BAD is ahead of FULL", x.hours(25), Checks.BAD);
        c.due("15 more", x.hours(15), 1);
        c.due("hour", x.count(3), 999);
        c.due("one more", x.hours(1), Checks.FULL);
        c.due("hour", x.count(3), 999);
        c.due("foretold all the same", x.ahead(0, 60), 3);
        c.due("undo", x.undo(), 23);
        c.due("one more", x.hours(1), 1);
    }

    private static void images() {
        LadderSprings x = Checks.of(CROWD);
        c.due("none kept", x.restore(0), Checks.STATE);
        c.due("kept", x.image(0), 1);
        x.hold(2, 1);
        x.hours(2);
        c.due("another", x.image(1), 1);
        c.due("an image is no act", x.count(6), 3);
        Checks.tell(x, ONE);
        x.hours(1);
        c.due("restored", x.restore(1), 1);
        c.due("no act", x.count(6), 0);
        c.due("undo", x.undo(), Checks.STATE);
        c.due("goers", x.count(2), 3);
        c.due("hour", x.count(3), 2);
        c.due("fell", x.count(5), 4);
        c.due("held", x.stand(4), 4);
        c.due("broken", x.stand(3), 3);
        x.mend(0);
        c.due("the first", x.restore(0), 1);
        strengths(x, "as it was", 6, 4, 9);
        c.due("held", x.stand(4), 0);
        x.hours(1);
        c.due("again", x.restore(1), 1);
        strengths(x, "an image is not worn", 0, 0, 9);
        c.due("kept anew", x.image(0), 1);
        x.mend(0);
        c.due("restored", x.restore(0), 1);
        c.due("it is the new one", x.stand(3), 3);
        c.due("image 2", x.image(2), Checks.BAD);
        c.due("image -1", x.image(-1), Checks.BAD);
        c.due("restore 2", x.restore(2), Checks.BAD);
    }
}
