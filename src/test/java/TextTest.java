/** Promises 1, 6, 7 and 8: the tape and what is read from it. */
public final class TextTest {
    private static final Checks c = new Checks("TextTest");
    private static final String LAW = "l2,1;", RUNGS = "r0;r0;", GOERS = "c1,0;c1,0;c1,0;c1,0;c1,0;c1,0;";

    public static void main(String[] args) {
        newObject();
        tape();
        wholeTexts();
        faults();
        aFaultLeavesAll();
        aLakeStandsInPlace();
        c.end();
    }

    private static void newObject() {
        LadderSprings x = new LadderSprings();
        c.due("no lake", x.stand(0), Checks.STATE);
        for (int what = 0; what <= 7; what++) {
            c.due("count " + what, x.count(what), 0);
        }
        c.due("fault", x.fault(), 0);
        c.due("status", x.status(), 0);
        c.due("trace", x.trace(0), Checks.NONE);
    }

    private static void tape() {
        LadderSprings x = new LadderSprings();
        c.due("-1", x.feed(-1), Checks.BAD);
        c.due("256", x.feed(256), Checks.BAD);
        for (int i = 1; i <= 100; i++) {
            c.due("byte " + i, x.feed(i % 2 == 0 ? 0 : 255), i);
        }
        c.due("full", x.feed(65), Checks.FULL);
        c.due("BAD is ahead of FULL", x.feed(256), Checks.BAD);
        c.due("bytes", x.count(7), 100);
        x.lake();
        c.due("empty then", x.count(7), 0);
        c.due("room again", x.feed(65), 1);
    }

    private static void whole(String text, int goers) {
        LadderSprings x = new LadderSprings();
        c.due("'" + text + "'", Checks.tell(x, text), goers);
        c.due("fault after '" + text + "'", x.fault(), 0);
        c.due("tape after '" + text + "'", x.count(7), 0);
    }

    private static void wholeTexts() {
        whole("l2,1;r0;r0;c1,0;", 1);
        whole("l2,99;r99;r99;g30,30;", 1);
        whole("l02,01;r00;r09;k01,00;", 1);
        whole(LAW + RUNGS + GOERS, 6);
        whole("l9,1;r1;r2;r3;r4;r5;r6;r7;r8;r9;f3,4;d5,6;", 2);
        LadderSprings x = Checks.of("l3,20;r6;r0;r99;c5,0;f9,1;d15,2;k8,30;g30,7;");
        int[] kinds = {1, 4, 2, 3, 5};
        int[] weights = {5, 9, 15, 8, 30};
        int[] starts = {0, 1, 2, 30, 7};
        for (int g = 0; g < 5; g++) {
            c.due("kind " + g, x.kind(g), kinds[g]);
            c.due("weight " + g, x.goer(g, 1), weights[g]);
            c.due("start " + g, x.goer(g, 2), starts[g]);
            c.due("in the boat " + g, x.goer(g, 0), 0);
        }
        c.due("rungs", x.count(1), 3);
        c.due("strength", x.rung(0, 0), 6);
        c.due("strength", x.rung(1, 0), 0);
        c.due("strength", x.rung(2, 0), 99);
    }

    private static void fault(String text, int place, int number) {
        LadderSprings x = new LadderSprings();
        c.due("'" + text + "'", Checks.tell(x, text), -1000100 - place);
        c.due("fault of '" + text + "'", x.fault(), number);
        c.due("tape after '" + text + "'", x.count(7), 0);
    }

    private static void faults() {
        fault("", 0, 1);
        fault(" l2,1;", 0, 1);
        fault("L2,1;", 0, 1);
        fault("x", 0, 1);
        fault("2", 0, 1);
        fault("ll", 1, 1);
        fault("l,", 1, 1);
        fault("l 2", 1, 1);
        fault("l1,1;", 1, 2);
        fault("l10,1;", 1, 2);
        fault("l002,1;", 1, 1);
        fault("l1234,1;", 1, 1);
        fault("l2;1;", 2, 1);
        fault("l2,0;", 3, 2);
        fault("l2,100;", 3, 1);
        fault("l2,1,", 4, 1);
        fault("l2,1", 4, 1);
        fault(LAW + "c1,0;", 5, 1);
        fault(LAW + "r;", 6, 1);
        fault(LAW + "r0,", 7, 1);
        fault(LAW + "r999;", 6, 1);
        fault(LAW + "r0;c1,0;", 8, 1);
        fault(LAW + "r0;", 8, 1);
        fault(LAW + RUNGS, 11, 1);
        fault(LAW + RUNGS + "r", 11, 3);
        fault(LAW + RUNGS + "r0;c1,0;", 11, 3);
        fault(LAW + RUNGS + "l", 11, 1);
        fault(LAW + RUNGS + "a1,0;", 11, 1);
        fault(LAW + RUNGS + ";", 11, 1);
        fault(LAW + RUNGS + "c0,0;", 12, 2);
        fault(LAW + RUNGS + "d31,0;", 12, 2);
        fault(LAW + RUNGS + "c1;0;", 13, 1);
        fault(LAW + RUNGS + "c1,31;", 14, 2);
        fault(LAW + RUNGS + "c1,300;", 14, 1);
        fault(LAW + RUNGS + "c1,0", 15, 1);
        fault(LAW + RUNGS + "c1,0,", 15, 1);
        fault(LAW + RUNGS + "c1,0;r0;", 16, 1);
        fault(LAW + RUNGS + "c1,0;7", 16, 1);
        fault(LAW + RUNGS + "c1,0; ", 16, 1);
        fault(LAW + RUNGS + GOERS + "c", 41, 3);
        fault(LAW + RUNGS + GOERS + "g99,99;", 41, 3);
        fault(LAW + RUNGS + GOERS + "r", 41, 1);
        fault(LAW + RUNGS + GOERS + ";", 41, 1);
        fault("l2,1;r\u00b2;", 6, 1);
        fault("l2,1;r" + (char) 0 + ";", 6, 1);
        fault(LAW + RUNGS + "c1,0;" + (char) 0, 16, 1);
    }

    private static void aFaultLeavesAll() {
        LadderSprings x = Checks.of("l2,30;r20;r9;c5,0;d3,0;");
        x.hours(1);
        x.image(0);
        c.due("fault", Checks.tell(x, "l9,99;r1;r2;q"), -1000112);
        c.due("its number", x.fault(), 1);
        c.due("rungs", x.count(1), 2);
        c.due("goers", x.count(2), 2);
        c.due("hour", x.count(3), 1);
        c.due("acts", x.count(6), 1);
        c.due("strength", x.rung(0, 0), 19);
        c.due("a lake is read", Checks.tell(x, "l2,1;r0;r0;c1,0;"), 1);
        c.due("the latest fault is kept", x.fault(), 1);
        c.due("another", Checks.tell(x, "l1"), -1000101);
        c.due("its number", x.fault(), 2);
    }

    private static void aLakeStandsInPlace() {
        LadderSprings x = Checks.of("l3,90;r20;r9;r4;c5,0;d9,0;g8,0;");
        x.hours(4);
        x.hold(2, 1);
        c.due("some fell", x.count(5), 4);
        c.due("acts", x.count(6), 5);
        c.due("read", Checks.tell(x, "l2,50;r7;r8;k4,3;c2,2;"), 2);
        c.due("rungs", x.count(1), 2);
        c.due("hour", x.count(3), 0);
        c.due("above", x.count(4), 0);
        c.due("nobody fell", x.count(5), 0);
        c.due("no act", x.count(6), 0);
        c.due("undo", x.undo(), Checks.STATE);
        c.due("in the boat", x.stand(1), 3);
        c.due("nobody held", x.stand(4), 0);
        c.due("on the way up", x.goer(1, 4), 1);
        c.due("goer 2", x.goer(2, 0), Checks.BAD);
        c.due("rung 2", x.rung(2, 0), Checks.BAD);
    }
}
