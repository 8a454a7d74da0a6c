/** Edges of the fewest, the best and the greatest: promises 24 to 27. */
final class EdgesOfSearches {
    private static final String ONE = "tell l2,30;r20;r9;c5,0; = 1\n";
    private static final String CROWD = "tell l3,20;r6;r4;r9;c5,0;f9,0;d5,2; = 3\n";
    private static final String LATE = "tell l2,30;r20;r9;c5,27; = 1\n";
    private static final String SEVEN = "l7,5;r99;r99;r99;r99;r99;r99;r99;";

    private EdgesOfSearches() {
    }

    static void all(Edges e) {
        mends(e);
        holds(e);
        line(e);
        lineOfAll(e);
        heavy(e);
    }

    private static void mends(Edges e) {
        e.edge(24, "BAD: no such GOER", ONE + """
            mends -1 1 0 = BAD
            mends 1 1 0 = BAD
            mends MIN 1 0 = BAD
            mends MAX 1 0 = BAD
            """);
        e.edge(24, "BAD: n HOURS (1 to 30)", ONE + """
            mends 0 0 0 = BAD
            mends 0 -1 0 = BAD
            mends 0 31 0 = BAD
            mends 0 MIN 0 = BAD
            mends 0 MAX 0 = BAD
            mends 0 1 0 = NONE
            mends 0 30 0 = 0
            """);
        e.edge(24, "BAD: how many (what = 0), which (1)", ONE + """
            mends 0 3 -1 = BAD
            mends 0 3 2 = BAD
            mends 0 3 MIN = BAD
            mends 0 3 MAX = BAD
            """);
        e.edge(24, "behind 30 HOURS, not fewer", LATE + """
            mends 0 30 0 = 0
            mends 0 30 1 = 0
            mends 0 29 0 = NONE
            begin 0 28 = 27
            mends 0 30 0 = NONE
            mends 0 30 1 = NONE
            """);
        e.edge(24, "behind 1 HOUR; none where he is ABOVE", ONE + """
            mends 0 2 0 = NONE
            hours 2 = 0
            mends 0 1 0 = 0
            mends 0 1 1 = 0
            hours 1 = 1
            mends 0 1 0 = 0
            mends 0 1 1 = 0
            """);
        e.edge(24, "the fewest: four of nine", """
            tell l9,30;r0;r0;r0;r0;r0;r0;r0;r0;r0;c5,0; = 1
            mends 0 5 0 = 4
            mends 0 5 1 = 170
            mends 0 4 0 = NONE
            mends 0 30 0 = 4
            """);
        e.edge(24, "the fewest: all", """
            tell l2,12;r3;r3;c9,1;c9,0; = 2
            mends 1 3 0 = 2
            mends 1 3 1 = 3
            """);
        e.edge(24, "the fewest: not the least bits", """
            tell l3,10;r4;r5;r5;c5,0;d1,1; = 2
            mends 0 4 0 = 1
            mends 0 4 1 = 4
            mend 0 = 4
            mend 1 = 5
            mends 0 4 0 = 0
            """);
        e.edge(24, "of several the least", CROWD + """
            mends 2 4 0 = 1
            mends 2 4 1 = 1
            """);
        e.edge(24, "NONE: a fetcher, one who is HELD", CROWD + """
            mends 1 30 0 = NONE
            mends 1 30 1 = NONE
            hold 0 1 = 1
            mends 0 30 0 = NONE
            """);
        e.edge(24, "(nothing changes)", CROWD + """
            mends 0 5 1 = 2
            rung 1 0 = 4
            count 6 = 0
            count 3 = 0
            """);
    }

    private static void holds(Edges e) {
        e.edge(25, "BAD: no such GOER", ONE + """
            holds -1 1 0 = BAD
            holds 1 1 0 = BAD
            holds MIN 1 0 = BAD
            holds MAX 1 0 = BAD
            """);
        e.edge(25, "BAD: likewise n HOURS (1 to 30)", ONE + """
            holds 0 0 0 = BAD
            holds 0 -1 0 = BAD
            holds 0 31 0 = BAD
            holds 0 MIN 0 = BAD
            holds 0 MAX 0 = BAD
            holds 0 1 0 = NONE
            holds 0 30 0 = 0
            """);
        e.edge(25, "BAD: how many (what = 0), which (1)", ONE + """
            holds 0 3 -1 = BAD
            holds 0 3 2 = BAD
            holds 0 3 MIN = BAD
            holds 0 3 MAX = BAD
            """);
        e.edge(25, "behind 30 HOURS, not fewer", LATE + """
            holds 0 30 0 = 0
            holds 0 30 1 = 0
            holds 0 29 0 = NONE
            begin 0 28 = 27
            holds 0 30 0 = NONE
            holds 0 30 1 = NONE
            """);
        e.edge(25, "behind 1 HOUR; none where he is ABOVE", ONE + """
            hours 2 = 0
            holds 0 1 0 = 0
            holds 0 1 1 = 0
            hours 1 = 1
            holds 0 1 0 = 0
            """);
        e.edge(25, "the fewest others: all five", """
            tell l2,99;r9;r9;c9,0;c1,0;c1,0;c1,0;c1,0;c1,0; = 6
            holds 0 3 0 = 5
            holds 0 3 1 = 62
            """);
        e.edge(25, "the fewest others: he is the last", """
            tell l2,99;r9;r9;c1,0;c1,0;c1,0;c1,0;c1,0;c9,0; = 6
            holds 5 3 0 = 5
            holds 5 3 1 = 31
            """);
        e.edge(25, "(those who are not): the HELD do not count", """
            tell l2,99;r9;r9;c9,0;c1,0;c1,0;c1,0;c1,0;c1,0; = 6
            hold 5 1 = 32
            hold 2 1 = 36
            holds 0 3 0 = 3
            holds 0 3 1 = 26
            """);
        e.edge(25, "others: he himself is HELD", ONE + """
            hold 0 1 = 1
            holds 0 30 0 = NONE
            holds 0 30 1 = NONE
            """);
        e.edge(25, "of several the least", """
            tell l2,30;r9;r9;c4,0;c4,0;c4,0; = 3
            holds 2 3 0 = 1
            holds 2 3 1 = 1
            holds 0 3 1 = 2
            """);
        e.edge(25, "the fewest: not the least bits", """
            tell l2,30;r9;r9;c2,0;c2,0;c4,0;c5,0; = 4
            holds 3 3 0 = 1
            holds 3 3 1 = 4
            """);
        e.edge(25, "NONE", CROWD + """
            holds 0 4 0 = NONE
            holds 0 4 1 = NONE
            holds 1 30 0 = NONE
            """);
        e.edge(25, "HELD from now on: on a RUNG as well; (nothing changes)", """
            tell l3,30;r20;r9;r20;c5,0;c5,0; = 2
            hours 1 = 0
            holds 0 3 0 = 1
            holds 0 3 1 = 2
            holds 1 3 1 = 1
            stand 4 = 0
            count 6 = 1
            """);
    }

    private static void line(Edges e) {
        e.edge(26, "BAD: for n HOURS (1 to 60)", ONE + """
            line 0 -1 = BAD
            line -1 -1 = BAD
            line 61 -1 = BAD
            line MIN -1 = BAD
            line MAX -1 = BAD
            line 1 -1 = 0
            line 60 -1 = 1
            """);
        e.edge(26, "BAD: k below -1", ONE + """
            line 3 -2 = BAD
            line 3 MIN = BAD
            line 3 -1 = 1
            """);
        e.edge(26, "STATE: no LAKE (ahead of BAD)", """
            line 1 -1 = STATE
            line 0 -1 = STATE
            line 1 -2 = STATE
            """);
        e.edge(26, "NONE: not so many", ONE + """
            line 3 0 = 0
            line 3 1 = NONE
            line 3 6 = NONE
            line 3 MAX = NONE
            """);
        e.edge(26, "those in the BOAT: nobody is", ONE + """
            hours 1 = 0
            line 1 -1 = 0
            line 2 -1 = 1
            line 2 0 = NONE
            hours 2 = 1
            line 1 -1 = 1
            line 1 0 = NONE
            """);
        e.edge(26, "who are not HELD: all are", CROWD + """
            hold 0 1 = 1
            hold 1 1 = 3
            line 9 0 = 2
            line 9 1 = NONE
            hold 2 1 = 7
            line 9 -1 = 0
            line 9 0 = NONE
            """);
        e.edge(26, "with START HOUR and k: beyond 30", ONE + """
            hold 0 1 = 1
            hours 24
            hours 24
            hold 0 0 = 0
            line 2 -1 = 0
            line 3 -1 = 1
            line 3 0 = 0
            """);
        e.edge(26, "with START HOUR and k: beyond 999", """
            tell l2,5;r90;r90;c5,30;c5,0; = 2
            hold 0 1 = 1
            hold 1 1 = 3
            times 41 hours 24
            hours 15 = 0
            hold 0 0 = 2
            hold 1 0 = 0
            line 4 -1 = 1
            line 5 -1 = 2
            line 5 0 = 0
            line 5 1 = 1
            """);
        e.edge(26, "most GOERS are ABOVE: those who are and who are on RUNGS count", """
            tell l2,30;r20;r20;c5,0;c5,2;c5,9; = 3
            hours 3 = 1
            line 1 -1 = 1
            line 2 -1 = 2
            line 3 -1 = 3
            line 3 0 = 2
            line 3 1 = NONE
            """);
    }

    private static void lineOfAll(Edges e) {
        e.edge(26, "of several the first (by numbers)", CROWD + """
            line 2 -1 = 0
            line 2 0 = 0
            line 2 1 = 1
            line 2 2 = 2
            line 3 -1 = 1
            line 3 0 = 1
            line 3 1 = 2
            line 3 2 = 0
            """);
        e.edge(26, "all orders: the last of 720", """
            tell l5,64;r27;r26;r13;r18;r10;d17,0;d1,0;d11,0;c12,0;g2,0;c10,0; = 6
            line 9 -1 = 5
            line 9 0 = 5
            line 9 1 = 4
            line 9 2 = 3
            line 9 3 = 2
            line 9 4 = 1
            line 9 5 = 0
            line 9 6 = NONE
            """);
        e.edge(26, "behind 60 HOURS, not fewer", "tell " + SEVEN + """
            k5,0;k5,0;k5,0;k5,0;d5,0; = 5
            line 60 -1 = 5
            line 59 -1 = 4
            """);
        e.edge(26, "by the LAKE that stands now: one that is told differs in one number", """
            tell l2,5;r90;r90;c5,0;c5,0; = 2
            line 4 -1 = 1
            tell l2,10;r90;r90;c5,0;c5,0; = 2
            line 4 -1 = 2
            tell l2,10;r90;r90;c5,0; = 1
            line 4 -1 = 1
            line 2 -1 = 0
            tell l2,10;r0;r90;c5,0; = 1
            line 2 -1 = 1
            tell l2,10;r90;r90;c5,0; = 1
            line 2 -1 = 0
            tell l2,10;r90;r0;c5,0; = 1
            line 2 -1 = 1
            tell l2,10;r90;r90;c5,0; = 1
            line 2 -1 = 0
            tell l2,10;r90;r90;d5,0; = 1
            line 2 -1 = 1
            tell l2,10;r90;r90;d11,0; = 1
            line 2 -1 = 0
            tell l3,10;r90;r90;r90;c5,0; = 1
            line 3 -1 = 0
            tell l2,10;r90;r90;c5,0; = 1
            line 3 -1 = 1
            """);
        e.edge(26, "by the LAKE that stands now: an ACT changes one number", """
            tell l2,30;r90;r90;k5,0;c5,0; = 2
            line 5 -1 = 2
            hold 0 1 = 1
            line 5 -1 = 1
            hold 1 1 = 3
            hours 1 = 0
            hold 1 0 = 1
            hold 0 0 = 0
            line 5 -1 = 1
            undo = 4
            undo = 3
            undo = 2
            undo = 1
            undo = 0
            line 5 -1 = 2
            hours 1 = 0
            line 2 -1 = 1
            begin 1 30 = 0
            line 2 -1 = 0
            undo = 1
            line 2 -1 = 1
            mend 0 = 89
            takeOut 1 = 0
            line 1 -1 = 1
            undo = 2
            line 1 -1 = 0
            """);
        e.edge(26, "by the LAKE that stands now: every STRENGTH, every START is another", """
            tell l2,10;r90;r90;c5,0; = 1
            line 2 -1 = 0
            tell l2,10;r0;r89;c5,0; = 1
            line 2 -1 = 1
            tell l2,10;r90;r90;c5,0; = 1
            hours 1 = 0
            line 2 -1 = 1
            begin 0 30 = 0
            line 2 -1 = 0
            """);
        e.edge(26, "by the LAKE that stands now: a PLACE alone is another", """
            tell l2,9;r9;r9;g1,0; = 1
            image 0 = 1
            hours 1 = 0
            line 1 0 = NONE
            restore 0 = 1
            hold 0 1 = 1
            hours 1 = 0
            hold 0 0 = 0
            line 1 0 = 0
            """);
        e.edge(26, "by the LAKE that stands now: the way UP alone is another", """
            tell l3,9;r90;r90;r90;f9,0;c9,0; = 2
            image 0 = 1
            hours 2 = 0
            hold 0 1 = 1
            hours 2 = 0
            hold 0 0 = 0
            mend 0 = 89
            mend 1 = 87
            mend 2 = 90
            goer 0 0 = 2
            line 5 -1 = 0
            restore 0 = 1
            hours 4 = 0
            mend 0 = 89
            mend 1 = 88
            mend 2 = 89
            goer 0 0 = 2
            line 5 -1 = 1
            """);
        e.edge(26, "(nothing changes)", CROWD + """
            line 4 -1 = 2
            line 4 0 = 2
            goer 2 2 = 2
            count 3 = 0
            count 6 = 0
            """);
    }

    private static void heavy(Edges e) {
        e.edge(27, "BAD: for n HOURS (1 to 60)", ONE + """
            heavy 0 = BAD
            heavy -1 = BAD
            heavy 61 = BAD
            heavy MIN = BAD
            heavy MAX = BAD
            heavy 1 = NONE
            """);
        e.edge(27, "STATE: no LAKE (ahead of BAD)", """
            heavy 1 = STATE
            heavy 0 = STATE
            heavy 61 = STATE
            """);
        e.edge(27, "WEIGHT (1 to 30): the greatest", """
            tell l2,99;r99;r99;f1,9; = 1
            heavy 3 = 30
            heavy 2 = NONE
            """);
        e.edge(27, "WEIGHT (1 to 30): the least", """
            tell l2,1;r99;r99;f1,9; = 1
            heavy 3 = 1
            """);
        e.edge(27, "NONE: none", """
            tell l2,30;r0;r0;f1,9; = 1
            heavy 60 = NONE
            tell l2,5;r90;r90;c5,0; = 1
            hours 1 = 0
            hold 0 1 = 1
            heavy 30 = NONE
            """);
        e.edge(27, "NONE: there are 6 GOERS", """
            tell l2,99;r99;r99;f1,9;f1,9;f1,9;f1,9;f1,9;f1,9; = 6
            heavy 60 = NONE
            tell l2,99;r99;r99;f1,9;f1,9;f1,9;f1,9;f1,9; = 5
            heavy 60 = 30
            """);
        e.edge(27, "behind 60 HOURS, not fewer", "tell " + SEVEN + """
            k5,0;k5,0;k5,0;c5,0;d5,0; = 5
            heavy 60 = 5
            heavy 59 = NONE
            """);
        e.edge(27, "the last of all by number: ROPE is the others' first", """
            tell l2,30;r40;r40;c10,0; = 1
            heavy 3 = 20
            """);
        e.edge(27, "beginning now: at HOUR 999, too", """
            tell l2,30;r20;r9;k1,9; = 1
            hold 0 1 = 1
            times 41 hours 24
            hours 15 = 0
            heavy 2 = NONE
            heavy 3 = 9
            heavy 4 = 19
            """);
        e.edge(27, "the greatest, though one between is not: more may break a RUNG and go on", """
            tell l2,30;r20;r9;k1,9; = 1
            heavy 3 = 9
            heavy 4 = 19
            """);
        e.edge(27, "(nothing changes)", ONE + """
            heavy 9
            count 2 = 1
            goer 1 0 = BAD
            count 6 = 0
            """);
    }
}
