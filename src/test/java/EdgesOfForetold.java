/** Edges of what is foretold by hours alone, and by rows, cases and draws: promises 18 to 23, 28 to 31. */
final class EdgesOfForetold {
    private static final String ONE = "tell l2,30;r20;r9;c5,0; = 1\n";
    /** As it is, the climber and the fetcher break both low rungs, and nobody gets above. */
    private static final String CROWD = "tell l3,20;r6;r4;r9;c5,0;f9,0;d5,2; = 3\n";
    /** He hangs on the lowest rung, below two that are broken, and wears it by one in each hour. */
    private static final String HANGS_60 = "tell l3,1;r60;r0;r0;c1,0; = 1\n";
    private static final String HANGS_61 = "tell l3,1;r61;r0;r0;c1,0; = 1\n";
    private static final String NINE = "l9,5;r99;r99;r99;r99;r99;r99;r99;r99;r99;";

    private EdgesOfForetold() {
    }

    static void all(Edges e) {
        ahead(e);
        strength(e);
        above(e);
        broken(e);
        first(e);
        falls(e);
        whoIsRefused(e);
        whatFits(e);
        rotten(e);
        risk(e);
        drawn(e);
    }

    private static void ahead(Edges e) {
        e.edge(18, "BAD: by n HOURS (0 to 60)", ONE + """
            ahead 0 -1 = BAD
            ahead 0 61 = BAD
            ahead 0 MIN = BAD
            ahead 0 MAX = BAD
            ahead 0 0 = 0
            ahead 0 1 = 1
            ahead 0 60 = 3
            """);
        e.edge(18, "BAD: no such GOER", ONE + """
            ahead -1 0 = BAD
            ahead 1 0 = BAD
            ahead MIN 0 = BAD
            ahead MAX 0 = BAD
            """);
        e.edge(18, "by 60 HOURS, not fewer: he FELL in the last", HANGS_60 + """
            ahead 0 59 = 1
            ahead 0 60 = 0
            """);
        e.edge(18, "(nothing changes), and HOUR may be above 999", ONE + """
            times 41 hours 24
            hours 15 = 1
            ahead 0 60 = 3
            count 3 = 999
            """);
    }

    private static void strength(Edges e) {
        e.edge(19, "BAD: by n HOURS (0 to 60)", ONE + """
            strength 0 -1 = BAD
            strength 0 61 = BAD
            strength 0 MIN = BAD
            strength 0 MAX = BAD
            strength 0 0 = 20
            strength 0 1 = 19
            strength 0 60 = 19
            """);
        e.edge(19, "BAD: no such RUNG", ONE + """
            strength -1 0 = BAD
            strength 2 0 = BAD
            strength MIN 0 = BAD
            strength MAX 0 = BAD
            strength 1 0 = 9
            """);
        e.edge(19, "by 60 HOURS, not fewer", HANGS_61 + """
            strength 0 59 = 2
            strength 0 60 = 1
            """);
    }

    private static void above(Edges e) {
        e.edge(20, "BAD", ONE + """
            above -1 = BAD
            above 1 = BAD
            above MIN = BAD
            above MAX = BAD
            """);
        e.edge(20, "0: he is", ONE + """
            hours 2 = 0
            above 0 = 1
            hours 1 = 1
            above 0 = 0
            """);
        e.edge(20, "60 at most: one behind the other on a ROPE for one", "tell " + NINE + """
            c5,23;c5,23;c5,23;c5,23; = 4
            above 0 = 33
            above 1 = 42
            above 2 = 51
            above 3 = 60
            """);
        e.edge(20, "NONE: 61 is too many", "tell " + NINE + """
            c5,24;c5,24;c5,24;c5,24; = 4
            above 2 = 52
            above 3 = NONE
            hours 1 = 0
            above 3 = 60
            """);
        e.edge(20, "NONE: a fetcher, one who is HELD, one without a way", """
            tell l3,30;r60;r60;r60;f5,0;c5,0;c5,0; = 3
            above 0 = NONE
            hold 1 1 = 2
            above 1 = NONE
            above 2 = 4
            takeOut 1 = 0
            takeOut 2 = 0
            above 2 = NONE
            """);
        e.edge(20, "a draper passes a RUNG that would not bear him, next to a BROKEN one", """
            tell l3,30;r1;r0;r9;d5,0; = 1
            above 0 = 2
            risk 0 2 0 0 = 1
            tell l3,30;r0;r1;r9;d5,0; = 1
            above 0 = 2
            line 2 -1 = 1
            """);
        e.edge(20, "ABOVE, though HELD: 0", ONE + """
            hours 3 = 1
            hold 0 1 = 1
            above 0 = 0
            """);
    }

    private static void broken(Edges e) {
        e.edge(21, "BAD", ONE + """
            broken -1 = BAD
            broken 2 = BAD
            broken MIN = BAD
            broken MAX = BAD
            """);
        e.edge(21, "likewise: 0: it is", HANGS_60 + """
            broken 1 = 0
            broken 2 = 0
            """);
        e.edge(21, "likewise: 60 at most", HANGS_60 + """
            broken 0 = 60
            """);
        e.edge(21, "NONE: 61 is too many", HANGS_61 + """
            broken 0 = NONE
            hours 1 = 0
            broken 0 = 60
            """);
        e.edge(21, "NONE: nobody is ever on it", ONE + """
            hold 0 1 = 1
            broken 0 = NONE
            broken 1 = NONE
            """);
        e.edge(21, "1: in the next HOUR", """
            tell l2,30;r4;r9;c5,0; = 1
            broken 0 = 1
            """);
    }

    private static void first(Edges e) {
        e.edge(22, "BAD: which (what = 0), behind how many (1)", ONE + """
            first -1 = BAD
            first 2 = BAD
            first MIN = BAD
            first MAX = BAD
            """);
        e.edge(22, "STATE: no LAKE (ahead of BAD)", """
            first 0 = STATE
            first 2 = STATE
            first -1 = STATE
            """);
        e.edge(22, "the RUNG that is not BROKEN now", """
            tell l3,30;r0;r4;r9;c5,0; = 1
            first 0 = 1
            first 1 = 1
            """);
        e.edge(22, "and is first: the higher one", """
            tell l3,30;r20;r4;r9;c5,0; = 1
            first 0 = 1
            first 1 = 2
            """);
        e.edge(22, "of several the lowest", """
            tell l3,90;r3;r3;r3;c4,0;d4,0; = 2
            first 0 = 0
            first 1 = 1
            broken 1 = 1
            tell l3,90;r9;r3;r3;d4,0;d4,0; = 2
            first 0 = 1
            """);
        e.edge(22, "60 at most", HANGS_60 + """
            first 0 = 0
            first 1 = 60
            """);
        e.edge(22, "NONE: 61 is too many", HANGS_61 + """
            first 0 = NONE
            first 1 = NONE
            """);
        e.edge(22, "NONE: all are BROKEN", """
            tell l2,30;r0;r0;c5,0; = 1
            first 0 = NONE
            first 1 = NONE
            """);
        e.edge(22, "the ninth RUNG", """
            tell l9,30;r9;r9;r9;r9;r9;r9;r9;r9;r4;c5,0; = 1
            first 0 = 8
            first 1 = 9
            """);
    }

    private static void falls(Edges e) {
        e.edge(23, "BAD: in n HOURS (0 to 60)", CROWD + """
            falls -1 = BAD
            falls 61 = BAD
            falls MIN = BAD
            falls MAX = BAD
            falls 0 = 0
            falls 1 = 2
            falls 60 = 4
            """);
        e.edge(23, "STATE: no LAKE (ahead of BAD)", """
            falls 0 = STATE
            falls -1 = STATE
            falls 61 = STATE
            """);
        e.edge(23, "in 60 HOURS, not fewer", HANGS_60 + """
            falls 59 = 0
            falls 60 = 1
            """);
        e.edge(23, "in them: not those before", CROWD + """
            hours 1 = 0
            count 5 = 2
            falls 0 = 0
            falls 1 = 2
            """);
    }

    private static void whoIsRefused(Edges e) {
        e.edge(28, "BAD: GOER", CROWD + """
            row 0 0 12
            who -1 0 0 0 0 1 = BAD
            who 3 0 0 0 0 1 = BAD
            who MIN 0 0 0 0 1 = BAD
            who MAX 0 0 0 0 1 = BAD
            """);
        e.edge(28, "BAD: which", CROWD + """
            row 0 0 12
            who 0 -1 0 0 0 1 = BAD
            who 0 3 0 0 0 1 = BAD
            who 0 MIN 0 0 0 1 = BAD
            who 0 MAX 0 0 0 1 = BAD
            """);
        e.edge(28, "BAD: OTHER", CROWD + """
            row 0 0 12
            who 0 0 -1 0 0 1 = BAD
            who 0 0 3 0 0 1 = BAD
            who 0 0 MIN 0 0 1 = BAD
            who 0 0 MAX 0 0 1 = BAD
            """);
        e.edge(28, "BAD: ROW", CROWD + """
            who 0 0 0 -1 0 1 = BAD
            who 0 0 0 8 0 1 = BAD
            who 0 0 0 MIN 0 1 = BAD
            who 0 0 0 MAX 0 1 = BAD
            """);
        e.edge(28, "BAD: n (1 to 12)", CROWD + """
            row 0 0 40
            who 0 0 0 0 0 0 = BAD
            who 0 0 0 0 0 -1 = BAD
            who 0 0 0 0 0 13 = BAD
            who 0 0 0 0 0 MIN = BAD
            who 0 0 0 0 0 MAX = BAD
            """);
        e.edge(28, "BAD is ahead of NULL and PLACE", CROWD + """
            row 0 0 1
            who 0 0 0 1 0 0 = BAD
            who 0 0 0 1 0 13 = BAD
            who 0 0 0 0 -1 0 = BAD
            who 0 3 0 0 9 1 = BAD
            status = 0
            """);
        e.edge(28, "NULL", CROWD + """
            who 0 0 0 0 0 1 = NULL
            status = 1
            """);
        e.edge(28, "NULL is ahead of PLACE", CROWD + """
            who 0 0 0 0 -1 1 = NULL
            who 0 0 0 0 40 12 = NULL
            """);
        e.edge(28, "PLACE: n ITEMS of a ROW from i on", CROWD + """
            row 0 0 4 = 4
            who 0 0 0 0 -1 1 = PLACE
            who 0 0 0 0 4 1 = PLACE
            who 0 0 0 0 0 5 = PLACE
            who 0 0 0 0 1 4 = PLACE
            who 0 0 0 0 MIN 1 = PLACE
            who 0 0 0 0 MAX 1 = PLACE
            who 0 0 0 0 MAX 12 = PLACE
            status = 2
            who 0 2 0 0 0 4 = 2147483647
            who 0 2 0 0 3 1 = 2147483647
            """);
        e.edge(28, "PLACE: a ROW of none", CROWD + """
            row 0 0 0 = 0
            who 0 0 0 0 0 1 = PLACE
            """);
    }

    private static void whatFits(Edges e) {
        e.edge(28, "KINDS (bits 1 to 5): all, none", ONE + """
            hold 0 1 = 1
            fill 0 2 0 1
            who 0 0 0 0 0 1 = 62
            who 0 0 0 0 1 1 = 0
            """);
        e.edge(28, "WEIGHTS (1 to 30, bits): all, none", ONE + """
            hold 0 1 = 1
            fill 0 2 0 1
            who 0 1 0 0 0 1 = 2147483646
            who 0 1 0 0 1 1 = 0
            """);
        e.edge(28, "WEIGHTS: 1 alone, 30 alone", """
            tell l2,1;r20;r9;c5,0; = 1
            fill 0 2 1 2
            who 0 1 0 0 0 2 = 2
            tell l2,30;r29;r29;c5,0; = 1
            fill 0 2 0 0
            who 0 1 0 0 0 2 = 1073741824
            """);
        e.edge(28, "STARTS (0 to 30, bits): all, none", ONE + """
            hold 0 1 = 1
            fill 0 2 0 1
            who 0 2 0 0 0 1 = 2147483647
            who 0 2 0 0 1 1 = 0
            """);
        e.edge(28, "STARTS: 0 alone, 30 alone, all that are past", ONE + """
            fill 0 2 1 0 1
            who 0 2 0 0 0 1 = 1
            hold 0 1 = 1
            hours 24
            hours 5
            hold 0 0 = 0
            who 0 2 0 0 0 1 = 1073741823
            who 0 2 0 0 1 2 = 1073741824
            hours 1
            undo
            """);
        e.edge(28, "n 12: the twelfth counts, a thirteenth does not", ONE + """
            hold 0 1 = 1
            fill 0 2 0 0 0 0 0 0 0 0 0 0 0 0 1
            who 0 0 0 0 0 12 = 62
            who 0 0 0 0 1 12 = 0
            who 0 0 0 0 1 11 = 62
            """);
        e.edge(28, "behind each of n HOURS: not as it is now", ONE + """
            fill 0 2 0 1 2 3 3
            who 0 0 0 0 0 1 = 0
            who 0 0 0 0 1 4 = 2
            """);
        e.edge(28, "PLACE is told by the whole ITEM: ints are not cut", ONE + """
            fill 0 2 257
            fill 1 0 257
            who 0 0 0 0 0 1 = 0
            who 0 0 0 1 0 1 = 58
            """);
        e.edge(28, "PLACES that there are none of fit nobody", ONE + """
            fill 0 2 -1 4 MAX MIN
            who 0 0 0 0 0 1 = 0
            who 0 1 0 0 1 1 = 0
            who 0 2 0 0 2 1 = 0
            who 0 0 0 0 3 1 = 0
            """);
        e.edge(28, "by PLACE of another GOER, or his own", CROWD + """
            fill 0 2 1 0 0
            who 1 0 0 0 0 3 = 4
            who 1 1 0 0 0 3 = 2
            who 1 2 0 0 0 3 = 6
            who 0 0 0 0 0 3 = 0
            """);
        e.edge(28, "by PLACE of another GOER: the last", """
            tell l3,90;r60;r60;r60;c5,0;c5,1;c5,2; = 3
            fill 0 2 0 0 1 2 3 4
            who 2 0 2 0 0 6 = 2
            who 2 2 2 0 0 6 = 4
            who 0 0 2 0 0 6 = 62
            who 2 0 0 0 0 6 = 0
            fill 1 2 0 1 2 3 4
            who 1 2 1 1 0 5 = 2
            """);
        e.edge(28, "(nothing changes)", CROWD + """
            fill 0 2 1 0 0
            who 1 0 0 0 0 3 = 4
            who 1 1 0 0 0 3 = 2
            who 1 2 0 0 0 3 = 6
            kind 1 = 4
            goer 1 1 = 9
            goer 1 2 = 0
            count 3 = 0
            count 6 = 0
            """);
    }

    private static void rotten(Edges e) {
        e.edge(29, "BAD: GOER", ONE + """
            row 0 0 12
            rotten -1 0 0 1 = BAD
            rotten 1 0 0 1 = BAD
            rotten MIN 0 0 1 = BAD
            rotten MAX 0 0 1 = BAD
            """);
        e.edge(29, "BAD: ROW", ONE + """
            rotten 0 -1 0 1 = BAD
            rotten 0 8 0 1 = BAD
            rotten 0 MIN 0 1 = BAD
            rotten 0 MAX 0 1 = BAD
            """);
        e.edge(29, "BAD: n", ONE + """
            row 0 0 40
            rotten 0 0 0 0 = BAD
            rotten 0 0 0 -1 = BAD
            rotten 0 0 0 13 = BAD
            rotten 0 0 0 MIN = BAD
            rotten 0 0 0 MAX = BAD
            """);
        e.edge(29, "BAD is ahead of NULL and PLACE", ONE + """
            row 0 0 1
            rotten 0 1 0 0 = BAD
            rotten 0 1 0 13 = BAD
            rotten 0 0 -1 0 = BAD
            rotten 1 0 9 1 = BAD
            """);
        e.edge(29, "NULL", ONE + """
            rotten 0 0 0 1 = NULL
            status = 1
            """);
        e.edge(29, "NULL is ahead of PLACE", ONE + """
            rotten 0 0 -1 1 = NULL
            rotten 0 0 40 1 = NULL
            """);
        e.edge(29, "PLACE: n ITEMS of a ROW from i on", ONE + """
            fill 0 2 1 2 3 3
            rotten 0 0 -1 1 = PLACE
            rotten 0 0 4 1 = PLACE
            rotten 0 0 0 5 = PLACE
            rotten 0 0 1 4 = PLACE
            rotten 0 0 MIN 1 = PLACE
            rotten 0 0 MAX 1 = PLACE
            rotten 0 0 MAX 12 = PLACE
            status = 2
            rotten 0 0 0 4 = 1024
            rotten 0 0 3 1 = 0
            """);
        e.edge(29, "RUNGS (bits): all nine, and 1024 more, if it is so as it is", """
            tell l9,99;r9;r9;r9;r9;r9;r9;r9;r9;r9;c5,0; = 1
            hold 0 1 = 1
            fill 0 2 0
            rotten 0 0 0 1 = 1535
            """);
        e.edge(29, "RUNGS (bits): none, and not as it is", ONE + """
            fill 0 2 3
            rotten 0 0 0 1 = 0
            """);
        e.edge(29, "that are not BROKEN", """
            tell l3,30;r20;r0;r9;c5,0; = 1
            fill 0 2 1 3 4 0 0
            rotten 0 0 0 3 = 1024
            rotten 0 0 3 2 = 1
            """);
        e.edge(29, "BROKEN now (all on it FELL)", ONE + """
            hours 1 = 0
            fill 0 2 2 3 2
            rotten 0 0 0 2 = 1025
            rotten 0 0 1 1 = 2
            goer 0 0 = 1
            rung 0 0 = 19
            """);
        e.edge(29, "PLACE of the GOER who is named, not of another", """
            tell l3,90;r60;r60;r60;c5,0;c5,1;c5,2; = 3
            fill 0 2 0 0 1 2 3 4
            rotten 2 0 0 6 = 1024
            rotten 1 0 1 5 = 1024
            rotten 0 0 2 4 = 1024
            rotten 0 0 0 6 = 0
            """);
        e.edge(29, "n 12", ONE + """
            hold 0 1 = 1
            fill 0 2 0 0 0 0 0 0 0 0 0 0 0 0 1
            rotten 0 0 0 12 = 1027
            rotten 0 0 1 12 = 0
            rotten 0 0 1 11 = 1027
            """);
        e.edge(29, "the row tells of the whole ITEM", ONE + """
            fill 0 2 257 -255
            rotten 0 0 0 1 = 0
            rotten 0 0 1 1 = 0
            """);
    }

    private static void risk(Edges e) {
        e.edge(30, "BAD: no such GOER", ONE + """
            risk -1 0 0 0 = BAD
            risk 1 0 0 0 = BAD
            risk MIN 0 0 1 = BAD
            risk MAX 0 0 1 = BAD
            """);
        e.edge(30, "BAD: behind n HOURS (0 to 30)", ONE + """
            risk 0 -1 0 0 = BAD
            risk 0 31 0 0 = BAD
            risk 0 MIN 0 0 = BAD
            risk 0 MAX 0 0 = BAD
            risk 0 0 0 0 = 0
            risk 0 30 0 0 = 1
            """);
        e.edge(30, "BAD: p of 10 (0 to 10)", ONE + """
            risk 0 3 -1 0 = BAD
            risk 0 3 11 0 = BAD
            risk 0 3 MIN 0 = BAD
            risk 0 3 MAX 0 = BAD
            """);
        e.edge(30, "BAD: above (what = 0), below (1)", ONE + """
            risk 0 3 5 -1 = BAD
            risk 0 3 5 2 = BAD
            risk 0 3 5 MIN = BAD
            risk 0 3 5 MAX = BAD
            """);
        e.edge(30, "in 0 of 10 cases: none is BROKEN", ONE + """
            risk 0 3 0 0 = 1
            risk 0 3 0 1 = 1
            risk 0 2 0 0 = 0
            risk 0 2 0 1 = 1
            """);
        e.edge(30, "in 10 of 10 cases: all are BROKEN", ONE + """
            risk 0 30 10 0 = 0
            risk 0 30 10 1 = 1
            """);
        e.edge(30, "0 is 0 by 1", ONE + """
            risk 0 1 5 0 = 0
            risk 0 1 5 1 = 1
            risk 0 1 3 0 = 0
            risk 0 1 3 1 = 1
            """);
        e.edge(30, "in lowest terms", ONE + """
            risk 0 3 5 0 = 3
            risk 0 3 5 1 = 4
            risk 0 3 1 0 = 99
            risk 0 3 1 1 = 100
            risk 0 2 2 0 = 8
            risk 0 2 2 1 = 25
            hours 1 = 0
            risk 0 1 2 0 = 1
            risk 0 1 2 1 = 5
            risk 0 1 5 0 = 1
            risk 0 1 5 1 = 2
            risk 0 1 1 0 = 1
            risk 0 1 1 1 = 10
            """);
        e.edge(30, "all nine RUNGS: 512 cases, 1000000000 below", """
            tell l9,9;r9;r9;r9;r9;r9;r9;r9;r9;r9;c1,0; = 1
            risk 0 5 1 0 = 6561
            risk 0 5 1 1 = 1000000000
            risk 0 5 9 0 = 59049
            risk 0 5 9 1 = 1000000000
            """);
        e.edge(30, "no RUNG is in danger: it is so, or it is not", """
            tell l2,30;r20;r0;c5,0; = 1
            hours 1 = 0
            risk 0 1 7 0 = 1
            risk 0 1 7 1 = 1
            risk 0 0 7 0 = 0
            risk 0 0 7 1 = 1
            """);
        e.edge(30, "behind 0 HOURS: he is, he is not", ONE + """
            risk 0 0 5 0 = 0
            hours 3 = 1
            risk 0 0 5 0 = 1
            risk 0 0 5 1 = 1
            risk 0 0 10 0 = 1
            """);
        e.edge(30, "behind 30 HOURS, not fewer", """
            tell l2,30;r20;r9;c5,27; = 1
            risk 0 30 0 0 = 1
            risk 0 29 0 0 = 0
            begin 0 28 = 27
            risk 0 30 0 0 = 0
            """);
        e.edge(30, "that is not BROKEN", """
            tell l3,30;r20;r0;r9;c5,0; = 1
            risk 0 3 1 0 = 81
            risk 0 3 1 1 = 100
            """);
        e.edge(30, "and on which nobody is", ONE + """
            hours 1 = 0
            risk 0 1 3 0 = 3
            risk 0 1 3 1 = 10
            risk 0 1 10 0 = 1
            """);
        e.edge(30, "and on which nobody is: a girl of no LOAD is somebody", """
            tell l2,30;r20;r9;c5,1;g1,0; = 2
            hours 1 = 0
            risk 0 2 3 0 = 3
            risk 0 2 3 1 = 10
            """);
    }

    private static void drawn(Edges e) {
        e.edge(31, "BAD: of n HOURS (0 to 60)", ONE + """
            drawn -1 1 0 = BAD
            drawn 61 1 0 = BAD
            drawn MIN 1 0 = BAD
            drawn MAX 1 0 = BAD
            """);
        e.edge(31, "BAD: a SEED (1 to 999999)", ONE + """
            drawn 1 0 0 = BAD
            drawn 1 -1 0 = BAD
            drawn 1 1000000 0 = BAD
            drawn 1 MIN 0 = BAD
            drawn 1 MAX 0 = BAD
            drawn 1 1 0 = 0
            drawn 1 999999 0 = 0
            """);
        e.edge(31, "BAD: how many (what = 0), how often (1)", ONE + """
            drawn 1 1 -1 = BAD
            drawn 1 1 2 = BAD
            drawn 1 1 MIN = BAD
            drawn 1 1 MAX = BAD
            """);
        e.edge(31, "STATE: no LAKE (ahead of BAD)", """
            drawn 0 1 0 = STATE
            drawn -1 1 0 = STATE
            drawn 0 0 0 = STATE
            drawn 0 1 2 = STATE
            """);
        e.edge(31, "of 0 HOURS: as it is", ONE + """
            drawn 0 1 0 = 0
            drawn 0 1 1 = 0
            hours 3 = 1
            drawn 0 1 0 = 1
            drawn 60 1 0 = 1
            """);
        e.edge(31, "X times 16807 goes far beyond an int", """
            tell l2,30;r0;r0;c5,0; = 1
            drawn 1 999999 0 = 0
            drawn 2 999999 0 = 1
            drawn 2 999999 1 = 0
            """);
        e.edge(31, "ahead of each: X becomes another before the first HOUR", ONE + """
            hours 2 = 0
            drawn 1 1 0 = 0
            drawn 1 1 1 = 1
            """);
        e.edge(31, "is mended, if X by 4 leaves 0; if not so, it is taken out", """
            tell l2,30;r0;r0;c5,0; = 1
            drawn 2 4 0 = 1
            """);
        e.edge(31, "is neither, if X leaves something by both: 1213916353 leaves 1 and 6", ONE + """
            hours 2 = 0
            drawn 1 200000 0 = 1
            drawn 1 200000 1 = 0
            """);
        e.edge(31, "the rest of X by how many there are: the highest, the lowest", """
            tell l3,30;r20;r20;r20;c5,0; = 1
            hours 1 = 0
            drawn 1 3 1 = 1
            drawn 1 1 1 = 0
            drawn 1 2 1 = 0
            hours 1 = 0
            drawn 1 3 1 = 0
            drawn 1 1 1 = 1
            drawn 1 2 1 = 0
            hours 1 = 0
            drawn 1 3 1 = 0
            drawn 1 1 1 = 0
            drawn 1 2 1 = 1
            """);
        e.edge(31, "how often one FELL in it: not before", ONE + """
            hours 2 = 0
            takeOut 1 = 1
            count 5 = 1
            drawn 0 1 1 = 0
            drawn 1 1 1 = 0
            """);
        e.edge(31, "(nothing changes)", ONE + """
            hours 2 = 0
            drawn 60 1 0
            drawn 1 1 1 = 1
            count 3 = 2
            count 5 = 0
            stand 3 = 0
            """);
    }
}
