/** Edges of what is asked: promises 34 to 38. */
final class EdgesOfAsks {
    private static final String FIVE = "tell l4,90;r60;r60;r60;r60;c7,0;d8,0;k9,0;f10,0;g11,0; = 5\n";

    private EdgesOfAsks() {
    }

    static void all(Edges e) {
        kind(e);
        as(e);
        ask(e);
        trace(e);
        count(e);
    }

    private static void kind(Edges e) {
        e.edge(34, "BAD", FIVE + """
            kind -1 = BAD
            kind 5 = BAD
            kind MIN = BAD
            kind MAX = BAD
            """);
        e.edge(34, "as told (1 to 5)", FIVE + """
            kind 0 = 1
            kind 1 = 2
            kind 2 = 3
            kind 3 = 4
            kind 4 = 5
            """);
    }

    private static void as(Edges e) {
        e.edge(35, "BAD: a GOER", FIVE + """
            as -1 0 = BAD
            as 5 0 = BAD
            as MIN 0 = BAD
            as MAX 0 = BAD
            as 4 0 = 4
            """);
        e.edge(35, "BAD: a KIND (0 .. 5)", FIVE + """
            as 0 -1 = BAD
            as 0 6 = BAD
            as 0 MIN = BAD
            as 0 MAX = BAD
            as 0 0 = 0
            as 4 5 = 4
            """);
        e.edge(35, "KIND: a climber is a GOER, a CLIMBER", FIVE + """
            as 0 0 = 0
            as 0 1 = 0
            as 0 2 = KIND
            as 0 3 = KIND
            as 0 4 = KIND
            as 0 5 = KIND
            status = 3
            """);
        e.edge(35, "KIND: 2 DRAPER, a CLIMBER", FIVE + """
            as 1 0 = 1
            as 1 1 = 1
            as 1 2 = 1
            as 1 3 = KIND
            as 1 4 = KIND
            as 1 5 = KIND
            """);
        e.edge(35, "KIND: 3 CURATE, a CLIMBER", FIVE + """
            as 2 0 = 2
            as 2 1 = 2
            as 2 2 = KIND
            as 2 3 = 2
            as 2 4 = KIND
            as 2 5 = KIND
            """);
        e.edge(35, "KIND: 4 FETCHER, a GOER", FIVE + """
            as 3 0 = 3
            as 3 1 = KIND
            as 3 2 = KIND
            as 3 3 = KIND
            as 3 4 = 3
            as 3 5 = KIND
            """);
        e.edge(35, "KIND: 5 GIRL, a FETCHER", FIVE + """
            as 4 0 = 4
            as 4 1 = KIND
            as 4 2 = KIND
            as 4 3 = KIND
            as 4 4 = 4
            as 4 5 = 4
            """);
        e.edge(35, "one is taken so, and stays what one is", FIVE + """
            as 4 4 = 4
            kind 4 = 5
            ask 4 0 = -178
            """);
    }

    private static void ask(Edges e) {
        e.edge(36, "BAD: a GOER", FIVE + """
            ask -1 0 = BAD
            ask 5 0 = BAD
            ask MIN 1 = BAD
            ask MAX 1 = BAD
            """);
        e.edge(36, "BAD: An ASK (0, 1)", FIVE + """
            ask 0 -1 = BAD
            ask 0 2 = BAD
            ask 0 MIN = BAD
            ask 0 MAX = BAD
            """);
        e.edge(36, "what is refused leaves THE TRACE", FIVE + """
            ask 3 0 = -90
            ask 5 0 = BAD
            ask 0 2 = BAD
            trace 0 = 13
            trace 1 = 10
            trace 2 = NONE
            """);
        e.edge(36, "THE TRACE is empty ahead of it", FIVE + """
            ask 1 0 = -10
            trace 5 = 20
            ask 3 0 = -90
            trace 0 = 13
            trace 1 = 10
            trace 2 = NONE
            trace 5 = NONE
            """);
        e.edge(36, "(else that of the nearest KIND that it is, too)", FIVE + """
            ask 2 0 = -989
            trace 0 = 11
            trace 1 = 10
            trace 2 = 22
            trace 3 = 21
            trace 4 = 20
            trace 5 = NONE
            ask 4 1 = 182
            trace 0 = 23
            trace 1 = 20
            trace 2 = 14
            trace 3 = 13
            trace 4 = 10
            trace 5 = NONE
            """);
        e.edge(36, "WEIGHT, not LOAD; PLACE as it is now", FIVE + """
            ask 4 0 = -178
            hours 2 = 0
            ask 0 0 = 9
            ask 0 1 = 2
            ask 1 0 = -18
            ask 1 1 = 10
            ask 2 1 = -997
            ask 3 1 = 93
            """);
        e.edge(36, "one who is ABOVE is asked, too", """
            tell l2,30;r20;r9;c5,0; = 1
            hours 3 = 1
            ask 0 1 = 3
            ask 0 0 = 8
            """);
    }

    private static void trace(Edges e) {
        e.edge(37, "NONE: no ask yet", FIVE + """
            trace 0 = NONE
            """);
        e.edge(37, "NONE: beyond what there is", FIVE + """
            ask 1 0 = -10
            trace -1 = NONE
            trace 0 = 12
            trace 1 = 11
            trace 2 = 10
            trace 3 = 24
            trace 4 = 21
            trace 5 = 20
            trace 6 = NONE
            trace 15 = NONE
            trace 16 = NONE
            trace MIN = NONE
            trace MAX = NONE
            """);
        e.edge(37, "the shortest", FIVE + """
            ask 0 1 = 0
            trace 0 = 21
            trace 1 = 20
            trace 2 = NONE
            """);
    }

    private static void count(Edges e) {
        e.edge(38, "BAD", """
            count -1 = BAD
            count 8 = BAD
            count MIN = BAD
            count MAX = BAD
            """);
        e.edge(38, "0 ROWS: none, all eight; one of none is one", """
            count 0 = 0
            row 0 0 0
            row 1 0 1
            row 2 1 1
            row 3 2 1
            row 4 0 40
            row 5 0 1
            row 6 0 1
            row 7 0 1
            count 0 = 8
            drop 0 = 0
            count 0 = 7
            """);
        e.edge(38, "1 RUNGS, 2 GOERS: the least, the most", """
            tell l2,1;r0;r0;c1,0; = 1
            count 1 = 2
            count 2 = 1
            tell l9,1;r0;r0;r0;r0;r0;r0;r0;r0;r0;c1,0;c1,0;c1,0;c1,0;c1,0;c1,0; = 6
            count 1 = 9
            count 2 = 6
            """);
        e.edge(38, "3 HOUR: from 0 to 999", """
            tell l2,30;r20;r9;c5,0; = 1
            count 3 = 0
            times 41 hours 24
            hours 15 = 1
            count 3 = 999
            """);
        e.edge(38, "4 how many are ABOVE: none, all six", """
            tell l2,99;r99;r99;c1,0;c1,0;c1,0;c1,0;c1,0;c1,0; = 6
            hours 2 = 0
            count 4 = 0
            hours 1 = 63
            count 4 = 6
            """);
        e.edge(38, "5 how often all FELL: one who FELL twice counts twice", """
            tell l3,20;r6;r4;r9;c5,0;f9,0;d5,2; = 3
            count 5 = 0
            hours 2 = 0
            count 5 = 4
            goer 0 6 = 2
            goer 2 6 = 0
            """);
        e.edge(38, "6 ACTS that can be undone: 24 at most", """
            tell l2,30;r20;r9;c5,0; = 1
            count 6 = 0
            hours 23 = 1
            count 6 = 23
            mend 0 = 19
            count 6 = 24
            mend 0 = 99
            count 6 = 24
            undo = 23
            count 6 = 23
            """);
        e.edge(38, "7 bytes on the tape: none, 100", """
            count 7 = 0
            times 100 feed 0
            count 7 = 100
            lake = -1000100
            count 7 = 0
            """);
    }
}
