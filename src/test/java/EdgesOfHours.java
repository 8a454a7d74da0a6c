/** Edges of an hour: promise 10, with the places, steps and wear that it rests on. */
final class EdgesOfHours {
    private static final String ONE = "tell l2,30;r20;r9;c5,0; = 1\n";

    private EdgesOfHours() {
    }

    static void all(Edges e) {
        bounds(e);
        stepsUp(e);
        stepsDown(e);
        rope(e);
        whoGoes(e);
        drapersAndCurates(e);
        fetchers(e);
        wear(e);
    }

    private static void bounds(Edges e) {
        e.edge(10, "BAD: n HOURS (1 to 24)", ONE + """
            hours 0 = BAD
            hours -1 = BAD
            hours 25 = BAD
            hours MIN = BAD
            hours MAX = BAD
            hours 1 = 0
            hours 24 = 1
            count 3 = 25
            """);
        e.edge(10, "STATE: no LAKE (ahead of BAD)", """
            hours 1 = STATE
            hours 0 = STATE
            hours 25 = STATE
            """);
        e.edge(10, "FULL: HOUR would be above 999", ONE + """
            times 41 hours 24
            count 3 = 984
            hours 16 = FULL
            hours 24 = FULL
            count 3 = 984
            hours 14 = 1
            hours 2 = FULL
            hours 1 = 1
            count 3 = 999
            hours 1 = FULL
            hours 24 = FULL
            """);
        e.edge(10, "BAD is ahead of FULL", ONE + """
            times 41 hours 24
            hours 15 = 1
            hours 25 = BAD
            hours 0 = BAD
            hours MAX = BAD
            """);
        e.edge(10, "FULL: no longer, when an HOUR is undone", ONE + """
            times 41 hours 24
            hours 15 = 1
            undo = 23
            hours 2 = FULL
            hours 1 = 1
            """);
        e.edge(10, "an ACT each", ONE + """
            hours 3 = 1
            count 6 = 3
            undo = 2
            goer 0 0 = 2
            """);
        e.edge(10, "GOERS (bits) that are ABOVE then: none, all six", """
            tell l2,99;r99;r99;c1,0;c1,0;c1,0;c1,0;c1,0;c1,0; = 6
            hours 2 = 0
            hours 1 = 63
            """);
    }

    private static void stepsUp(Edges e) {
        e.edge(10, "ABOVE, for good", ONE + """
            hours 3 = 1
            takeOut 0 = 0
            takeOut 1 = 0
            hours 24 = 1
            goer 0 0 = 3
            goer 0 6 = 0
            """);
        e.edge(10, "A RUNG of STRENGTH 0 is BROKEN; of 1 it is not", """
            tell l2,30;r0;r1;c1,0; = 1
            stand 3 = 1
            """);
        e.edge(10, "if that is a BROKEN RUNG, to the one behind it: from the BOAT", """
            tell l3,30;r0;r9;r9;c5,0; = 1
            hours 1 = 0
            goer 0 0 = 2
            """);
        e.edge(10, "if that is a BROKEN RUNG, to the one behind it: ABOVE is behind the highest", """
            tell l2,30;r9;r0;c5,0; = 1
            hours 1 = 0
            hours 1 = 1
            goer 0 0 = 3
            """);
        e.edge(10, "if that is a BROKEN RUNG, too: none: from the BOAT", """
            tell l3,30;r0;r0;r9;c5,0; = 1
            hours 24 = 0
            goer 0 0 = 0
            """);
        e.edge(10, "if that is a BROKEN RUNG, too: none: in the middle", """
            tell l4,30;r20;r0;r0;r9;c5,0; = 1
            hours 3 = 0
            goer 0 0 = 1
            rung 0 0 = 17
            """);
        e.edge(10, "if that is a BROKEN RUNG, too: none: below ABOVE", """
            tell l3,30;r20;r0;r0;c5,0; = 1
            hours 3 = 0
            goer 0 0 = 1
            """);
        e.edge(10, "one step by each of 9 RUNGS", """
            tell l9,30;r9;r9;r9;r9;r9;r9;r9;r9;r9;c5,0; = 1
            hours 9 = 0
            goer 0 0 = 9
            hours 1 = 1
            """);
    }

    private static void stepsDown(Edges e) {
        e.edge(10, "A STEP down likewise: over one BROKEN RUNG", """
            tell l4,30;r9;r9;r9;r9;f5,0; = 1
            hours 4 = 0
            takeOut 2 = 0
            hours 1 = 0
            goer 0 0 = 2
            """);
        e.edge(10, "A STEP down likewise: over two there is none", """
            tell l4,30;r9;r9;r9;r9;f5,0; = 1
            hours 4 = 0
            takeOut 2 = 0
            takeOut 1 = 0
            hours 1 = 0
            goer 0 0 = 4
            goer 0 4 = 0
            """);
        e.edge(10, "the BOAT is never BROKEN: over the lowest RUNG", """
            tell l2,30;r9;r9;f5,0; = 1
            hours 2 = 0
            takeOut 0 = 0
            hours 1 = 0
            goer 0 0 = 0
            goer 0 4 = 1
            """);
        e.edge(10, "over the two lowest RUNGS there is no STEP down to the BOAT", """
            tell l3,30;r9;r9;r9;f5,0; = 1
            hours 3 = 0
            takeOut 0 = 0
            takeOut 1 = 0
            hours 1 = 0
            goer 0 0 = 3
            """);
    }

    private static void rope(Edges e) {
        e.edge(10, "are ROPE together at most", """
            tell l2,10;r50;r50;c6,0;c4,0; = 2
            hours 1 = 0
            goer 0 0 = 1
            goer 1 0 = 1
            stand 2 = 10
            """);
        e.edge(10, "one more than ROPE is too much", """
            tell l2,9;r50;r50;c6,0;c4,0; = 2
            hours 1 = 0
            goer 0 0 = 1
            goer 1 0 = 0
            """);
        e.edge(10, "his own alone: at most, one more", """
            tell l2,5;r50;r50;c5,0; = 1
            hours 1 = 0
            goer 0 0 = 1
            tell l2,5;r50;r50;c6,0; = 1
            hours 24 = 0
            goer 0 0 = 0
            """);
        e.edge(10, "From the BOAT only: on RUNGS nobody asks for ROPE", """
            tell l3,10;r50;r50;r50;c6,0;c4,0; = 2
            hours 2 = 0
            goer 0 0 = 2
            goer 1 0 = 2
            """);
        e.edge(10, "of all who are on RUNGS: those ABOVE are not", """
            tell l2,6;r50;r50;c6,0;c6,3; = 2
            hours 4 = 1
            goer 1 0 = 1
            """);
        e.edge(10, "of all who are on RUNGS: the HELD are, too", """
            tell l2,6;r50;r50;c6,0;c1,0; = 2
            hours 1 = 0
            hold 0 1 = 1
            hours 9 = 0
            goer 1 0 = 0
            """);
        e.edge(10, "One's LOAD on ROPE: a girl's half (cut)", """
            tell l2,4;r50;r50;g9,0; = 1
            hours 1 = 0
            goer 0 0 = 1
            tell l2,4;r50;r50;g10,0; = 1
            hours 1 = 0
            goer 0 0 = 0
            """);
        e.edge(10, "a girl of WEIGHT 1 has no LOAD: ROPE that is full has room for her", """
            tell l2,5;r50;r50;c5,0;g1,0; = 2
            hours 1 = 0
            goer 1 0 = 1
            stand 2 = 5
            """);
    }

    private static void whoGoes(Edges e) {
        e.edge(10, "GOERS by numbers: the room of one with a lower number is there in that HOUR", """
            tell l2,5;r50;r50;c5,0;c5,0; = 2
            hours 2 = 0
            goer 1 0 = 0
            hours 1 = 1
            goer 1 0 = 1
            """);
        e.edge(10, "GOERS by numbers: the room of one with a higher number is there in the next", """
            tell l2,5;r50;r50;c5,1;c5,0; = 2
            hours 3 = 2
            goer 0 0 = 0
            hours 1 = 2
            goer 0 0 = 1
            """);
        e.edge(10, "whose START is HOUR or less", """
            tell l2,30;r20;r9;c5,1; = 1
            hours 1 = 0
            goer 0 0 = 0
            hours 1 = 0
            goer 0 0 = 1
            """);
        e.edge(10, "whose START is HOUR or less: 30", """
            tell l2,30;r20;r9;c5,30; = 1
            hours 24 = 0
            hours 6 = 0
            goer 0 0 = 0
            hours 1 = 0
            goer 0 0 = 1
            """);
        e.edge(10, "not HELD: in the BOAT, on a RUNG", ONE + """
            hold 0 1 = 1
            hours 1 = 0
            goer 0 0 = 0
            hold 0 0 = 0
            hours 1 = 0
            goer 0 0 = 1
            hold 0 1 = 1
            hours 1 = 0
            goer 0 0 = 1
            """);
    }

    private static void drapersAndCurates(Edges e) {
        e.edge(10, "a draper two: the second one if he is not ABOVE by then", """
            tell l2,30;r9;r9;d5,0; = 1
            hours 1 = 0
            goer 0 0 = 2
            hours 1 = 1
            goer 0 0 = 3
            """);
        e.edge(10, "a draper two: ABOVE by the second", """
            tell l3,30;r9;r9;r9;d5,0; = 1
            hours 2 = 1
            goer 0 0 = 4
            """);
        e.edge(10, "a draper two: he wears only the RUNG where he is then", """
            tell l3,30;r9;r1;r9;d5,0; = 1
            hours 1 = 0
            goer 0 6 = 1
            rung 0 0 = 9
            tell l3,30;r1;r9;r9;d5,0; = 1
            hours 1 = 0
            goer 0 0 = 2
            rung 0 0 = 1
            """);
        e.edge(10, "none if there was no first: no ROPE", """
            tell l2,4;r9;r9;d5,0; = 1
            hours 1 = 0
            goer 0 0 = 0
            """);
        e.edge(10, "none if there was no first: two BROKEN RUNGS", """
            tell l4,30;r9;r0;r0;r9;d5,0; = 1
            hours 1 = 0
            goer 0 0 = 1
            hours 1 = 0
            goer 0 0 = 1
            """);
        e.edge(10, "a draper two: each over a BROKEN RUNG", """
            tell l4,30;r0;r9;r0;r9;d5,0; = 1
            hours 1 = 0
            goer 0 0 = 4
            """);
        e.edge(10, "a curate only in HOURS that are even: 0 is", """
            tell l3,30;r9;r9;r9;k5,0; = 1
            hours 1 = 0
            goer 0 0 = 1
            hours 1 = 0
            goer 0 0 = 1
            hours 1 = 0
            goer 0 0 = 2
            """);
        e.edge(10, "a curate whose START is odd begins in the next HOUR", """
            tell l3,30;r9;r9;r9;k5,1; = 1
            hours 2 = 0
            goer 0 0 = 0
            hours 1 = 0
            goer 0 0 = 1
            """);
    }

    private static void fetchers(Edges e) {
        e.edge(10, "on the highest RUNG that is not BROKEN, turns, and goes a STEP down in that HOUR", """
            tell l2,30;r9;r9;f5,0; = 1
            hours 2 = 0
            goer 0 0 = 2
            goer 0 4 = 1
            hours 1 = 0
            goer 0 0 = 1
            goer 0 4 = 0
            """);
        e.edge(10, "the highest RUNG that is not BROKEN is below a BROKEN one: they never come ABOVE", """
            tell l2,30;r9;r0;f5,0;g5,0; = 2
            hours 1 = 0
            goer 0 0 = 1
            hours 1 = 0
            goer 0 0 = 0
            goer 1 0 = 0
            hours 24 = 0
            """);
        e.edge(10, "on a RUNG from which there is no STEP up, turns", """
            tell l4,30;r9;r0;r0;r9;f5,0; = 1
            hours 1 = 0
            goer 0 0 = 1
            hours 1 = 0
            goer 0 0 = 0
            """);
        e.edge(10, "in the BOAT with no STEP up: waits, on the way UP", """
            tell l2,30;r0;r0;f5,0; = 1
            hours 3 = 0
            goer 0 0 = 0
            goer 0 4 = 1
            tell l2,4;r9;r9;f5,0; = 1
            hours 3 = 0
            goer 0 0 = 0
            goer 0 4 = 1
            """);
        e.edge(10, "(if there is one): turns all the same, and goes when there is one", """
            tell l3,30;r20;r20;r20;f5,0; = 1
            hours 3 = 0
            takeOut 0 = 0
            takeOut 1 = 0
            hours 2 = 0
            goer 0 0 = 3
            goer 0 4 = 0
            mend 0 = 0
            hours 1 = 0
            goer 0 0 = 1
            """);
        e.edge(10, "and so on in each, till in the BOAT: though there is a STEP up again", """
            tell l3,30;r9;r9;r0;f5,0; = 1
            hours 3 = 0
            goer 0 0 = 1
            goer 0 4 = 0
            mend 2 = 0
            hours 1 = 0
            goer 0 0 = 0
            """);
        e.edge(10, "where one turns again: up from the next HOUR on", """
            tell l2,30;r9;r9;f5,0; = 1
            hours 4 = 0
            goer 0 0 = 0
            goer 0 4 = 1
            hours 1 = 0
            goer 0 0 = 1
            """);
        e.edge(10, "each turns by himself: one behind the other", """
            tell l3,30;r90;r90;r90;f5,0;g5,1; = 2
            hours 4 = 0
            goer 0 0 = 2
            goer 0 4 = 0
            goer 1 0 = 3
            goer 1 4 = 1
            hours 1 = 0
            goer 0 0 = 1
            goer 0 4 = 0
            goer 1 0 = 2
            goer 1 4 = 0
            hours 1 = 0
            goer 0 0 = 0
            goer 0 4 = 1
            goer 1 0 = 1
            goer 1 4 = 0
            """);
        e.edge(10, "a girl goes as a fetcher does", """
            tell l2,30;r9;r9;g5,0; = 1
            hours 2 = 0
            goer 0 0 = 2
            hours 1 = 0
            goer 0 0 = 1
            goer 0 4 = 0
            hours 1 = 0
            goer 0 0 = 0
            goer 0 4 = 1
            """);
        e.edge(10, "so they never come ABOVE: by no draw of RUNGS", """
            tell l9,99;r0;r9;r0;r9;r0;r9;r0;r9;r0;f1,0;g1,0; = 2
            hours 4 = 0
            goer 0 0 = 8
            hours 1 = 0
            goer 0 0 = 6
            hours 24 = 0
            """);
    }

    private static void wear(Edges e) {
        e.edge(10, "if it is above STRENGTH, it is BROKEN: by one", """
            tell l2,30;r4;r9;c5,0; = 1
            hours 1 = 0
            rung 0 0 = 0
            goer 0 0 = 0
            goer 0 6 = 1
            """);
        e.edge(10, "if not: just STRENGTH is borne, and is 1 less", """
            tell l2,30;r5;r9;c5,0; = 1
            hours 1 = 0
            rung 0 0 = 4
            goer 0 0 = 1
            goer 0 6 = 0
            """);
        e.edge(10, "(0: BROKEN, likewise all FELL)", """
            tell l2,30;r1;r9;c1,0;g1,0; = 2
            hours 1 = 0
            rung 0 0 = 0
            goer 0 0 = 0
            goer 1 0 = 0
            count 5 = 2
            """);
        e.edge(10, "but there is any: nobody on it, no wear", ONE + """
            hours 1 = 0
            rung 0 0 = 19
            rung 1 0 = 9
            hours 5 = 1
            rung 0 0 = 19
            rung 1 0 = 8
            """);
        e.edge(10, "but there is any: LOAD of none does not wear", """
            tell l2,1;r5;r0;g1,0; = 1
            hours 1 = 0
            rung 0 2 = 1
            rung 0 0 = 5
            """);
        e.edge(10, "the LOAD of all who are on it", """
            tell l2,30;r9;r9;c5,0;c5,0; = 2
            hours 1 = 0
            count 5 = 2
            stand 3 = 1
            tell l2,30;r10;r9;c5,0;c5,0; = 2
            hours 1 = 0
            count 5 = 0
            rung 0 0 = 9
            """);
        e.edge(10, "1 less, not 1 for each", """
            tell l2,30;r20;r9;c5,0;c5,0;c5,0; = 3
            hours 1 = 0
            rung 0 0 = 19
            """);
        e.edge(10, "they are in the BOAT (on the way UP)", """
            tell l3,30;r9;r9;r9;f5,0; = 1
            hours 3 = 0
            takeOut 0 = 0
            hours 1 = 0
            goer 0 0 = 2
            goer 0 4 = 0
            hold 0 1 = 1
            hours 4 = 0
            goer 0 0 = 0
            goer 0 4 = 1
            goer 0 6 = 1
            """);
        e.edge(10, "the HELD wear, and FELL likewise; those whose START is to come, too", """
            tell l2,30;r3;r9;c2,0;c1,0; = 2
            hours 1 = 0
            hold 0 1 = 1
            begin 1 30 = 0
            rung 0 0 = 2
            hours 1 = 0
            count 5 = 2
            stand 4 = 1
            """);
        e.edge(10, "HOUR is 1 more", ONE + """
            count 3 = 0
            hours 1 = 0
            count 3 = 1
            """);
        e.edge(10, "those who FELL go up from the next HOUR on", """
            tell l2,30;r4;r9;c5,0; = 1
            hours 1 = 0
            goer 0 0 = 0
            hours 1 = 0
            goer 0 0 = 2
            """);
    }
}
