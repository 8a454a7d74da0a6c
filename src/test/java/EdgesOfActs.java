/** Edges of what is done but for the hours, and of what stands: promises 9, 11 to 17, 32, 33. */
final class EdgesOfActs {
    private static final String ONE = "tell l2,30;r20;r9;c5,0; = 1\n";
    /** A climber, a fetcher, a draper; nothing breaks under them for a while. */
    private static final String THREE = "tell l3,60;r60;r60;r60;c5,0;f9,0;d3,1; = 3\n";

    private EdgesOfActs() {
    }

    static void all(Edges e) {
        undo(e);
        begin(e);
        hold(e);
        mend(e);
        takeOut(e);
        goer(e);
        rung(e);
        stand(e);
        image(e);
        restore(e);
    }

    private static void undo(Edges e) {
        e.edge(9, "STATE: none: no LAKE, a new one", """
            undo = STATE
            tell l2,30;r20;r9;c5,0; = 1
            undo = STATE
            """);
        e.edge(9, "STATE: none: all are undone", ONE + """
            hours 2 = 0
            undo = 1
            undo = 0
            undo = STATE
            count 3 = 0
            goer 0 0 = 0
            """);
        e.edge(9, "24 at most are kept", ONE + """
            hours 24 = 1
            count 6 = 24
            undo = 23
            times 23 undo
            undo = STATE
            count 3 = 0
            rung 0 0 = 20
            """);
        e.edge(9, "of more the oldest is forgotten: of 25", ONE + """
            hours 24 = 1
            hours 1 = 1
            count 6 = 24
            times 23 undo
            undo = 0
            undo = STATE
            count 3 = 1
            goer 0 0 = 1
            rung 0 0 = 19
            """);
        e.edge(9, "of more the oldest is forgotten: of 60, of several kinds", ONE + """
            hours 24
            hours 12
            hold 0 1 = 1
            hold 0 0 = 0
            hours 22
            count 6 = 24
            times 22 undo
            count 3 = 36
            stand 4 = 0
            undo = 1
            stand 4 = 1
            undo = 0
            stand 4 = 0
            undo = STATE
            count 3 = 36
            """);
        e.edge(9, "room that was undone is used again", ONE + """
            hours 24 = 1
            times 20 undo
            count 6 = 4
            mend 1 = 8
            hours 24 = 1
            count 6 = 24
            times 24 undo
            undo = STATE
            count 3 = 4
            rung 1 0 = 99
            """);
        e.edge(9, "each can be undone, the latest first", THREE + """
            hours 2 = 0
            begin 2 7 = 1
            hold 0 1 = 1
            mend 2 = 60
            takeOut 1 = 7
            count 6 = 6
            count 5 = 3
            undo = 5
            count 5 = 0
            goer 0 0 = 2
            goer 1 0 = 2
            goer 2 0 = 2
            rung 1 0 = 59
            rung 2 0 = 99
            undo = 4
            rung 2 0 = 60
            stand 4 = 1
            undo = 3
            stand 4 = 0
            goer 2 2 = 7
            undo = 2
            goer 2 2 = 1
            count 3 = 2
            undo = 1
            count 3 = 1
            goer 0 0 = 1
            rung 0 0 = 59
            undo = 0
            count 3 = 0
            goer 0 0 = 0
            rung 0 0 = 60
            """);
        e.edge(9, "who was on the way down, who FELL, is so again", """
            tell l3,30;r9;r9;r9;f5,0; = 1
            hours 4 = 0
            goer 0 4 = 0
            takeOut 1 = 1
            goer 0 4 = 1
            goer 0 6 = 1
            undo = 4
            goer 0 4 = 0
            goer 0 6 = 0
            goer 0 0 = 2
            """);
        e.edge(9, "ACTS: ROWS, the tape, IMAGES and THE TRACE are of none", ONE + """
            hours 1 = 0
            row 2 1 5 = 5
            feed 108 = 1
            image 0 = 1
            ask 0 1 = 1
            count 6 = 1
            undo = 0
            count 0 = 1
            count 7 = 1
            trace 0 = 21
            restore 0 = 1
            goer 0 0 = 1
            """);
        e.edge(9, "what is refused is no ACT", ONE + """
            begin 0 31 = BAD
            hold 0 0 = STATE
            hold 0 2 = BAD
            mend 2 = BAD
            takeOut 2 = BAD
            hours 0 = BAD
            hours 25 = BAD
            count 6 = 0
            takeOut 0 = 0
            takeOut 0 = STATE
            count 6 = 1
            """);
    }

    private static void begin(Edges e) {
        e.edge(11, "START (0 to 30)", ONE + """
            begin 0 -1 = BAD
            begin 0 31 = BAD
            begin 0 MIN = BAD
            begin 0 MAX = BAD
            begin 0 30 = 0
            goer 0 2 = 30
            begin 0 0 = 30
            goer 0 2 = 0
            """);
        e.edge(11, "BAD: no such GOER", THREE + """
            begin -1 0 = BAD
            begin 3 0 = BAD
            begin MIN 0 = BAD
            begin MAX 0 = BAD
            begin 2 0 = 1
            """);
        e.edge(11, "one on a RUNG whose START is later stays there till then", ONE + """
            hours 1 = 0
            begin 0 3 = 0
            hours 2 = 0
            goer 0 0 = 1
            hours 1 = 0
            goer 0 0 = 2
            """);
    }

    private static void hold(Edges e) {
        e.edge(12, "BAD: HELD (1), or no more (0)", ONE + """
            hold 0 -1 = BAD
            hold 0 2 = BAD
            hold 0 MIN = BAD
            hold 0 MAX = BAD
            """);
        e.edge(12, "BAD: no such GOER", THREE + """
            hold -1 1 = BAD
            hold 3 1 = BAD
            hold MIN 0 = BAD
            hold MAX 0 = BAD
            """);
        e.edge(12, "STATE: it is so", THREE + """
            hold 0 0 = STATE
            hold 0 1 = 1
            hold 0 1 = STATE
            hold 0 0 = 0
            hold 0 0 = STATE
            count 6 = 2
            """);
        e.edge(12, "BAD is ahead of STATE", ONE + """
            hold 1 0 = BAD
            hold 0 1 = 1
            hold 1 1 = BAD
            hold 0 2 = BAD
            """);
        e.edge(12, "who is (bits): all six, none", """
            tell l2,30;r9;r9;c1,0;c1,0;c1,0;c1,0;c1,0;c1,0; = 6
            hold 5 1 = 32
            hold 0 1 = 33
            hold 1 1 = 35
            hold 2 1 = 39
            hold 3 1 = 47
            hold 4 1 = 63
            hold 5 0 = 31
            """);
        e.edge(12, "HELD where he is: ABOVE, too", ONE + """
            hours 3 = 1
            hold 0 1 = 1
            hours 1 = 1
            goer 0 0 = 3
            """);
    }

    private static void mend(Edges e) {
        e.edge(13, "BAD", ONE + """
            mend -1 = BAD
            mend 2 = BAD
            mend MIN = BAD
            mend MAX = BAD
            """);
        e.edge(13, "STRENGTH it had: none, all", """
            tell l9,30;r0;r1;r2;r3;r4;r5;r6;r7;r99;c5,0; = 1
            mend 0 = 0
            mend 0 = 99
            mend 8 = 99
            mend 7 = 7
            rung 0 0 = 99
            stand 3 = 0
            """);
        e.edge(13, "one on it stays there", ONE + """
            hours 1 = 0
            mend 0 = 19
            goer 0 0 = 1
            rung 0 1 = 5
            count 5 = 0
            """);
        e.edge(13, "no such RUNG: the place of ABOVE", """
            tell l9,30;r1;r1;r1;r1;r1;r1;r1;r1;r1;c5,0; = 1
            mend 9 = BAD
            """);
    }

    private static void takeOut(Edges e) {
        e.edge(14, "BAD", ONE + """
            takeOut -1 = BAD
            takeOut 2 = BAD
            takeOut MIN = BAD
            takeOut MAX = BAD
            """);
        e.edge(14, "STATE: it is BROKEN", """
            tell l2,30;r0;r9;c5,0; = 1
            takeOut 0 = STATE
            takeOut 1 = 0
            takeOut 1 = STATE
            count 6 = 1
            """);
        e.edge(14, "BAD is ahead of STATE", """
            tell l2,30;r0;r0;c5,0; = 1
            takeOut 2 = BAD
            takeOut -1 = BAD
            """);
        e.edge(14, "who FELL (bits): nobody, all six", """
            tell l2,99;r99;r99;c1,0;c1,0;c1,0;c1,0;c1,0;c1,0; = 6
            hours 1 = 0
            takeOut 1 = 0
            takeOut 0 = 63
            count 5 = 6
            stand 1 = 63
            stand 3 = 3
            """);
        e.edge(14, "all on it FELL, nobody else", THREE + """
            hours 2 = 0
            begin 0 9 = 0
            hours 1 = 4
            goer 0 0 = 2
            goer 1 0 = 3
            takeOut 1 = 1
            goer 0 0 = 0
            goer 1 0 = 3
            stand 0 = 4
            """);
        e.edge(14, "nobody in the BOAT FELL, nobody ABOVE", """
            tell l2,30;r20;r20;c5,0;c5,9; = 2
            hours 3 = 1
            takeOut 0 = 0
            takeOut 1 = 0
            count 5 = 0
            stand 0 = 1
            stand 1 = 2
            """);
        e.edge(14, "one who is HELD FELL, too, and is HELD still", ONE + """
            hours 1 = 0
            hold 0 1 = 1
            takeOut 0 = 1
            goer 0 0 = 0
            stand 4 = 1
            """);
        e.edge(14, "a girl of no LOAD FELL, too", """
            tell l2,1;r5;r0;g1,0; = 1
            hours 1 = 0
            rung 0 1 = 0
            rung 0 2 = 1
            takeOut 0 = 1
            goer 0 6 = 1
            """);
    }

    private static void goer(Edges e) {
        e.edge(15, "BAD: no such GOER", THREE + """
            goer -1 0 = BAD
            goer 3 0 = BAD
            goer MIN 0 = BAD
            goer MAX 0 = BAD
            """);
        e.edge(15, "BAD: 0 .. 6", THREE + """
            goer 0 -1 = BAD
            goer 0 7 = BAD
            goer 0 MIN = BAD
            goer 0 MAX = BAD
            goer 0 6 = 0
            """);
        e.edge(15, "0 PLACE: 0 the BOAT, RUNGS and 1 ABOVE", """
            tell l9,30;r9;r9;r9;r9;r9;r9;r9;r9;r9;c5,0; = 1
            goer 0 0 = 0
            hours 9 = 0
            goer 0 0 = 9
            hours 1 = 1
            goer 0 0 = 10
            hours 1 = 1
            goer 0 0 = 10
            """);
        e.edge(15, "3 LOAD: a girl's half (cut)", """
            tell l2,30;r9;r9;g1,0;g2,0;g3,0;g30,0;f30,0;c1,0; = 6
            goer 0 1 = 1
            goer 0 3 = 0
            goer 1 3 = 1
            goer 2 3 = 1
            goer 3 1 = 30
            goer 3 3 = 15
            goer 4 3 = 30
            goer 5 3 = 1
            """);
        e.edge(15, "4 whether on the way UP: till in the BOAT, then at once", """
            tell l2,30;r9;r9;f5,0; = 1
            goer 0 4 = 1
            hours 2 = 0
            goer 0 4 = 1
            hours 1 = 0
            goer 0 4 = 0
            hours 1 = 0
            goer 0 0 = 0
            goer 0 4 = 1
            """);
        e.edge(15, "5 whether HELD (1, 0)", THREE + """
            goer 1 5 = 0
            hold 1 1 = 2
            goer 0 5 = 0
            goer 1 5 = 1
            goer 2 5 = 0
            hold 1 0 = 0
            goer 1 5 = 0
            """);
        e.edge(15, "6 how often he FELL: by an HOUR, by one taken out", ONE + """
            hours 1 = 0
            takeOut 0 = 1
            goer 0 6 = 1
            hours 1 = 0
            takeOut 1 = 1
            goer 0 6 = 2
            """);
    }

    private static void rung(Edges e) {
        e.edge(16, "BAD: no such RUNG", ONE + """
            rung -1 0 = BAD
            rung 2 0 = BAD
            rung MIN 0 = BAD
            rung MAX 0 = BAD
            """);
        e.edge(16, "BAD: 0 .. 2", ONE + """
            rung 0 -1 = BAD
            rung 0 3 = BAD
            rung 0 MIN = BAD
            rung 0 MAX = BAD
            """);
        e.edge(16, "1 LOAD on it, 2 who is on it: nobody, all six", """
            tell l2,99;r99;r99;c1,0;c2,0;g5,0;c4,0;f5,0;g1,0; = 6
            rung 0 1 = 0
            rung 0 2 = 0
            hours 1 = 0
            rung 0 0 = 98
            rung 0 1 = 14
            rung 0 2 = 63
            rung 1 1 = 0
            rung 1 2 = 0
            """);
        e.edge(16, "0 the lowest on: who is in the BOAT, ABOVE is on none", """
            tell l2,30;r20;r20;c5,0;c5,9; = 2
            hours 3 = 1
            rung 0 1 = 0
            rung 0 2 = 0
            rung 1 1 = 0
            rung 1 2 = 0
            """);
    }

    private static void stand(Edges e) {
        e.edge(17, "BAD", ONE + """
            stand -1 = BAD
            stand 5 = BAD
            stand MIN = BAD
            stand MAX = BAD
            """);
        e.edge(17, "STATE: no LAKE (ahead of BAD)", """
            stand 0 = STATE
            stand 5 = STATE
            stand -1 = STATE
            """);
        e.edge(17, "0 who is ABOVE, 1 who is in the BOAT: none, all six", """
            tell l2,99;r99;r99;c1,0;c1,0;c1,0;c1,0;c1,0;c1,0; = 6
            stand 0 = 0
            stand 1 = 63
            stand 2 = 0
            hours 1 = 0
            stand 0 = 0
            stand 1 = 0
            stand 2 = 6
            hours 2 = 63
            stand 0 = 63
            stand 1 = 0
            stand 2 = 0
            """);
        e.edge(17, "3 RUNGS that are BROKEN: none, all nine", """
            tell l9,30;r1;r1;r1;r1;r1;r1;r1;r1;r1;c5,0; = 1
            stand 3 = 0
            tell l9,30;r0;r0;r0;r0;r0;r0;r0;r0;r0;c5,0; = 1
            stand 3 = 511
            mend 8 = 0
            stand 3 = 255
            mend 0 = 0
            stand 3 = 254
            """);
    }

    private static void image(Edges e) {
        e.edge(32, "BAD: (0, 1)", ONE + """
            image -1 = BAD
            image 2 = BAD
            image MIN = BAD
            image MAX = BAD
            image 0 = 1
            image 1 = 1
            """);
        e.edge(32, "STATE: no LAKE", """
            image 0 = STATE
            image 1 = STATE
            restore 0 = STATE
            """);
        e.edge(32, "BAD is ahead of STATE", """
            image 2 = BAD
            image -1 = BAD
            """);
        e.edge(32, "An IMAGE is no ACT, and takes none away", ONE + """
            hours 2 = 0
            image 0 = 1
            count 6 = 2
            undo = 1
            goer 0 0 = 1
            """);
        e.edge(32, "kept anew in place of the one before", ONE + """
            image 0 = 1
            hours 1 = 0
            image 0 = 1
            hours 2 = 1
            restore 0 = 1
            goer 0 0 = 1
            """);
        e.edge(32, "each by itself", ONE + """
            image 0 = 1
            hours 1 = 0
            image 1 = 1
            restore 0 = 1
            goer 0 0 = 0
            restore 1 = 1
            goer 0 0 = 1
            """);
    }

    private static void restore(Edges e) {
        e.edge(33, "BAD", ONE + """
            image 0 = 1
            image 1 = 1
            restore -1 = BAD
            restore 2 = BAD
            restore MIN = BAD
            restore MAX = BAD
            """);
        e.edge(33, "STATE: none was kept", ONE + """
            restore 0 = STATE
            restore 1 = STATE
            image 1 = 1
            restore 0 = STATE
            restore 1 = 1
            """);
        e.edge(33, "BAD is ahead of STATE", """
            restore 2 = BAD
            restore -1 = BAD
            """);
        e.edge(33, "no ACT can be undone then", ONE + """
            hours 1 = 0
            image 0 = 1
            hours 2 = 1
            restore 0 = 1
            count 6 = 0
            undo = STATE
            goer 0 0 = 1
            hours 1 = 0
            undo = 0
            goer 0 0 = 1
            """);
        e.edge(33, "as an IMAGE kept it: HOUR, who is HELD, who goes down, who FELL, STARTS, STRENGTH", """
            tell l3,30;r9;r9;r9;f5,0;c2,9; = 2
            hours 4 = 0
            takeOut 0 = 0
            hold 1 1 = 2
            begin 1 7 = 9
            image 0 = 1
            tell l2,30;r20;r9;c5,0; = 1
            hours 3 = 1
            restore 0 = 1
            count 1 = 3
            count 2 = 2
            count 3 = 4
            stand 3 = 1
            stand 4 = 2
            goer 0 0 = 2
            goer 0 4 = 0
            goer 1 2 = 7
            rung 1 0 = 7
            hours 1 = 0
            goer 0 0 = 0
            """);
        e.edge(33, "The LAKE is as an IMAGE kept it: ROWS, the tape, THE TRACE and the FAULT are not of it", ONE + """
            image 0 = 1
            row 2 1 5 = 5
            ask 0 1 = 0
            tell q = -1000100
            feed 108 = 1
            drop 7 = NULL
            restore 0 = 1
            count 0 = 1
            count 7 = 1
            trace 0 = 21
            fault = 1
            status = 1
            """);
        e.edge(33, "an IMAGE stays as it was, however often it is restored", ONE + """
            image 0 = 1
            hours 3 = 1
            restore 0 = 1
            hours 2 = 0
            takeOut 0 = 0
            restore 0 = 1
            rung 0 0 = 20
            goer 0 0 = 0
            count 3 = 0
            """);
    }
}
