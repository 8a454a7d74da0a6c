/** Edges of a new object, of rows and of status: promises 1 to 5, 39. */
final class EdgesOfRows {
    private EdgesOfRows() {
    }

    static void all(Edges e) {
        newObject(e);
        row(e);
        set(e);
        copy(e);
        drop(e);
        status(e);
    }

    private static void newObject(Edges e) {
        e.edge(1, "No LAKE", """
            hours 1 = STATE
            stand 0 = STATE
            first 0 = STATE
            falls 0 = STATE
            line 1 -1 = STATE
            heavy 1 = STATE
            drawn 0 1 0 = STATE
            image 0 = STATE
            undo = STATE
            """);
        e.edge(1, "No LAKE: there is no such GOER", """
            row 0 0 1 = 1
            begin 0 0 = BAD
            hold 0 1 = BAD
            goer 0 0 = BAD
            ahead 0 0 = BAD
            above 0 = BAD
            mends 0 1 0 = BAD
            holds 0 1 0 = BAD
            who 0 0 0 0 0 1 = BAD
            rotten 0 0 0 1 = BAD
            risk 0 0 0 0 = BAD
            kind 0 = BAD
            as 0 0 = BAD
            ask 0 0 = BAD
            """);
        e.edge(1, "No LAKE: there is no such RUNG", """
            mend 0 = BAD
            takeOut 0 = BAD
            rung 0 0 = BAD
            strength 0 0 = BAD
            broken 0 = BAD
            """);
        e.edge(1, "ROWS 0 .. 7 are missing (at first)", """
            count 0 = 0
            drop 0 = NULL
            drop 1 = NULL
            drop 2 = NULL
            drop 3 = NULL
            drop 4 = NULL
            drop 5 = NULL
            drop 6 = NULL
            drop 7 = NULL
            """);
        e.edge(1, "nothing is told, kept or left in it", """
            count 1 = 0
            count 2 = 0
            count 3 = 0
            count 4 = 0
            count 5 = 0
            count 6 = 0
            count 7 = 0
            fault = 0
            status = 0
            trace 0 = NONE
            restore 0 = STATE
            restore 1 = STATE
            """);
    }

    private static void row(Edges e) {
        e.edge(2, "BAD: ROW", """
            row -1 0 1 = BAD
            row 8 0 1 = BAD
            row MIN 0 1 = BAD
            row MAX 0 1 = BAD
            row 0 0 1 = 1
            row 7 0 1 = 1
            count 0 = 2
            """);
        e.edge(2, "BAD: LANE", """
            row 0 -1 1 = BAD
            row 0 3 1 = BAD
            row 0 MIN 1 = BAD
            row 0 MAX 1 = BAD
            row 0 0 1 = 1
            row 1 1 1 = 1
            row 2 2 1 = 1
            """);
        e.edge(2, "BAD: n above 40", """
            row 0 0 41 = BAD
            row 0 1 MAX = BAD
            count 0 = 0
            row 0 2 40 = 40
            drop 0 = 40
            """);
        e.edge(2, "0 to 40 ITEMS: none", """
            row 0 0 0 = 0
            count 0 = 1
            set 0 0 1 = PLACE
            drop 0 = 0
            """);
        e.edge(2, "SIZE (fewer than none)", """
            row 0 0 -1 = SIZE
            status = 4
            row 0 0 MIN = SIZE
            count 0 = 0
            """);
        e.edge(2, "BAD is ahead of SIZE", """
            row 8 0 -1 = BAD
            row -1 0 -1 = BAD
            row 0 3 -1 = BAD
            row 0 -1 -1 = BAD
            status = 0
            """);
        e.edge(2, "what is refused leaves the ROW that is there", """
            tell l2,30;r20;r9;c5,0;
            fill 0 1 1 2 3
            row 0 2 -1 = SIZE
            row 0 2 41 = BAD
            row 0 3 2 = BAD
            set 0 0 32769 = -32767
            set 0 0 1 = 1
            rotten 0 0 0 3 = 1024
            drop 0 = 3
            """);
        e.edge(2, "in place of what is there: ITEMS are 0 at first", """
            tell l2,30;r20;r9;c5,30;
            fill 0 2 7 7 7
            row 0 2 3 = 3
            rotten 0 0 0 3 = 1027
            count 0 = 1
            """);
        e.edge(2, "in place of what is there: another LANE, fewer ITEMS", """
            row 0 2 40 = 40
            row 0 0 1 = 1
            set 0 0 255 = -1
            set 0 1 0 = PLACE
            drop 0 = 1
            """);
        e.edge(2, "ITEMS of a ROW that grows again are 0, too", """
            tell l2,30;r20;r9;c5,30;
            fill 0 2 7 7 7
            row 0 2 1 = 1
            row 0 2 3 = 3
            rotten 0 0 0 3 = 1027
            """);
    }

    private static void set(Edges e) {
        e.edge(3, "BAD: ROW", """
            set -1 0 0 = BAD
            set 8 0 0 = BAD
            set MIN 0 0 = BAD
            set MAX 0 0 = BAD
            """);
        e.edge(3, "NULL", """
            set 0 0 0 = NULL
            set 7 0 0 = NULL
            status = 1
            """);
        e.edge(3, "NULL is ahead of PLACE", """
            set 0 -1 0 = NULL
            set 0 40 0 = NULL
            """);
        e.edge(3, "PLACE", """
            row 0 0 3 = 3
            set 0 -1 5 = PLACE
            status = 2
            set 0 3 5 = PLACE
            set 0 40 5 = PLACE
            set 0 MIN 5 = PLACE
            set 0 MAX 5 = PLACE
            set 0 0 5 = 5
            set 0 2 5 = 5
            """);
        e.edge(3, "PLACE: the last of 40", """
            row 0 2 40 = 40
            set 0 39 9 = 9
            set 0 40 9 = PLACE
            """);
        e.edge(3, "PLACE: a ROW of none has no place", """
            row 0 2 0 = 0
            set 0 0 9 = PLACE
            """);
        e.edge(3, "its lowest bits: bytes wrap around", """
            row 0 0 1 = 1
            set 0 0 127 = 127
            set 0 0 128 = -128
            set 0 0 -128 = -128
            set 0 0 -129 = 127
            set 0 0 255 = -1
            set 0 0 256 = 0
            set 0 0 MAX = -1
            set 0 0 MIN = 0
            """);
        e.edge(3, "its lowest bits: shorts wrap around", """
            row 0 1 1 = 1
            set 0 0 32767 = 32767
            set 0 0 32768 = -32768
            set 0 0 -32768 = -32768
            set 0 0 -32769 = 32767
            set 0 0 65535 = -1
            set 0 0 65536 = 0
            set 0 0 MAX = -1
            set 0 0 MIN = 0
            """);
        e.edge(3, "its lowest bits: ints keep all", """
            row 0 2 1 = 1
            set 0 0 MAX = MAX
            set 0 0 MIN = MIN
            set 0 0 65536 = 65536
            """);
        e.edge(3, "it is kept as it is then: 257 is 1 in bytes, not in shorts", """
            tell l2,30;r20;r9;c5,0;
            fill 0 0 257
            fill 1 1 257
            fill 2 1 65537
            fill 3 2 65537
            rotten 0 0 0 1 = 1026
            rotten 0 1 0 1 = 0
            rotten 0 2 0 1 = 1026
            rotten 0 3 0 1 = 0
            """);
        e.edge(3, "what is found changes nothing", """
            tell l2,30;r20;r9;c5,0;
            fill 0 2 1 2 3
            set 0 3 9 = PLACE
            set 0 -1 9 = PLACE
            rotten 0 0 0 3 = 1024
            """);
    }

    private static void copy(Edges e) {
        e.edge(4, "BAD: ROWS", """
            row 0 0 2 = 2
            copy -1 0 0 0 1 = BAD
            copy 8 0 0 0 1 = BAD
            copy 0 0 -1 0 1 = BAD
            copy 0 0 8 0 1 = BAD
            copy MIN 0 0 0 1 = BAD
            copy 0 0 MAX 0 1 = BAD
            """);
        e.edge(4, "BAD is ahead of NULL", """
            copy 0 0 8 0 1 = BAD
            copy -1 0 0 0 1 = BAD
            status = 0
            """);
        e.edge(4, "NULL", """
            row 0 0 2 = 2
            copy 0 0 1 0 1 = NULL
            copy 1 0 0 0 1 = NULL
            copy 1 0 1 0 0 = NULL
            status = 1
            """);
        e.edge(4, "NULL is ahead of PLACE", """
            row 0 0 2 = 2
            copy 0 -1 1 0 1 = NULL
            copy 1 0 0 3 1 = NULL
            copy 0 0 1 0 -1 = NULL
            """);
        e.edge(4, "NULL: a missing ROW has no LANE", """
            row 0 0 2 = 2
            row 1 2 2 = 2
            drop 1 = 2
            copy 0 0 1 0 1 = NULL
            """);
        e.edge(4, "STORE (ROWS of two LANES)", """
            row 0 0 2 = 2
            row 1 1 2 = 2
            row 2 2 2 = 2
            copy 0 0 1 0 1 = STORE
            copy 1 0 0 0 1 = STORE
            copy 1 0 2 0 1 = STORE
            copy 2 0 0 0 1 = STORE
            status = 5
            """);
        e.edge(4, "STORE: of none, too", """
            row 0 0 2 = 2
            row 1 1 2 = 2
            copy 0 0 1 0 0 = STORE
            """);
        e.edge(4, "STORE is ahead of PLACE", """
            row 0 0 2 = 2
            row 1 1 2 = 2
            copy 0 -1 1 0 1 = STORE
            copy 0 0 1 0 3 = STORE
            copy 0 0 1 0 -1 = STORE
            """);
        e.edge(4, "PLACE (i below 0)", """
            row 0 0 2 = 2
            row 1 0 2 = 2
            copy 0 -1 1 0 1 = PLACE
            copy 0 MIN 1 0 1 = PLACE
            copy 0 -1 1 0 0 = PLACE
            status = 2
            """);
        e.edge(4, "PLACE (j below 0)", """
            row 0 0 2 = 2
            row 1 0 2 = 2
            copy 0 0 1 -1 1 = PLACE
            copy 0 0 1 MIN 1 = PLACE
            copy 0 0 1 -1 0 = PLACE
            """);
        e.edge(4, "PLACE (n below 0)", """
            row 0 0 2 = 2
            row 1 0 2 = 2
            copy 0 0 1 0 -1 = PLACE
            copy 0 1 1 1 -1 = PLACE
            copy 0 0 1 0 MIN = PLACE
            """);
        e.edge(4, "PLACE (beyond an end): of a", """
            row 0 0 2 = 2
            row 1 0 40 = 40
            copy 0 0 1 0 3 = PLACE
            copy 0 1 1 0 2 = PLACE
            copy 0 2 1 0 1 = PLACE
            copy 0 3 1 0 0 = PLACE
            copy 0 0 1 0 2 = 2
            copy 0 1 1 0 1 = 1
            copy 0 2 1 0 0 = 0
            """);
        e.edge(4, "PLACE (beyond an end): of b", """
            row 0 0 40 = 40
            row 1 0 2 = 2
            copy 0 0 1 0 3 = PLACE
            copy 0 0 1 1 2 = PLACE
            copy 0 0 1 2 1 = PLACE
            copy 0 0 1 3 0 = PLACE
            copy 0 0 1 0 2 = 2
            copy 0 0 1 1 1 = 1
            copy 0 0 1 2 0 = 0
            """);
        e.edge(4, "PLACE: sums that would wrap around", """
            row 0 0 2 = 2
            row 1 0 2 = 2
            copy 0 1 1 0 MAX = PLACE
            copy 0 0 1 1 MAX = PLACE
            copy 0 MAX 1 0 1 = PLACE
            copy 0 0 1 MAX 1 = PLACE
            copy 0 MAX 1 MAX MAX = PLACE
            copy 0 MAX 1 0 MIN = PLACE
            """);
        e.edge(4, "as they were ahead: up over itself", """
            tell l2,30;r20;r9;c5,0;
            fill 0 2 1 2 3 9
            copy 0 0 0 1 3 = 3
            rotten 0 0 1 3 = 1024
            """);
        e.edge(4, "as they were ahead: down over itself", """
            tell l2,30;r20;r9;c5,0;
            fill 0 2 9 1 2 3
            copy 0 1 0 0 3 = 3
            rotten 0 0 0 3 = 1024
            """);
        e.edge(4, "n ITEMS, and no more", """
            tell l2,30;r20;r9;c5,0;
            fill 0 2 8 2 8
            fill 1 2 1 9 3
            copy 0 1 1 1 1 = 1
            rotten 0 1 0 3 = 1024
            """);
        e.edge(4, "all 40", """
            tell l2,30;r20;r9;c5,0;
            row 0 2 40 = 40
            row 1 2 40 = 40
            set 0 37 1 = 1
            set 0 38 2 = 2
            set 0 39 3 = 3
            copy 0 0 1 0 40 = 40
            rotten 0 1 37 3 = 1024
            copy 0 0 1 0 41 = PLACE
            """);
        e.edge(4, "what is found changes nothing: not the ITEMS that would have had room", """
            tell l2,30;r20;r9;c5,0;
            fill 0 2 9 9 9 9
            fill 1 2 1 2 3
            copy 0 0 1 0 4 = PLACE
            copy 0 0 1 1 3 = PLACE
            copy 0 2 1 0 3 = PLACE
            rotten 0 1 0 3 = 1024
            """);
        e.edge(4, "of ROWS that have none: none", """
            row 0 0 0 = 0
            row 1 0 0 = 0
            copy 0 0 1 0 0 = 0
            copy 0 0 1 0 1 = PLACE
            """);
    }

    private static void drop(Edges e) {
        e.edge(5, "BAD", """
            drop -1 = BAD
            drop 8 = BAD
            drop MIN = BAD
            drop MAX = BAD
            """);
        e.edge(5, "NULL", """
            drop 0 = NULL
            status = 1
            """);
        e.edge(5, "missing from now on", """
            row 0 0 3 = 3
            row 7 0 2 = 2
            drop 0 = 3
            count 0 = 1
            drop 0 = NULL
            set 0 0 1 = NULL
            copy 7 0 0 0 1 = NULL
            drop 7 = 2
            count 0 = 0
            """);
        e.edge(5, "how many ITEMS it had: none, 40", """
            row 0 0 0 = 0
            row 1 0 40 = 40
            drop 0 = 0
            drop 1 = 40
            status = 0
            """);
        e.edge(5, "a ROW made anew behind it has ITEMS 0", """
            tell l2,30;r20;r9;c5,30;
            fill 0 2 7 7
            drop 0 = 2
            row 0 2 2 = 2
            rotten 0 0 0 2 = 1027
            """);
    }

    private static void status(Edges e) {
        e.edge(39, "0: there was none", """
            status = 0
            """);
        e.edge(39, "the number of its FINDING: NULL 1, PLACE 2, KIND 3, SIZE 4, STORE 5", """
            tell l2,30;r20;r9;c5,0;
            drop 0 = NULL
            status = 1
            row 0 0 1 = 1
            set 0 1 0 = PLACE
            status = 2
            as 0 2 = KIND
            status = 3
            row 0 0 -1 = SIZE
            status = 4
            row 1 1 1 = 1
            copy 0 0 1 0 1 = STORE
            status = 5
            """);
        e.edge(39, "0: it had none: each call with a ROW, and as()", """
            tell l2,30;r20;r9;c5,0;
            drop 7 = NULL
            row 0 0 1 = 1
            status = 0
            drop 7 = NULL
            set 0 0 1 = 1
            status = 0
            drop 7 = NULL
            copy 0 0 0 0 1 = 1
            status = 0
            drop 7 = NULL
            who 0 0 0 0 0 1 = 58
            status = 0
            drop 7 = NULL
            rotten 0 0 0 1 = 1026
            status = 0
            drop 7 = NULL
            as 0 1 = 0
            status = 0
            drop 7 = NULL
            drop 0 = 1
            status = 0
            """);
        e.edge(39, "that was not BAD", """
            tell l2,30;r20;r9;c5,0;
            drop 0 = NULL
            row 8 0 0 = BAD
            set 8 0 0 = BAD
            copy 8 0 0 0 0 = BAD
            drop 8 = BAD
            who 9 0 0 0 0 1 = BAD
            rotten 9 0 0 1 = BAD
            as 9 0 = BAD
            as 0 6 = BAD
            status = 1
            """);
        e.edge(39, "of the latest call with a ROW: no other call counts", """
            tell l2,30;r20;r9;c5,0; = 1
            drop 0 = NULL
            feed 300 = BAD
            tell q = -1000100
            fault = 1
            tell l2,30;r20;r9;c5,0; = 1
            hours 1 = 0
            undo = 0
            undo = STATE
            begin 0 1 = 0
            hold 0 1 = 1
            hold 0 1 = STATE
            mend 0 = 20
            takeOut 0 = 0
            takeOut 0 = STATE
            goer 0 0 = 0
            rung 0 0 = 0
            stand 0 = 0
            ahead 0 0 = 0
            strength 0 0 = 0
            above 0 = NONE
            broken 0 = 0
            first 0 = NONE
            falls 0 = 0
            mends 0 1 0 = NONE
            holds 0 1 0 = NONE
            line 1 -1 = 0
            heavy 1 = NONE
            risk 0 0 0 0 = 0
            drawn 0 1 0 = 0
            image 0 = 1
            restore 0 = 1
            kind 0 = 1
            ask 0 0 = 5
            trace 0 = 11
            count 0 = 0
            status = 1
            """);
        e.edge(39, "who and rotten find, too", """
            tell l2,30;r20;r9;c5,0;
            row 0 0 1 = 1
            who 0 0 0 1 0 1 = NULL
            status = 1
            who 0 0 0 0 1 1 = PLACE
            status = 2
            rotten 0 1 0 1 = NULL
            status = 1
            rotten 0 0 1 1 = PLACE
            status = 2
            """);
        e.edge(39, "status itself changes nothing", """
            drop 0 = NULL
            status = 1
            status = 1
            """);
    }
}
