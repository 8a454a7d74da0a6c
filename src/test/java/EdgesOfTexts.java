/** Edges of the tape and of the texts on it: promises 6 to 8. */
final class EdgesOfTexts {
    private static final String LAW = "l2,1;", RUNGS = "r0;r0;", SIX = "c1,0;d1,0;k1,0;f1,0;g1,0;c1,0;";
    private static final String HEAD = LAW + RUNGS;

    private EdgesOfTexts() {
    }

    static void all(Edges e) {
        feed(e);
        numbersOfTheLaw(e);
        numbersOfRungsAndGoers(e);
        howMany(e);
        tokens(e);
        figures(e);
        ends(e);
        firstAndLeast(e);
        whatStays(e);
        fault(e);
    }

    private static void whole(Edges e, String words, String text, int goers) {
        e.edge(7, words, "tell " + text + " = " + goers + "\nfault = 0\ncount 7 = 0\ncount 2 = " + goers);
    }

    private static void faulty(Edges e, String words, String text, int place, int number) {
        e.edge(7, words, "tell " + text + " = " + (-1000100 - place) + "\nfault = " + number + "\ncount 7 = 0\ncount 2 = 0");
    }

    /** A text, then a byte that is no sign one can write here. */
    private static void faultyByte(Edges e, String words, String text, int letter) {
        StringBuilder lines = new StringBuilder();
        for (char one : text.toCharArray()) {
            lines.append("feed ").append((int) one).append('\n');
        }
        lines.append("feed ").append(letter).append('\n');
        e.edge(7, words, lines + "lake = " + (-1000100 - text.length()) + "\nfault = 1\ncount 2 = 0");
    }

    private static void feed(Edges e) {
        e.edge(6, "BAD: a byte (0 to 255)", """
            feed -1 = BAD
            feed 256 = BAD
            feed MIN = BAD
            feed MAX = BAD
            feed 0 = 1
            feed 255 = 2
            """);
        e.edge(6, "FULL: at most 100 bytes", """
            times 99 feed 65
            feed 65 = 100
            feed 65 = FULL
            feed 0 = FULL
            count 7 = 100
            """);
        e.edge(6, "BAD is ahead of FULL", """
            times 100 feed 65
            feed 256 = BAD
            feed -1 = BAD
            """);
        e.edge(6, "how many it has: from 1 on again when it was read", """
            times 100 feed 65
            lake = -1000100
            count 7 = 0
            feed 65 = 1
            """);
        e.edge(6, "behind the tape: what was refused is not on it", """
            feed 108 = 1
            feed 300 = BAD
            feed 50 = 2
            tell ,1;r0;r0;c1,0; = 1
            """);
        e.edge(6, "behind a full tape comes nothing", """
            tell l2,1;r0;r0;c1,0; = 1
            tell l2,1;r0;r0;c1,0;d1,0; = 2
            feed 108
            times 99 feed 108
            feed 59 = FULL
            lake = -1000101
            fault = 1
            """);
    }

    private static void numbersOfTheLaw(Edges e) {
        whole(e, "RUNGS 2, ROPE 1: the least", "l2,1;r0;r0;c1,0;", 1);
        whole(e, "RUNGS 9, ROPE 99: the greatest", "l9,99;r1;r2;r3;r4;r5;r6;r7;r8;r9;c1,0;", 1);
        faulty(e, "2 a NUMBER that is not as told: 1 RUNG", "l1,1;r0;c1,0;", 1, 2);
        faulty(e, "2 a NUMBER that is not as told: 0 RUNGS", "l0,1;c1,0;", 1, 2);
        faulty(e, "2 a NUMBER that is not as told: 10 RUNGS", "l10,1;r0;", 1, 2);
        faulty(e, "2 a NUMBER that is not as told: 99 RUNGS", "l99,1;r0;", 1, 2);
        faulty(e, "2 a NUMBER that is not as told: ROPE 0", "l2,0;r0;r0;c1,0;", 3, 2);
        faulty(e, "2 a NUMBER that is not as told: ROPE 00", "l2,00;r0;r0;c1,0;", 3, 2);
    }

    private static void numbersOfRungsAndGoers(Edges e) {
        e.edge(7, "STRENGTH 0 to 99", """
            tell l2,1;r0;r99;c1,0; = 1
            rung 0 0 = 0
            rung 1 0 = 99
            """);
        e.edge(7, "WEIGHT 1 to 30, START 0 to 30", """
            tell l2,1;r0;r0;c1,0;d30,30; = 2
            goer 0 1 = 1
            goer 0 2 = 0
            goer 1 1 = 30
            goer 1 2 = 30
            """);
        faulty(e, "2 a NUMBER that is not as told: WEIGHT 0", HEAD + "c0,0;", 12, 2);
        faulty(e, "2 a NUMBER that is not as told: WEIGHT 31", HEAD + "c31,0;", 12, 2);
        faulty(e, "2 a NUMBER that is not as told: WEIGHT 99", HEAD + "c99,0;", 12, 2);
        faulty(e, "2 a NUMBER that is not as told: START 31", HEAD + "c1,31;", 14, 2);
        faulty(e, "2 a NUMBER that is not as told: START 99", HEAD + "c1,99;", 14, 2);
        faulty(e, "2 a NUMBER that is not as told: of the last GOER", HEAD + "c1,0;d1,0;k1,0;f1,0;g1,0;c1,31;", 39, 2);
        faulty(e, "a START of a GOER is not a WEIGHT: 0 is none", HEAD + "c1,0;c0,1;", 17, 2);
        e.edge(7, "SORT: c, d, k, f, g", """
            tell l2,1;r0;r0;c1,0;d1,0;k1,0;f1,0;g1,0; = 5
            kind 0 = 1
            kind 1 = 2
            kind 2 = 3
            kind 3 = 4
            kind 4 = 5
            """);
    }

    private static void howMany(Edges e) {
        faulty(e, "rungs just as many as told: none, a goer", LAW + "c1,0;", 5, 1);
        faulty(e, "rungs just as many as told: one fewer, a goer", LAW + "r0;c1,0;", 8, 1);
        faulty(e, "3 a rung more than there is room for (its letter)", HEAD + "r0;c1,0;", 11, 3);
        faulty(e, "3 a rung more: its letter alone", HEAD + "r", 11, 3);
        faulty(e, "3 a tenth rung", "l9,9;r1;r1;r1;r1;r1;r1;r1;r1;r1;r1;c1,0;", 32, 3);
        whole(e, "goers: 6 at most", HEAD + SIX, 6);
        faulty(e, "3 a goer more than there is room for (its letter)", HEAD + SIX + "c1,0;", 41, 3);
        faulty(e, "3 a goer more: of each SORT: d", HEAD + SIX + "d", 41, 3);
        faulty(e, "3 a goer more: of each SORT: k", HEAD + SIX + "k", 41, 3);
        faulty(e, "3 a goer more: of each SORT: f", HEAD + SIX + "f", 41, 3);
        faulty(e, "3 a goer more: of each SORT: g", HEAD + SIX + "g", 41, 3);
        faulty(e, "goers: one at least", HEAD, 11, 1);
        whole(e, "the longest text: 84 bytes", "l9,99;r99;r99;r99;r99;r99;r99;r99;r99;r99;"
            + "c30,30;d30,30;k30,30;f30,30;g30,30;c30,30;", 6);
    }

    private static void tokens(Edges e) {
        faulty(e, "1 cannot stand there: letters are each by itself", HEAD + "cc1,0;", 12, 1);
        faulty(e, "1 cannot stand there: a SORT that there is none of: a", HEAD + "a1,0;", 11, 1);
        faulty(e, "1 cannot stand there: a SORT that there is none of: z", HEAD + "z1,0;", 11, 1);
        faulty(e, "1 cannot stand there: a second law", HEAD + "l2,1;", 11, 1);
        faulty(e, "1 cannot stand there: a law behind all", HEAD + "c1,0;l2,1;", 16, 1);
        faulty(e, "1 cannot stand there: no law", "r0;r0;c1,0;", 0, 1);
        faulty(e, "1 cannot stand there: a NUMBER first", "2,1;", 0, 1);
        faulty(e, "1 cannot stand there: a SIGN first", ";l2,1;", 0, 1);
        faulty(e, "1 cannot stand there: no RUNGS", "l,1;", 1, 1);
        faulty(e, "1 cannot stand there: ; for ,", "l2;1;", 2, 1);
        faulty(e, "1 cannot stand there: , for ;", "l2,1,", 4, 1);
        faulty(e, "1 cannot stand there: no ROPE", "l2,;", 3, 1);
        faulty(e, "1 cannot stand there: no STRENGTH", LAW + "r;", 6, 1);
        faulty(e, "1 cannot stand there: r for STRENGTH", LAW + "rr0;c1,0;", 6, 1);
        faulty(e, "1 cannot stand there: r for the last STRENGTH", LAW + "r0;rr0;c1,0;", 9, 1);
        faulty(e, "1 cannot stand there: a SORT for the last STRENGTH", LAW + "r0;rc1,0;", 9, 1);
        faulty(e, "1 cannot stand there: , behind STRENGTH", LAW + "r0,", 7, 1);
        faulty(e, "1 cannot stand there: no WEIGHT", HEAD + "c,0;", 12, 1);
        faulty(e, "1 cannot stand there: ; behind WEIGHT", HEAD + "c1;", 13, 1);
        faulty(e, "1 cannot stand there: no START", HEAD + "c1,;", 14, 1);
        faulty(e, "1 cannot stand there: , behind START", HEAD + "c1,0,", 15, 1);
        faulty(e, "1 cannot stand there: two ; ", HEAD + "c1,0;;", 16, 1);
        faulty(e, "1 cannot stand there: a NUMBER behind all", HEAD + "c1,0;7", 16, 1);
        faulty(e, "1 is none: L is no letter a to z", "L2,1;", 0, 1);
        faulty(e, "1 is none: C is no letter a to z", HEAD + "C1,0;", 11, 1);
        faulty(e, "1 is none: a sign ahead of 0", "l/,1;", 1, 1);
        faulty(e, "1 is none: a sign behind 9", "l:,1;", 1, 1);
        faulty(e, "1 is none: a sign of less", "l-2,1;", 1, 1);
        faulty(e, "1 is none: a point", "l2.1;", 2, 1);
        faultyByte(e, "1 is none: a blank, nothing else is there", "l2,", 32);
        faultyByte(e, "1 is none: a blank behind all", HEAD + "c1,0;", 32);
        faultyByte(e, "1 is none: an end of a line behind all", HEAD + "c1,0;", 10);
        faultyByte(e, "1 is none: byte 0 is not the end", HEAD + "c1,0;", 0);
        faultyByte(e, "1 is none: byte 255", HEAD + "c1,0;", 255);
        faultyByte(e, "1 is none: byte 255 for a NUMBER", "l", 255);
        faultyByte(e, "1 is none: byte 254 for a NUMBER", "l", 254);
        faultyByte(e, "1 is none: byte 253 for a NUMBER", "l", 253);
        faultyByte(e, "1 is none: a letter with its highest bit", "", 'l' + 128);
        faultyByte(e, "1 is none: a figure with its highest bit", "l", '2' + 128);
    }

    private static void figures(Edges e) {
        e.edge(7, "figures, 2 at most: 02 is 2", """
            tell l02,09;r00;r07;c01,00; = 1
            count 1 = 2
            rung 0 0 = 0
            rung 1 0 = 7
            goer 0 1 = 1
            goer 0 2 = 0
            """);
        faulty(e, "1 a run of three figures, at its first: RUNGS", "l002,1;", 1, 1);
        faulty(e, "1 a run of three figures, at its first: ROPE", "l2,100;", 3, 1);
        faulty(e, "1 a run of three figures, at its first: STRENGTH", LAW + "r100;", 6, 1);
        faulty(e, "1 a run of three figures, at its first: STRENGTH 000", LAW + "r000;", 6, 1);
        faulty(e, "1 a run of three figures, at its first: WEIGHT", HEAD + "c001,0;", 12, 1);
        faulty(e, "1 a run of three figures, at its first: START", HEAD + "c1,000;", 14, 1);
        faulty(e, "1 a run of three figures, the last on the tape", HEAD + "c1,000", 14, 1);
        faulty(e, "1 a run of four figures", "l0002,1;", 1, 1);
        faulty(e, "1 a run of many figures wraps around to nothing", "l4294967298,1;", 1, 1);
        faulty(e, "1 a run of figures where no NUMBER can stand", HEAD + "c1,0;123", 16, 1);
        faulty(e, "a NUMBER ends with the tape", HEAD + "c1,30", 16, 1);
        e.edge(7, "1 a run of figures up to the last of 100 bytes", """
            feed 108
            times 99 feed 49
            lake = -1000101
            fault = 1
            """);
    }

    private static void ends(Edges e) {
        e.edge(7, "1 the end: how many bytes there are: none", """
            lake = -1000100
            fault = 1
            lake = -1000100
            """);
        faulty(e, "1 the end: behind l", "l", 1, 1);
        faulty(e, "1 the end: behind RUNGS", "l2", 2, 1);
        faulty(e, "1 the end: behind RUNGS of two figures", "l02", 3, 1);
        faulty(e, "1 the end: behind the ,", "l2,", 3, 1);
        faulty(e, "1 the end: behind ROPE", "l2,1", 4, 1);
        faulty(e, "1 the end: behind the law", LAW, 5, 1);
        faulty(e, "1 the end: behind r", LAW + "r", 6, 1);
        faulty(e, "1 the end: behind STRENGTH", LAW + "r0", 7, 1);
        faulty(e, "1 the end: behind one rung of two", LAW + "r0;", 8, 1);
        faulty(e, "1 the end: behind a SORT", HEAD + "c", 12, 1);
        faulty(e, "1 the end: behind WEIGHT", HEAD + "c1", 13, 1);
        faulty(e, "1 the end: behind the , of a goer", HEAD + "c1,", 14, 1);
        faulty(e, "1 the end: behind START", HEAD + "c1,0", 15, 1);
        faulty(e, "1 the end: within a second goer", HEAD + "c1,0;d", 17, 1);
        faulty(e, "1 the end: within the sixth goer", HEAD + "c1,0;d1,0;k1,0;f1,0;g1,0;c1,0", 40, 1);
    }

    private static void firstAndLeast(Edges e) {
        faulty(e, "the first TOKEN that has one: 2 ahead of a later 1", "l1,?", 1, 2);
        faulty(e, "the first TOKEN that has one: 3 ahead of a later 1", HEAD + "r?", 11, 3);
        faulty(e, "the first TOKEN that has one: 1 ahead of a later 2", "l2;0;", 2, 1);
        faulty(e, "the first TOKEN that has one: 2 ahead of a later 3", LAW + "r0;r0;c0,0;" + SIX + "c1,0;", 12, 2);
        faulty(e, "the first TOKEN that has one: 3 ahead of its NUMBERS", HEAD + SIX + "c99,99;", 41, 3);
        faulty(e, "its first byte: a NUMBER of two figures", HEAD + "c31,0;", 12, 2);
        faulty(e, "of one TOKEN the least: three figures that are too many as well", "l999,1;", 1, 1);
        faulty(e, "of one TOKEN the least: a rung behind a goer", HEAD + "c1,0;r0;", 16, 1);
        faulty(e, "of one TOKEN the least: a rung behind six goers", HEAD + SIX + "r0;", 41, 1);
        faulty(e, "of one TOKEN the least: a NUMBER that is too great where none can stand", HEAD + "99", 11, 1);
        faulty(e, "1 cannot stand there, though six goers are there: a SIGN", HEAD + SIX + ";", 41, 1);
        faulty(e, "1 cannot stand there, though six goers are there: no SORT", HEAD + SIX + "a", 41, 1);
        faulty(e, "1 cannot stand there, though six goers are there: a NUMBER", HEAD + SIX + "1", 41, 1);
    }

    private static void whatStays(Edges e) {
        e.edge(7, "a FAULT: all stays", """
            tell l2,30;r20;r9;c5,0;d3,1; = 2
            hours 1 = 0
            hold 1 1 = 2
            image 1 = 1
            ask 0 0 = 6
            row 3 1 5 = 5
            tell l9,99;r1;r2;q = -1000112
            count 1 = 2
            count 2 = 2
            count 3 = 1
            count 6 = 2
            rung 0 0 = 19
            stand 4 = 2
            trace 0 = 11
            """);
        e.edge(7, "a FAULT in the last TOKEN: all stays", """
            tell l2,30;r20;r9;c5,0; = 1
            tell l3,9;r1;r1;r1;k7,7;f8,8; = 2
            tell l2,30;r20;r9;c5,0;d9,0;c5,0, = -1000127
            count 1 = 3
            count 2 = 2
            kind 1 = 4
            goer 1 2 = 8
            """);
        e.edge(7, "The tape, empty then: by a FAULT, too", """
            tell q = -1000100
            count 7 = 0
            tell l2,1;r0;r0;c1,0; = 1
            count 7 = 0
            lake = -1000100
            """);
        e.edge(7, "stands in place of the one before: HOUR 0, all are in the BOAT, nobody FELL", """
            tell l3,90;r20;r9;r4;c5,0;d9,0;f8,0; = 3
            hours 4
            count 5 = 4
            hold 2 1 = 4
            tell l3,90;r20;r9;r4;c5,0;d9,0;f8,0; = 3
            count 3 = 0
            stand 0 = 0
            stand 1 = 7
            count 5 = 0
            goer 0 6 = 0
            stand 4 = 0
            goer 2 4 = 1
            rung 0 0 = 20
            """);
        e.edge(7, "on the way UP at first, though one before him went down", """
            tell l2,30;r9;r9;f5,0; = 1
            hours 3 = 0
            goer 0 4 = 0
            tell l2,30;r9;r9;f5,0; = 1
            goer 0 4 = 1
            """);
        e.edge(7, "no ACT can be undone", """
            tell l2,30;r20;r9;c5,0; = 1
            hours 3 = 1
            tell l2,30;r20;r9;c5,0; = 1
            count 6 = 0
            undo = STATE
            """);
        e.edge(7, "in place of one that had more: GOERS, RUNGS there are none of", """
            tell l9,99;r9;r9;r9;r9;r9;r9;r9;r9;r9;c1,0;d1,0;k1,0;f1,0;g1,0;c1,0; = 6
            tell l2,1;r3;r4;k2,5; = 1
            count 1 = 2
            count 2 = 1
            goer 1 0 = BAD
            rung 2 0 = BAD
            stand 1 = 1
            stand 3 = 0
            """);
    }

    private static void fault(Edges e) {
        e.edge(8, "0 before one", """
            fault = 0
            tell l2,1;r0;r0;c1,0; = 1
            fault = 0
            """);
        e.edge(8, "The number of the latest FAULT", """
            tell q = -1000100
            fault = 1
            tell l1 = -1000101
            fault = 2
            tell l2,1;r0;r0;r = -1000111
            fault = 3
            lake = -1000100
            fault = 1
            """);
        e.edge(8, "of the latest FAULT: a LAKE that is read is none", """
            tell l1 = -1000101
            tell l2,1;r0;r0;c1,0; = 1
            fault = 2
            """);
        e.edge(8, "a refused byte is no FAULT", """
            feed 256 = BAD
            fault = 0
            """);
    }
}
