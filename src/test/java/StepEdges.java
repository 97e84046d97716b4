/** Edges of STEPS by hand, and of taking them back: promises 10 to 14 and 16. */
final class StepEdges {
    private StepEdges() {
    }

    static void all(Edges edges) {
        lend(edges);
        lendByYear(edges);
        swap(edges);
        steal(edges);
        burn(edges);
        pass(edges);
        worn(edges);
        due(edges);
        steps(edges);
        undo(edges);
        toldSince(edges);
    }

    private static void lend(Edges edges) {
        edges.at(10, "LENT for n years (1 .. 99) to a TOWN", Scenes.BONES + """
                lend 0 1 0 =! -1
                lend 0 1 1 => 1
                lend 1 0 100 =! -1
                lend 1 0 99 => 99
                """);
        edges.at(10, "a BONE that is AT its OWNER and not lent", Scenes.BONES + """
                lend 0 1 5 => 5
                lend 0 2 1 =! -1
                lend 0 0 1 =! -1
                swap 0 2
                of 0 3 => 2
                lend 0 1 1 =! -1
                lend 2 0 1 =! -1
                """, Scenes.BONES + """
                lend 0 1 5
                bone 4 4 0
                swap 0 3
                of 0 3 => 0
                of 0 2 => 0
                of 0 4 => 5
                lend 0 2 1 =! -1
                of 3 3 => 1
                of 3 4 => -1
                lend 3 2 1 =! -1
                """, Scenes.BONES + """
                lend 0 1 2
                pass 1
                lend 0 1 1 =! -1
                pass 1
                lend 0 1 1 => 3
                """, Scenes.BONES + """
                lend 0 1 2
                steal 0 2
                lend 0 2 1 =! -1
                lend 0 0 1 => 1
                """);
        edges.at(10, "it is AT that TOWN (another one), DUE at YEAR + n.", Scenes.BONES + """
                lend 0 0 5 =! -1
                lend 0 2 5 => 5
                of 0 3 => 2
                of 0 2 => 0
                of 0 4 => 5
                of 0 1 => 500
                pass 2
                lend 1 1 5 =! -1
                lend 1 0 5 => 7
                of 1 4 => 7
                """);
        edges.others(10, "A BONE is LENT: its DUE. NONE for others", Scenes.TOWNS + Scenes.bones(3), "lend 1 1 7", -1,
                "0 .. 2", "1 .. 2", "1 .. 99");
        edges.others(10, "A BONE is LENT: its DUE. NONE for others", Scenes.RICH + "steal 1 0\nsteal 2 0\n", "lend 1 1 7", -1,
                "1 .. 2", "1 .. 2", "1 .. 99");
        edges.others(10, "A BONE is LENT: its DUE. NONE for others", Scenes.FULL, "lend 0 1 7", -1, "0 .. 15", "1 .. 9", "1 .. 99");
    }

    private static void lendByYear(Edges edges) {
        edges.at(10, "and beyond 999.", Scenes.BONES + Scenes.year(900) + """
                lend 0 1 99 => 999
                pass 1
                lend 1 0 99 =! -1
                lend 1 0 98 => 999
                """, Scenes.BONES + Scenes.year(998) + """
                lend 0 1 2 =! -1
                lend 0 1 99 =! -1
                lend 0 1 1 => 999
                pass 1
                lend 0 1 1 =! -1
                of 0 3 => 0
                """, Scenes.BONES + Scenes.year(999) + """
                lend 0 1 1 =! -1
                lend 0 1 0 =! -1
                lend 0 1 -1 =! -1
                lend 0 1 MAX =! -1
                lend 0 1 MIN =! -1
                """);
    }

    private static void swap(Edges edges) {
        edges.at(11, "two unlike BONES", Scenes.BONES + """
                swap 0 0 =! 0
                swap 2 2 =! 0
                swap 0 2 => 1
                """);
        edges.at(11, "that are AT unlike TOWNS", Scenes.BONES + """
                bone 9 9 0
                swap 0 3 =! 0
                swap 3 0 =! 0
                swap 3 1 => 1
                swap 1 0 =! 0
                swap 0 3 => 1
                """, """
                town 5 5
                town 5 5
                bone 1 1 0
                bone 1 1 1
                swap 0 1 => 1
                of 0 3 => 1
                """);
        edges.at(11, "change places (AT alone).", Scenes.BONES + """
                prove 0 0
                lend 0 1 5
                swap 0 2 => 1
                of 0 3 => 2
                of 2 3 => 1
                of 0 0 => 3
                of 2 0 => 7
                of 0 1 => 500
                of 2 1 => 300
                of 0 2 => 0
                of 2 2 => 2
                of 0 4 => 5
                of 2 4 => -1
                of 0 5 => 1
                of 2 5 => 0
                of 1 3 => 1
                """);
        edges.others(11, "SWAPPED: true. False for others.", Scenes.BONES, "swap 0 1", 0, "any", "1 .. 2");
        edges.others(11, "SWAPPED: true. False for others.", Scenes.BONES, "swap 2 0", 0, "1 .. 2", "any");
        edges.others(11, "SWAPPED: true. False for others.", Scenes.RICH, "swap 1 0", 0, "1 .. 1", "any");
        edges.others(11, "SWAPPED: true. False for others.", Scenes.RICH, "swap 0 1", 0, "any", "1 .. 1");
        edges.at(11, "SWAPPED: true. False for others.", Scenes.towns(10) + Scenes.bones(15) + """
                bone 1 1 9
                swap 16 0 =! 0
                swap 0 16 =! 0
                swap 15 0 => 1
                swap 0 15 => 1
                """, "swap 0 1 =! 0\nswap 0 0 =! 0\n");
    }

    private static void steal(Edges edges) {
        edges.at(12, "a BONE that is AT another one", Scenes.BONES + """
                steal 0 0 =! 0
                steal 0 2 => 1
                steal 0 2 =! 0
                lend 1 0 5
                steal 1 0 =! 0
                steal 1 1 => 1
                """);
        edges.at(12, "is AT it, which is its OWNER; it is not lent.", Scenes.BONES + """
                lend 0 1 5
                steal 0 2 => 1
                of 0 3 => 2
                of 0 2 => 2
                of 0 4 => -1
                pass 5
                of 0 3 => 2
                """, Scenes.BONES + """
                lend 0 1 5
                steal 0 0 => 1
                of 0 3 => 0
                of 0 2 => 0
                of 0 4 => -1
                of 0 1 => 500
                of 0 0 => 3
                of 1 2 => 1
                """);
        edges.others(12, "STOLEN: true. False for others.", Scenes.TOWNS + Scenes.bones(3), "steal 1 1", 0, "0 .. 2", "1 .. 2");
        edges.others(12, "STOLEN: true. False for others.", Scenes.RICH, "steal 1 0", 0, "0 .. 2", "0 .. 1");
        edges.others(12, "STOLEN: true. False for others.", Scenes.FULL, "steal 1 9", 0, "0 .. 15", "1 .. 9");
    }

    private static void burn(Edges edges) {
        StringBuilder all = new StringBuilder(Scenes.FULL);
        for (int bone = 0; bone < 16; bone++) {
            all.append("prove 9 ").append(bone).append('\n');
        }
        edges.at(13, "BURNT: all PROOFS of a TOWN are gone.", all + """
                prove 8 15
                prove 0 0
                about 19 => 16
                burn 9 => 16
                about 19 => 0
                about 18 => 1
                about 10 => 1
                of 15 5 => 1
                of 0 5 => 1
                of 1 5 => 0
                """);
        edges.at(13, "BURNT: how many PROOFS there were.", Scenes.BONES + """
                burn 0 => 0
                about 5 => 1
                prove 0 2
                burn 0 => 1
                burn 0 => 0
                about 5 => 4
                """);
        edges.others(13, "NONE for others.", Scenes.BONES, "burn 1", -1, "0 .. 2");
        edges.others(13, "NONE for others.", Scenes.RICH, "burn 1", -1, "0 .. 2");
        edges.others(13, "NONE for others.", Scenes.FULL, "burn 1", -1, "0 .. 9");
    }

    private static void pass(Edges edges) {
        edges.at(14, "PASSED n years (0 .. 99; not beyond 999)", Scenes.BONES + """
                pass -1 =! -1
                pass 0 => 0
                about 5 => 1
                pass 99 => 99
                pass 100 =! -1
                pass 1 => 100
                """);
        edges.at(14, "not beyond 999", Scenes.BONES + Scenes.year(900) + """
                pass 99 => 999
                pass 1 =! -1
                pass 99 =! -1
                pass MAX =! -1
                pass MIN =! -1
                pass 0 => 999
                """, Scenes.BONES + Scenes.year(901) + """
                pass 99 =! -1
                pass 98 => 999
                """);
        edges.at(14, "YEAR 0 .. 999", Scenes.year(999) + "pass 1 =! -1\nabout 2 => 999\nimage => 999\nback => 999\n");
        edges.at(14, "year by year YEAR is one more, then all BONES (by number)", Scenes.BONES + """
                told worn year;
                by 0
                pass 0 => 0
                of 0 1 => 500
                pass 1 => 1
                of 0 1 => 499
                pass 3 => 4
                of 0 1 => 490
                of 2 1 => 290
                """, Scenes.TOWNS + Scenes.bones(16) + """
                told worn 1;
                by 0
                pass 1
                of 0 1 => 99
                of 15 1 => 114
                """);
        edges.others(14, "PASSED: YEAR. NONE for others.", Scenes.RICH, "pass 5", -1, "0 .. 99");
        edges.others(14, "PASSED: YEAR. NONE for others.", "", "pass 5", -1, "0 .. 99");
    }

    private static void worn(Edges edges) {
        edges.at(14, "WEIGHT is less by worn (0 at least;", Scenes.BONES + """
                told worn 400-weight;
                by 0
                pass 1
                of 0 1 => 500
                of 1 1 => 400
                of 2 1 => 200
                """, Scenes.BONES + """
                told worn -1;
                by 0
                pass 99
                of 0 1 => 500
                """);
        edges.at(14, "the WEIGHT 1 at least;", "town 0 0\n" + """
                bone 0 4 0
                bone 0 5 0
                bone 0 6 0
                bone 0 7 0
                bone 0 1 0
                told worn 5;
                by 0
                pass 1
                of 0 1 => 1
                of 1 1 => 1
                of 2 1 => 1
                of 3 1 => 2
                of 4 1 => 1
                """, "town 0 0\nbone 0 999 0\n" + """
                told worn weight-1;
                told worn weight-2;
                told worn 1000*1000;
                by 1
                pass 1
                of 0 1 => 2
                by 0
                pass 1
                of 0 1 => 1
                by 2
                pass 99
                of 0 1 => 1
                """);
        edges.at(14, "without: not)", Scenes.BONES + """
                pass 99
                of 0 1 => 500
                told holy weight=1;
                by 0
                pass 99
                of 0 1 => 500
                told worn 1;
                pass 99
                of 0 1 => 500
                """);
    }

    private static void due(Edges edges) {
        edges.at(14, "one that is DUE now is AT its OWNER, not lent.", Scenes.BONES + """
                lend 0 1 3
                pass 2
                of 0 3 => 1
                of 0 4 => 3
                pass 1
                of 0 3 => 0
                of 0 4 => -1
                of 0 2 => 0
                """, Scenes.BONES + """
                lend 0 1 3
                lend 1 2 4
                lend 2 0 5
                pass 4
                of 0 3 => 0
                of 1 3 => 1
                of 2 3 => 0
                of 2 4 => 5
                """, Scenes.BONES + Scenes.year(998) + """
                lend 0 1 1 => 999
                of 0 3 => 1
                pass 1 => 999
                of 0 3 => 0
                """, Scenes.BONES + """
                told worn town;
                by 0
                lend 0 2 2
                pass 1
                of 0 1 => 498
                pass 1
                of 0 1 => 496
                pass 1
                of 0 1 => 496
                """);
    }

    private static void steps(Edges edges) {
        edges.at(16, "STEPS (all these and a PROOF that is told)", Scenes.BONES + """
                about 5 => 0
                lend 0 1 5
                about 5 => 1
                swap 0 2
                about 5 => 2
                steal 1 0
                about 5 => 3
                burn 0
                about 5 => 4
                pass 0
                about 5 => 5
                prove 1 1
                about 5 => 6
                town 1 1
                bone 1 1 1
                told worn 1;
                told worn
                by 0
                rules 2 2
                seen 0 0 5 5
                forget
                image
                about 5 => 6
                prove 1 1 =! 0
                about 5 => 6
                """);
        edges.at(16, "the latest 20 can be taken back", Scenes.BONES + """
                19 * pass 1
                about 5 => 19
                pass 1
                about 5 => 20
                pass 1
                about 5 => 20
                about 2 => 21
                undo => 19
                about 2 => 20
                18 * undo => 1
                undo => 0
                about 2 => 1
                undo =! -1
                about 2 => 1
                """, Scenes.BONES + """
                20 * pass 1
                20 * undo => 0
                about 2 => 0
                undo =! -1
                20 * pass 2
                about 5 => 20
                20 * undo => 0
                about 2 => 0
                """);
        // The last call is the 512th.
        edges.at(16, "An object is used for at most 512 calls after it has been made", Scenes.BONES + """
                480 * pass 1
                about 5 => 20
                20 * undo => 0
                about 2 => 460
                undo => -1
                about 5 => 0
                about 2 => 460
                of 2 1 => 300
                """);
    }

    private static void undo(Edges edges) {
        edges.at(16, "the latest first", Scenes.BONES + """
                told worn 9;
                by 0
                prove 2 1
                lend 0 1 5
                swap 0 2
                steal 1 0
                burn 2
                pass 7
                undo => 5
                about 2 => 0
                of 0 1 => 500
                of 0 4 => 5
                of 0 3 => 2
                about 12 => 0
                undo => 4
                about 12 => 1
                of 1 2 => 0
                undo => 3
                of 1 2 => 1
                of 1 3 => 1
                undo => 2
                of 0 3 => 1
                of 2 3 => 2
                undo => 1
                of 0 3 => 0
                of 0 4 => -1
                of 1 5 => 1
                undo => 0
                of 1 5 => 0
                undo =! -1
                about 4 => 0
                about 3 => 1
                """);
        edges.at(16, "The latest STEP is taken back: how many can be yet.", Scenes.BONES + """
                pass 1
                pass 1
                undo => 1
                burn 0
                undo => 1
                undo => 0
                about 2 => 0
                """, Scenes.BONES + """
                told pass 1;swap 0 with 1;pass 1;swap 0 with 0;
                played 0 => 3
                undo => 2
                about 2 => 1
                undo => 1
                of 0 3 => 0
                undo => 0
                """);
        edges.at(16, "NONE: there is none.", "undo =! -1\n", Scenes.BONES + "pass 1\nundo => 0\nundo =! -1\nundo =! -1\n",
                Scenes.RICH + "7 * undo => 0\nundo =! -1\n");
    }

    private static void toldSince(Edges edges) {
        edges.at(16, "(a BONE told since is then as it was told).", Scenes.BONES + """
                told worn 10;
                by 0
                pass 1
                bone 9 90 1
                of 3 1 => 90
                undo => 0
                about 1 => 4
                of 3 0 => 9
                of 3 1 => 90
                of 3 2 => 1
                of 3 3 => 1
                of 3 4 => -1
                of 3 5 => 0
                of 0 1 => 500
                """, Scenes.BONES + """
                told worn 10;
                by 0
                prove 0 0
                bone 9 90 1
                lend 3 2 4
                prove 2 3
                pass 4
                steal 3 0
                of 3 1 => 50
                undo => 4
                undo => 3
                of 3 1 => 90
                of 3 3 => 2
                of 3 4 => 4
                undo => 2
                undo => 1
                undo => 0
                of 3 1 => 90
                of 3 2 => 1
                of 3 3 => 1
                of 3 4 => -1
                of 3 5 => 0
                about 1 => 4
                """, Scenes.TOWNS + """
                pass 1
                16 * bone 9 90 1
                undo => 0
                about 1 => 16
                of 15 1 => 90
                of 15 3 => 1
                about 21 => 16
                """, Scenes.BONES + """
                pass 1
                town 50 50
                bone 1 1 3
                undo => 0
                about 0 => 4
                of 3 3 => 3
                """);
    }
}
