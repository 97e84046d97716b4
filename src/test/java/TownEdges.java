/** Edges of TOWNS, BONES and PROOFS, and of what is told of them: promises 1 to 4, 17 and 31. */
final class TownEdges {
    private TownEdges() {
    }

    static void all(Edges edges) {
        newObject(edges);
        town(edges);
        bone(edges);
        boneAtFirst(edges);
        prove(edges);
        of(edges);
        about(edges);
        aboutTowns(edges);
    }

    private static void newObject(Edges edges) {
        edges.at(1, "No TOWNS;", """
                about 0 => 0
                about 10 => -2
                about 20 => -2
                bone 0 1 0 =! -1
                seen 0 0 1 0 =! -1
                burn 0 =! -1
                round 1 -1 =! -1
                saints 1 -1 =! -2
                pilgrims 0 1 1 0 =! -1
                """);
        edges.at(1, "THE IMAGE is this.", """
                back => 0
                about 0 => 0
                """, Scenes.RICH.replace("image\n", "") + """
                back => 0
                about 0 => 0
                about 1 => 0
                about 2 => 0
                about 3 => 0
                about 4 => -1
                about 5 => 0
                about 6 => 0
                about 7 => 1
                about 8 => 10
                of 0 0 =! -2
                undo =! -1
                town 1 1 => 0
                """);
        edges.at(1, "(at first 0)", "about 2 => 0\nimage => 0\nback => 0\n");
        edges.at(1, "THE TEXT (told; at first none)", "about 4 => -1\nabout 3 => 0\n");
        edges.at(1, "at first 1)", "about 7 => 1\n");
        edges.at(1, "at first 10)", "about 8 => 10\n");
        edges.at(1, "`NONE = -1`: None.", """
                about 4 => -1
                by -1 => 1
                by -2 =! 0
                """);
    }

    private static void town(Edges edges) {
        edges.at(2, "TOWNS 0 .. 9 (told one by one)", """
                town 7 7 => 0
                town 7 7 => 1
                7 * town 7 7 => 8
                about 0 => 9
                town 8 8 => 9
                about 0 => 10
                town 7 7 =! -1
                about 0 => 10
                """);
        edges.at(2, "at x, y (0 .. 99 each)", """
                town -1 0 =! -1
                town 0 -1 =! -1
                town 0 0 => 0
                town 100 99 =! -1
                town 99 100 =! -1
                town 99 99 => 1
                town 0 99 => 2
                town 99 0 => 3
                round 3 -1 => 396
                round 5 -1 => 198
                """);
        edges.at(2, "MILES between two: the differences of x and of y together.", """
                town 0 99
                town 99 0
                town 0 99
                town 98 0
                round 3 -1 => 396
                round 5 -1 => 0
                round 10 -1 => 2
                round 9 -1 => 394
                """);
        edges.others(2, "A TOWN: its number. NONE for others", "", "town 5 5", -1, "0 .. 99", "0 .. 99");
        edges.others(2, "A TOWN: its number. NONE for others", Scenes.RICH, "town 5 5", -1, "0 .. 99", "0 .. 99");
        edges.at(2, "or if there are 10.", Scenes.towns(9) + """
                town 99 99 => 9
                town 0 0 =! -1
                town 99 99 =! -1
                town -1 100 =! -1
                """, Scenes.towns(9) + """
                image
                town 5 5 => 9
                town 5 5 =! -1
                back
                town 6 6 => 9
                """);
    }

    private static void bone(Edges edges) {
        edges.at(3, "BONES 0 .. 15 (told one by one)", "town 0 0\n" + """
                bone 1 1 0 => 0
                bone 1 1 0 => 1
                13 * bone 1 1 0 => 14
                about 1 => 15
                bone 2 2 0 => 15
                about 1 => 16
                of 15 0 => 2
                bone 1 1 0 =! -1
                of 16 0 =! -2
                """);
        edges.at(3, "KIND (0 .. 19)", Scenes.TOWNS + """
                bone -1 5 0 =! -1
                bone 0 5 0 => 0
                bone 19 5 0 => 1
                bone 20 5 0 =! -1
                of 0 0 => 0
                of 1 0 => 19
                """);
        edges.at(3, "WEIGHT (1 .. 999)", Scenes.TOWNS + """
                bone 5 0 0 =! -1
                bone 5 1 0 => 0
                bone 5 999 0 => 1
                bone 5 1000 0 =! -1
                of 0 1 => 1
                of 1 1 => 999
                """);
        edges.at(3, "an OWNER (a TOWN)", "bone 5 5 0 =! -1\n" + Scenes.TOWNS + """
                bone 5 5 -1 =! -1
                bone 5 5 0 => 0
                bone 5 5 2 => 1
                bone 5 5 3 =! -1
                town 5 5
                bone 5 5 3 => 2
                of 0 2 => 0
                of 1 2 => 2
                of 2 2 => 3
                """, Scenes.towns(10) + """
                bone 5 5 9 => 0
                bone 5 5 10 =! -1
                of 0 2 => 9
                """);
        edges.others(3, "A BONE: its number. NONE for others", Scenes.TOWNS, "bone 5 5 1", -1, "0 .. 19", "1 .. 999", "0 .. 2");
        edges.others(3, "A BONE: its number. NONE for others", Scenes.RICH, "bone 5 5 1", -1, "0 .. 19", "1 .. 999", "0 .. 2");
        edges.at(3, "or if there are 16.", Scenes.TOWNS + Scenes.bones(15) + """
                bone 19 999 2 => 15
                bone 0 1 0 =! -1
                bone 19 999 2 =! -1
                bone -1 0 3 =! -1
                """, Scenes.TOWNS + Scenes.bones(15) + """
                image
                bone 3 3 0 => 15
                bone 3 3 0 =! -1
                back
                bone 4 4 0 => 15
                of 15 0 => 4
                """);
    }

    private static void boneAtFirst(Edges edges) {
        edges.at(3, "AT which TOWN it is (at first its OWNER)", Scenes.TOWNS + """
                bone 5 5 2 => 0
                of 0 3 => 2
                about 22 => 1
                about 20 => 0
                """);
        edges.at(3, "DUE (a YEAR; NONE: it is not lent)", Scenes.BONES + """
                of 0 4 => -1
                lend 0 1 1 => 1
                of 0 4 => 1
                of 1 4 => -1
                pass 1
                of 0 4 => -1
                """);
        // The place of a BONE that is no more must not show in one that is told behind it.
        edges.at(3, "A BONE: its number.", Scenes.BONES + """
                image
                bone 9 9 0 => 3
                lend 3 1 9
                prove 1 3
                back
                bone 8 8 2 => 3
                of 3 0 => 8
                of 3 1 => 8
                of 3 2 => 2
                of 3 3 => 2
                of 3 4 => -1
                of 3 5 => 0
                """);
    }

    private static void prove(Edges edges) {
        edges.at(4, "PROOFS: which TOWNS have one of which BONES (at first none).", Scenes.BONES + """
                of 0 5 => 0
                of 2 5 => 0
                about 10 => 0
                about 12 => 0
                """);
        edges.at(4, "A TOWN has a PROOF of a BONE: true.", Scenes.FULL + """
                prove 0 0 => 1
                prove 9 15 => 1
                prove 9 0 => 1
                prove 0 15 => 1
                about 10 => 2
                about 19 => 2
                of 0 5 => 2
                of 15 5 => 2
                of 14 5 => 0
                about 18 => 0
                """);
        edges.others(4, "False for others, and if it has one.", Scenes.BONES, "prove 1 1", 0, "0 .. 2", "0 .. 2");
        edges.others(4, "False for others, and if it has one.", Scenes.RICH, "prove 2 1", 0, "0 .. 2", "0 .. 2");
        edges.others(4, "False for others, and if it has one.", Scenes.FULL, "prove 4 4", 0, "0 .. 9", "0 .. 15");
        edges.at(4, "and if it has one.", Scenes.BONES + """
                prove 1 1 => 1
                prove 1 1 =! 0
                prove 2 1 => 1
                prove 1 2 => 1
                about 5 => 3
                burn 1 => 2
                prove 1 1 => 1
                undo
                prove 1 1 => 1
                prove 1 1 =! 0
                """, Scenes.towns(10) + Scenes.bones(1) + """
                prove 0 0 => 1
                prove 1 0 => 1
                prove 2 0 => 1
                prove 3 0 => 1
                prove 4 0 => 1
                prove 5 0 => 1
                prove 6 0 => 1
                prove 7 0 => 1
                prove 8 0 => 1
                of 0 5 => 9
                prove 9 0 => 1
                of 0 5 => 10
                prove 9 0 =! 0
                """);
    }

    private static void of(Edges edges) {
        edges.at(17, "Of a BONE: 0 KIND, 1 WEIGHT, 2 OWNER, 3 AT, 4 DUE (NONE), 5 how many TOWNS have PROOFS", Scenes.RICH + """
                of 0 -1 =! -2
                of 0 0 => 3
                of 0 1 => 494
                of 0 2 => 0
                of 0 3 => 1
                of 0 4 => 9
                of 1 4 => -1
                of 0 5 => 1
                of 1 5 => 0
                of 0 7 =! -2
                """);
        edges.at(17, "6 whether it is HOLY (1, 0).", Scenes.BONES + """
                of 0 6 => 1
                told holy weight>400;
                of 1 6 => 1
                by 0
                of 0 6 => 1
                of 1 6 => 0
                of 2 6 => 0
                told worn 1;
                by 1
                of 1 6 => 1
                """);
        edges.others(17, "-2 for others.", Scenes.RICH, "of 1 1", -2, "0 .. 2", "0 .. 6");
        edges.others(17, "-2 for others.", Scenes.FULL, "of 1 1", -2, "0 .. 15", "0 .. 6");
        edges.at(17, "-2 for others.", "of 0 0 =! -2\nof -1 0 =! -2\n", Scenes.TOWNS + "of 0 6 =! -2\nof 0 3 =! -2\n");
    }

    private static void about(Edges edges) {
        edges.at(31, "0 TOWNS, 1 BONES, 2 YEAR, 3 TEXTS, 4 THE TEXT (NONE), 5 STEPS that can be taken back, 6 SEEN, 7 LOSS,"
                + " 8 PACE, 9 bytes of the tape", Scenes.RICH + """
                about -1 =! -2
                about 0 => 3
                about 1 => 3
                about 2 => 3
                about 3 => 2
                about 4 => 0
                about 5 => 7
                about 6 => 3
                about 7 => 2
                about 8 => 20
                about 9 => 13
                """, Scenes.FULL + year(999) + """
                told worn 1;
                told worn 2;
                told worn 3;
                told worn 4;
                by 3
                rules 9 99
                15 * feed 1 2 3 4 5
                12 * seen 0 0 1 0
                20 * pass 0
                about 0 => 10
                about 1 => 16
                about 2 => 999
                about 3 => 4
                about 4 => 3
                about 5 => 20
                about 6 => 12
                about 7 => 9
                about 8 => 99
                about 9 => 300
                """);
        edges.others(31, "-2 for others.", Scenes.FULL, "about 7", -2, "0 .. 29");
        edges.others(31, "-2 for others.", Scenes.RICH, "about 7", -2, "0 .. 12");
        edges.at(31, "-2 for others.", "about 9 => 0\nabout 10 =! -2\nabout 19 =! -2\nabout 20 =! -2\nabout 29 =! -2\nabout 30 =! -2\n");
    }

    private static String year(int year) {
        return Scenes.year(year);
    }

    private static void aboutTowns(Edges edges) {
        edges.at(31, "10 + town: how many PROOFS it has", Scenes.BONES + """
                prove 0 1
                prove 2 0
                prove 2 1
                prove 2 2
                about 10 => 1
                about 11 => 0
                about 12 => 3
                about 13 =! -2
                about 19 =! -2
                town 9 9
                about 13 => 0
                about 14 =! -2
                """, Scenes.FULL + """
                prove 9 0
                prove 9 15
                prove 0 7
                about 10 => 1
                about 18 => 0
                about 19 => 2
                """);
        edges.at(31, "20 + town: how many BONES are AT it.", Scenes.BONES + """
                steal 0 2
                about 20 => 0
                about 21 => 1
                about 22 => 2
                about 23 =! -2
                about 29 =! -2
                lend 2 1 1
                about 21 => 2
                about 22 => 1
                town 9 9
                about 23 => 0
                about 24 =! -2
                """, Scenes.FULL + """
                steal 15 9
                about 20 => 15
                about 28 => 0
                about 29 => 1
                about 30 =! -2
                """);
    }
}
