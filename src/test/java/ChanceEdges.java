/** Edges of CHANCE, ROUNDS, PILGRIMS and IMAGES: promises 26 to 30. */
final class ChanceEdges {
    private ChanceEdges() {
    }

    static void all(Edges edges) {
        chance(edges);
        lowestTerms(edges);
        round(edges);
        firstRound(edges);
        pilgrims(edges);
        draws(edges);
        image(edges);
        back(edges);
    }

    private static String odds(int n, int h, int c, long upper, long lower) {
        String call = "chance " + n + " " + h + " " + c;
        return call + " 0 => " + upper + "\n" + call + " 1 => " + lower + "\n";
    }

    private static void chance(Edges edges) {
        long all = 3656158440062976L;
        long fives = 95367431640625L;
        edges.at(26, "of n (0 .. 20) pilgrims", odds(0, 0, 3, 1, 1), odds(20, 20, 1, 1, all), odds(20, 1, 1, all - fives, all), odds(20, 20, 5, fives, all),
                "chance -1 0 3 0 =! -1\nchance 21 0 3 0 =! -1\nchance 21 21 3 1 =! -1\n");
        edges.at(26, "each is healed by c (0 .. 6) of 6, apart from the others", odds(1, 1, 0, 0, 1), odds(1, 1, 1, 1, 6), odds(1, 1, 5, 5, 6), odds(1, 1, 6, 1, 1), odds(20, 20, 6, 1, 1),
                odds(20, 1, 0, 0, 1), odds(20, 0, 0, 1, 1), odds(2, 2, 1, 1, 36), odds(2, 1, 1, 11, 36), "chance 2 1 -1 0 =! -1\nchance 2 1 7 0 =! -1\n");
        edges.at(26, "how likely h (0 .. n) or more are", odds(2, 0, 3, 1, 1), odds(2, 1, 3, 3, 4), odds(2, 2, 3, 1, 4), odds(20, 0, 1, 1, 1), odds(20, 19, 3, 21, 1048576),
                odds(20, 20, 3, 1, 1048576), "chance 2 3 3 0 =! -1\nchance 2 -1 3 0 =! -1\nchance 0 1 3 0 =! -1\nchance 20 21 3 0 =! -1\nchance 0 -1 3 0 =! -1\n");
        edges.at(26, "CHANCE: the upper number (0), the lower one (1).", "chance 1 1 4 0 => 2\nchance 1 1 4 1 => 3\nchance 1 1 4 -1 =! -1\nchance 1 1 4 2 =! -1\n");
        edges.others(26, "NONE for others.", Scenes.RICH, "chance 5 2 3 0", -1, "2 .. 20", "0 .. 5", "0 .. 6", "0 .. 1");
        edges.others(26, "NONE for others.", "", "chance 20 0 3 0", -1, "0 .. 20", "0 .. 20", "0 .. 6", "0 .. 1");
    }

    private static void lowestTerms(Edges edges) {
        edges.at(26, "in lowest terms.", odds(1, 1, 2, 1, 3), odds(1, 1, 3, 1, 2), odds(1, 1, 4, 2, 3), odds(3, 2, 3, 1, 2), odds(4, 2, 2, 11, 27), odds(2, 1, 2, 5, 9), odds(3, 1, 5, 215, 216),
                odds(20, 20, 2, 1, 3486784401L), odds(20, 20, 4, 1048576, 3486784401L), odds(20, 1, 3, 1048575, 1048576), odds(5, 6 - 1, 0, 0, 1));
    }

    private static void round(Edges edges) {
        edges.at(27, "A ROUND of some TOWNS (8 at most)", Scenes.towns(10) + """
                round 127 -1 => 120
                round 255 -1 => 140
                round 255 0 => 0
                round 255 7 => 7
                round 255 8 =! -1
                round 511 -1 =! -1
                round 511 0 =! -1
                round 1023 -1 =! -1
                round 1022 -1 =! -1
                round 1020 -1 => 140
                round 1020 0 => 2
                round 1024 -1 =! -1
                round 1024 0 =! -1
                """);
        edges.at(27, "all of them, each once, and back: the fewest MILES;", Scenes.TOWNS + """
                round 1 -1 => 0
                round 1 0 => 0
                round 4 0 => 2
                round 4 -1 => 0
                round 3 -1 => 20
                round 7 -1 => 100
                """, """
                town 0 0
                town 99 99
                town 0 99
                town 99 0
                town 0 0
                town 99 99
                town 0 99
                town 99 0
                round 255 -1 => 396
                round 3 -1 => 396
                round 12 -1 => 396
                """);
        edges.at(27, "the fewest MILES;", "town 0 0\ntown 9 9\nround 3 -1 => 36\nround 3 1 => 1\nback\nround 3 -1 =! -1\ntown 5 5\ntown 5 6\nround 3 -1 => 2\n",
                "town 0 0\nimage\ntown 9 9\ntown 1 1\nround 7 1 => 1\nround 7 -1 => 36\nback\ntown 99 0\ntown 0 99\nround 7 -1 => 396\n",
                "town 0 0\ntown 9 9\nround 3 -1 => 36\ntown 1 1\nround 3 -1 => 36\nround 7 -1 => 36\nround 5 -1 => 4\nround 3 1 => 1\n");
        edges.at(27, "ROUND: MILES (i NONE); its i-th TOWN.", Scenes.towns(3) + """
                round 6 -2 =! -1
                round 6 -1 => 20
                round 6 0 => 1
                round 6 1 => 2
                round 6 2 =! -1
                """);
        edges.at(27, "NONE: there is none such, and for others (no TOWN, more than 8).", "round 0 -1 =! -1\nround 0 0 =! -1\nround 1 -1 =! -1\n", Scenes.towns(3) + """
                round 0 -1 =! -1
                round 0 0 =! -1
                round 8 -1 =! -1
                round 9 0 =! -1
                round 7 3 =! -1
                round 7 2 => 2
                round 1 1 =! -1
                round 1 0 => 0
                """);
        edges.others(27, "NONE: there is none such, and for others", Scenes.RICH, "round 3 0", -1, "1 .. 7", "-1 .. 1");
        edges.others(27, "NONE: there is none such, and for others", Scenes.towns(10), "round 255 0", -1, "any", "-1 .. 7");
        edges.others(27, "NONE: there is none such, and for others", Scenes.towns(8), "round 255 0", -1, "1 .. 255", "-1 .. 7");
    }

    private static void firstRound(Edges edges) {
        edges.at(27, "of like ones the lowest second TOWN, then third, .. (it begins at the lowest one).", """
                town 50 50
                town 0 0
                town 9 9
                town 0 9
                town 9 0
                round 30 -1 => 36
                round 30 0 => 1
                round 30 1 => 3
                round 30 2 => 2
                round 30 3 => 4
                """, """
                town 0 0
                town 9 0
                town 0 9
                town 9 9
                round 15 1 => 1
                round 15 2 => 3
                round 15 3 => 2
                round 14 0 => 1
                round 14 1 => 2
                round 14 2 => 3
                """, "8 * town 5 5\n" + "round 255 -1 => 0\nround 255 0 => 0\nround 255 1 => 1\nround 255 6 => 6\nround 255 7 => 7\n");
    }

    private static void pilgrims(Edges edges) {
        String everywhere = Scenes.BONES;
        edges.at(28, "X is SEED (0 .. 9999) * 7 + 15;", everywhere + """
                pilgrims -1 1 6 0 =! -1
                pilgrims 0 1 6 0 => 1
                pilgrims 0 1 6 1 => 0
                pilgrims 9999 99 6 0 => 34
                pilgrims 9999 99 6 1 => 32
                pilgrims 9999 99 6 2 => 33
                pilgrims 10000 1 6 0 =! -1
                """, Scenes.towns(7) + "bone 0 1 1\nbone 0 1 2\n" + """
                pilgrims 9999 1 6 1 => 1
                pilgrims 9999 1 6 2 => 0
                """);
        edges.at(28, "n of them (1 .. 99)", everywhere + """
                pilgrims 0 0 6 0 =! -1
                pilgrims 0 1 6 0 => 1
                pilgrims 0 98 6 2 => 32
                pilgrims 0 99 6 2 => 33
                pilgrims 0 100 6 2 =! -1
                """);
        edges.at(28, "how many each TOWN heals.", everywhere + """
                pilgrims 0 6 3 -1 =! -1
                pilgrims 0 6 3 0 => 2
                pilgrims 0 6 3 1 => 0
                pilgrims 0 6 3 2 => 2
                pilgrims 0 6 3 3 =! -1
                """);
        edges.others(28, "PILGRIMS: how many a TOWN heals. NONE for others.", Scenes.RICH, "pilgrims 5 5 3 1", -1, "0 .. 9999", "1 .. 99", "0 .. 6", "0 .. 2");
        edges.others(28, "PILGRIMS: how many a TOWN heals. NONE for others.", Scenes.FULL, "pilgrims 5 5 3 1", -1, "0 .. 9999", "1 .. 99", "0 .. 6", "0 .. 9");
        edges.at(28, "NONE for others.", "pilgrims 0 1 1 0 =! -1\npilgrims 0 1 1 -1 =! -1\n");
    }

    private static void draws(Edges edges) {
        // By three TOWNS X is 15, 2636, 4524, 15, ..: 0, 2, 0 mod 3, and 3, 2, 0 mod 6.
        edges.at(28, "a draw by m: X mod m, X being (X * 173 + 41) mod 30103 then.", Scenes.BONES + """
                pilgrims 0 1 6 0 => 1
                pilgrims 0 2 6 0 => 2
                pilgrims 0 3 6 0 => 2
                pilgrims 0 3 6 2 => 1
                """, "town 0 0\nbone 0 1 0\n" + """
                pilgrims 1 6 3 0 => 4
                pilgrims 1 6 1 0 => 2
                pilgrims 1 6 5 0 => 6
                """);
        edges.at(28, "each comes to a TOWN by a draw of all TOWNS;", "town 0 0\nbone 0 1 0\npilgrims 0 99 6 0 => 99\n", Scenes.FULL + """
                pilgrims 0 1 6 5 => 0
                steal 0 5
                pilgrims 0 1 6 5 => 1
                pilgrims 0 1 6 0 => 0
                """, Scenes.towns(9) + "bone 0 1 8\npilgrims 1 1 6 8 => 0\npilgrims 8 1 6 8 => 1\n");
        edges.at(28, "if there is a HOLY BONE, a draw by 6 heals him", Scenes.TOWNS + "bone 1 1 0\n" + """
                pilgrims 0 6 3 0 => 1
                pilgrims 0 6 4 0 => 4
                pilgrims 0 6 6 2 => 0
                """, Scenes.BONES + """
                told holy sort=3;
                by 0
                pilgrims 0 99 6 2 => 0
                pilgrims 0 6 3 0 => 1
                by -1
                pilgrims 0 99 6 2 => 33
                """, Scenes.TOWNS + "pilgrims 0 99 6 0 => 0\n", Scenes.BONES + "told holy 1=2;\nby 0\npilgrims 0 99 6 0 => 0\n");
        edges.at(28, "if it is below c", Scenes.BONES + """
                pilgrims 0 1 2 0 => 0
                pilgrims 0 1 3 0 => 1
                pilgrims 0 3 0 2 => 0
                pilgrims 0 3 1 2 => 1
                pilgrims 0 99 0 0 => 0
                pilgrims 9999 99 5 1 => 0
                pilgrims 9999 99 6 1 => 32
                pilgrims 0 1 -1 0 =! -1
                pilgrims 0 1 7 0 =! -1
                """);
    }

    private static void image(Edges edges) {
        edges.at(29, "THE IMAGE is as all is now: YEAR.", "image => 0\n", Scenes.BONES + """
                pass 5
                image => 5
                pass 6
                image => 11
                pass 7
                back => 11
                image => 11
                back => 11
                """, Scenes.year(999) + "image => 999\nundo\nback => 999\n", Scenes.RICH + """
                image => 3
                about 9 => 13
                about 5 => 7
                undo => 6
                """);
        edges.at(29, "but the tape and the latest FAULT.", """
                tape worn 1;
                image
                tape worn 12
                back
                about 9 => 7
                text => -1
                fault 1 => 7
                image
                told worn 1; => 0
                back
                fault 0 => 0
                fault 1 => -1
                about 3 => 0
                """, "told worn => -1\nback\nfault 0 => 1\nfault 1 => 4\n", "feed 1 2 3 4 5\nback\nabout 9 => 20\n");
    }

    private static void back(Edges edges) {
        edges.at(30, "BACK to THE IMAGE (it stays): YEAR.", Scenes.BONES + """
                pass 5
                image
                pass 6
                back => 5
                about 2 => 5
                pass 9
                steal 0 1
                back => 5
                of 0 3 => 0
                back => 5
                undo
                about 2 => 0
                back => 5
                about 5 => 1
                """);
        edges.at(30, "AN IMAGE: all as it is, STEPS as well", Scenes.BONES + "20 * pass 1\nimage\n20 * pass 2\nback => 20\nabout 5 => 20\n20 * undo => 0\nabout 2 => 0\nundo =! -1\n",
                Scenes.BONES + "25 * pass 1\nimage\n7 * undo\n3 * burn 0\nback => 25\n20 * undo => 0\nabout 2 => 5\nundo =! -1\n",
                Scenes.BONES + "image\n3 * pass 1\nback => 0\nabout 5 => 0\nundo =! -1\n");
        edges.at(30, "BACK: all is so again.", Scenes.RICH + """
                image
                town 9 9
                bone 1 1 3
                prove 3 3
                told holy 1=2;
                by 2
                steal 0 2
                pass 50
                rules 9 9
                forget
                seen 2 2 2 2
                back => 3
                about 0 => 3
                about 1 => 3
                about 2 => 3
                about 3 => 2
                about 4 => 0
                about 5 => 7
                about 6 => 3
                about 7 => 2
                about 8 => 20
                about 10 => 1
                about 11 => 1
                about 12 => 0
                about 13 =! -2
                of 0 1 => 494
                of 0 3 => 1
                of 0 4 => 9
                of 3 0 =! -2
                best 0 => 2
                played 2 =! -2
                by 2 =! 0
                """, Scenes.FULL + Scenes.seen(12) + "told worn 1;\ntold worn 1;\ntold worn 1;\ntold worn 1;\n" + """
                back => 0
                about 0 => 0
                about 1 => 0
                about 3 => 0
                about 6 => 0
                town 1 1 => 0
                bone 1 1 0 => 0
                of 0 5 => 0
                told worn 1; => 0
                seen 0 0 1 1 => 0
                """);
    }
}
