/** Edges of what was SEEN and of HISTORIES: promises 19 to 25. */
final class SeenEdges {
    private SeenEdges() {
    }

    static void all(Edges edges) {
        rules(edges);
        seen(edges);
        forget(edges);
        same(edges);
        sameByMiles(edges);
        best(edges);
        histories(edges);
        led(edges);
        changed(edges);
    }

    private static void rules(Edges edges) {
        edges.at(19, "LOSS (0 .. 9;", """
                rules -1 5 =! 0
                rules 0 5 => 1
                about 7 => 0
                rules 9 5 => 1
                about 7 => 9
                rules 10 5 =! 0
                about 7 => 9
                about 8 => 5
                """);
        edges.at(19, "PACE (1 .. 99 MILES a year;", """
                rules 5 0 =! 0
                rules 5 1 => 1
                about 8 => 1
                rules 5 99 => 1
                about 8 => 99
                rules 5 100 =! 0
                about 8 => 99
                about 7 => 5
                rules 10 0 =! 0
                """);
        edges.others(19, "LOSS and PACE: true. False for others.", Scenes.RICH, "rules 5 5", 0, "0 .. 9", "1 .. 99");
        edges.others(19, "LOSS and PACE: true. False for others.", "", "rules 5 5", 0, "0 .. 9", "1 .. 99");
    }

    private static void seen(Edges edges) {
        edges.at(20, "SEEN (12 at most;", Scenes.TOWNS + """
                seen 0 0 9 1 => 0
                10 * seen 0 0 9 1 => 10
                about 6 => 11
                seen 0 0 9 2 => 11
                about 6 => 12
                seen 0 0 9 3 =! -1
                seen 0 0 9 1 =! -1
                best 0 => 11
                """);
        edges.at(20, "told in any order)", Scenes.TOWNS + """
                seen 0 0 7 9 => 0
                seen 0 0 9 1 => 1
                seen 0 0 8 5 => 2
                best 0 => 1
                best 1 => 0
                led 0 => 2
                led 1 => -1
                led 2 => 1
                histories => 1
                """);
        edges.at(20, "a BONE of a KIND", Scenes.TOWNS + "seen 0 -1 9 1 =! -1\nseen 0 0 9 1 => 0\nseen 0 19 9 1 => 1\nseen 0 20 9 1 =! -1\n");
        edges.at(20, "of a WEIGHT (1 .. 999)", Scenes.TOWNS + "seen 0 0 0 1 =! -1\nseen 0 0 1 1 => 0\nseen 0 0 999 1 => 1\nseen 0 0 1000 1 =! -1\n");
        edges.at(20, "AT a TOWN", "seen 0 0 9 1 =! -1\n", Scenes.TOWNS + """
                seen -1 0 9 1 =! -1
                seen 0 0 9 1 => 0
                seen 2 0 9 1 => 1
                seen 3 0 9 1 =! -1
                town 5 5
                seen 3 0 9 1 => 2
                """);
        edges.at(20, "in a YEAR (0 .. 999);", Scenes.TOWNS + """
                seen 0 0 9 -1 =! -1
                seen 0 0 9 0 => 0
                seen 0 0 9 999 => 1
                seen 0 0 9 1000 =! -1
                same 0 1 => 1
                same 1 0 => 0
                about 2 => 0
                """);
        edges.others(20, "One more SEEN: its number. NONE for others", Scenes.RICH, "seen 1 3 5 5", -1, "0 .. 2", "0 .. 19", "1 .. 999", "0 .. 999");
        edges.others(20, "One more SEEN: its number. NONE for others", Scenes.towns(10), "seen 1 3 5 5", -1, "0 .. 9", "0 .. 19", "1 .. 999",
                "0 .. 999");
        edges.at(20, "or if there are 12.", Scenes.TOWNS + Scenes.seen(11) + """
                image
                seen 2 19 999 999 => 11
                seen 2 19 999 999 =! -1
                seen 0 0 1 0 =! -1
                back
                seen 0 0 1 0 => 11
                """);
    }

    private static void forget(Edges edges) {
        edges.at(21, "Nothing is SEEN: how many were.", "forget =! 0\n", Scenes.TOWNS + "forget =! 0\nseen 0 0 9 1\nforget => 1\nforget =! 0\nabout 6 => 0\n",
                Scenes.TOWNS + Scenes.seen(12) + """
                forget => 12
                about 6 => 0
                best 0 => 0
                best 1 => 0
                histories => 1
                led 0 =! -2
                same 0 1 =! 0
                seen 0 0 9 1 => 0
                led 0 => -1
                led 1 =! -2
                """, Scenes.RICH + """
                forget => 3
                about 7 => 2
                about 8 => 20
                about 5 => 7
                about 0 => 3
                about 1 => 3
                back
                about 6 => 3
                """);
    }

    /** Two SEEN AT one TOWN. */
    private static String pair(int loss, String ahead, String one, int so) {
        return Scenes.TOWNS + "rules " + loss + " 10\nseen 0 " + ahead + "\nseen 0 " + one + "\nsame 0 1 => " + so + "\nbest 0 => " + (2 - so) + "\n";
    }

    private static void same(Edges edges) {
        edges.at(22, "if KINDS are like", pair(1, "5 9 1", "5 9 2", 1), pair(1, "5 9 1", "6 9 2", 0), pair(1, "5 9 1", "4 9 2", 0), pair(1, "0 9 1", "0 9 2", 1),
                pair(1, "19 9 1", "19 9 2", 1), pair(1, "0 9 1", "19 9 2", 0));
        edges.at(22, "its YEAR is later", pair(1, "5 9 1", "5 9 1", 0), pair(1, "5 9 1", "5 9 2", 1), pair(1, "5 9 0", "5 9 999", 1), pair(1, "5 9 0", "5 9 0", 0),
                Scenes.TOWNS + "seen 0 5 9 2\nseen 0 5 9 1\nsame 0 1 => 0\nsame 1 0 => 1\nbest 0 => 1\n");
        edges.at(22, "its WEIGHT not greater", pair(9, "5 9 1", "5 9 2", 1), pair(9, "5 9 1", "5 10 2", 0), pair(9, "5 9 1", "5 8 2", 1), pair(9, "5 1 1", "5 999 2", 0));
        edges.at(22, "by LOSS times the years at most", pair(1, "5 9 1", "5 8 2", 1), pair(1, "5 9 1", "5 7 2", 0), pair(1, "5 9 1", "5 7 3", 1), pair(3, "5 50 1", "5 38 5", 1),
                pair(3, "5 50 1", "5 37 5", 0), pair(0, "5 50 1", "5 50 5", 1), pair(0, "5 50 1", "5 49 999", 0), pair(9, "5 999 0", "5 1 111", 1),
                pair(9, "5 999 0", "5 1 110", 0), pair(9, "5 900 0", "5 891 1", 1), pair(9, "5 900 0", "5 890 1", 0));
        edges.at(22, "Whether one SEEN can be THE SAME BONE as another one AHEAD of it.", Scenes.RICH + """
                same 0 1 => 1
                same 0 2 => 1
                same 1 0 => 0
                same 0 0 => 0
                same 1 1 => 0
                same 2 2 => 0
                same 1 2 => 0
                """);
        edges.others(22, "False for others.", Scenes.RICH, "same 0 1", 0, "0 .. 0", "1 .. 2");
        edges.others(22, "False for others.", Scenes.TOWNS + Scenes.seen(11) + "seen 0 0 9 2\n", "same 3 11", 0, "0 .. 10", "11 .. 11");
        edges.at(22, "False for others.", "same 0 1 =! 0\nsame 0 0 =! 0\nsame -1 -1 =! 0\n", Scenes.TOWNS + "seen 0 0 9 1\nseen 0 0 9 2\nforget\nsame 0 1 =! 0\n");
    }

    /** Two SEEN so many MILES from one another, in so many years. */
    private static String far(int pace, int miles, int years, int so) {
        return "town 0 0\ntown " + Math.min(99, miles) + " " + (miles - Math.min(99, miles)) + "\nrules 1 " + pace + "\nseen 0 5 9 1\nseen 1 5 9 " + (1 + years)
                + "\nsame 0 1 => " + so + "\nbest 0 => " + (2 - so) + "\nbest 1 => " + so + "\n";
    }

    private static void sameByMiles(Edges edges) {
        edges.at(22, "MILES between the TOWNS by PACE (cut) are no more than the years.", far(10, 0, 1, 1), far(10, 10, 1, 1), far(10, 19, 1, 1), far(10, 20, 1, 0), far(10, 29, 2, 1),
                far(10, 30, 2, 0), far(1, 1, 1, 1), far(1, 2, 1, 0), far(1, 198, 198, 1), far(1, 198, 197, 0), far(99, 197, 1, 1), far(99, 198, 1, 0), far(99, 198, 2, 1), far(98, 195, 1, 1),
                far(98, 196, 1, 0), far(7, 20, 2, 1), far(7, 21, 2, 0));
        edges.at(22, "PACE (1 .. 99 MILES a year; at first 10)", "town 0 0\ntown 19 0\ntown 20 0\nseen 0 5 9 1\nseen 1 5 9 2\nseen 2 5 9 2\nsame 0 1 => 1\nsame 0 2 => 0\n");
        edges.at(22, "LOSS (0 .. 9; at first 1)", "town 0 0\nseen 0 5 9 1\nseen 0 5 8 2\nseen 0 5 7 2\nsame 0 1 => 1\nsame 0 2 => 0\n");
    }

    private static void best(Edges edges) {
        edges.at(23, "BEST HISTORY: 0 BONES, 1 THEFTS.", "best 0 => 0\nbest 1 => 0\n", Scenes.TOWNS + "seen 0 0 9 1\nbest 0 => 1\nbest 1 => 0\n",
                Scenes.TOWNS + Scenes.seen(12) + "best 0 => 12\nbest 1 => 0\n", chain(0) + "best 0 => 1\nbest 1 => 0\n", chain(1) + "best 0 => 1\nbest 1 => 11\n");
        edges.others(23, "NONE for others.", Scenes.RICH, "best 0", -1, "0 .. 1");
        edges.others(23, "NONE for others.", "", "best 0", -1, "0 .. 1");
        edges.at(23, "BONES: how many are new;", Scenes.TOWNS + "seen 0 0 9 1\nseen 0 0 9 1\nbest 0 => 2\nseen 0 0 9 2\nbest 0 => 2\nseen 0 1 9 2\nbest 0 => 3\n");
        edges.at(23, "THEFTS: those whose one AHEAD was AT another TOWN.", """
                town 5 5
                town 5 5
                seen 0 0 9 1
                seen 0 0 9 2
                best 1 => 0
                seen 1 0 9 3
                best 0 => 1
                best 1 => 1
                seen 0 0 9 4
                best 1 => 2
                """);
        edges.at(23, "A HISTORY: for each SEEN the one AHEAD (none: a BONE that is new);", "best 0 => 0\n",
                Scenes.TOWNS + "seen 0 0 9 1\nbest 0 => 1\nled 0 => -1\nseen 0 0 9 2\nbest 0 => 1\nled 1 => 0\n");
        edges.at(23, "none is AHEAD of two.", Scenes.TOWNS + "seen 0 0 9 1\nseen 0 0 9 2\nseen 0 0 9 2\nbest 0 => 2\n",
                Scenes.TOWNS + "seen 0 0 9 1\nseen 0 0 9 2\nseen 0 0 9 3\nbest 0 => 1\n");
        edges.at(23, "BEST: the fewest BONES, of these the fewest THEFTS", """
                town 0 0
                town 1 0
                seen 0 0 9 1
                seen 1 0 9 2
                seen 0 0 9 3
                best 0 => 1
                best 1 => 2
                seen 1 0 9 1
                best 0 => 2
                best 1 => 0
                """);
    }

    /** Twelve SEEN in a row of years, by turns AT one of so many more TOWNS. */
    private static String chain(int others) {
        StringBuilder s = new StringBuilder("town 0 0\ntown 1 0\n");
        for (int i = 0; i < 12; i++) {
            s.append("seen ").append(i % 2 * others).append(" 0 9 ").append(i).append('\n');
        }
        return s.toString();
    }

    private static void histories(Edges edges) {
        edges.at(24, "(1, if nothing is SEEN).", "histories => 1\n", Scenes.TOWNS + "histories => 1\nseen 0 0 9 1\nhistories => 1\nforget\nhistories => 1\n");
        edges.at(24, "How many BEST HISTORIES there are", Scenes.TOWNS + "seen 0 0 9 1\nseen 0 0 9 1\nseen 0 0 9 2\nhistories => 2\n",
                Scenes.TOWNS + "seen 0 0 9 1\nseen 1 0 9 1\nseen 0 0 9 2\nhistories => 1\n", Scenes.TOWNS + Scenes.seen(12) + "histories => 1\n",
                Scenes.TOWNS + Scenes.seen(6) + "6 * seen 0 0 9 2\nhistories => 720\nbest 0 => 6\n", chain(0) + "histories => 1\n", chain(1) + "histories => 1\n",
                Scenes.TOWNS + Scenes.seen(4) + "4 * seen 0 0 9 2\n4 * seen 0 0 9 3\nhistories => 576\n",
                Scenes.TOWNS + Scenes.seen(11) + "seen 0 0 9 2\nhistories => 11\nbest 0 => 11\n",
                Scenes.TOWNS + "seen 0 0 9 1\n11 * seen 0 0 9 2\nhistories => 11\nbest 0 => 11\n");
        edges.at(24, "and how many HISTORIES are so", Scenes.TOWNS + "2 * seen 0 0 9 1\n2 * seen 0 0 9 2\nseen 0 0 9 3\nhistories => 4\nbest 0 => 2\n",
                Scenes.TOWNS + "2 * seen 0 0 9 1\nseen 0 0 9 2\nseen 0 0 9 3\nhistories => 4\nbest 0 => 2\n");
    }

    /** What was asked must be asked anew when anything has changed. */
    private static void changed(Edges edges) {
        String two = "town 0 0\ntown 20 0\nseen 0 0 9 1\nseen 1 0 8 2\nbest 0 => 2\nbest 1 => 0\nled 1 => -1\n";
        edges.at(23, "BEST: the fewest BONES", two + "rules 1 20\nbest 0 => 1\nbest 1 => 1\nled 1 => 0\nrules 0 20\nbest 0 => 2\nled 1 => -1\n",
                two + "seen 0 0 9 2\nbest 0 => 2\nled 2 => 0\nforget\nbest 0 => 0\nled 0 =! -2\n", two + "forget\nbest 0 => 0\nhistories => 1\n",
                two + "rules 1 20\nimage\nbest 0 => 1\nrules 1 10\nbest 0 => 2\nback\nbest 0 => 1\nled 1 => 0\n",
                two + "back\nbest 0 => 0\ntown 0 0\ntown 19 0\nseen 0 0 9 1\nseen 1 0 8 2\nbest 0 => 1\nbest 1 => 1\n",
                two + "steal 0 0\npass 9\nundo\nbest 0 => 2\n");
    }

    private static void led(Edges edges) {
        edges.at(25, "Which is AHEAD of one SEEN in the first BEST HISTORY (NONE: it is new).", Scenes.TOWNS + "seen 0 0 9 1\nled 0 => -1\nseen 0 0 9 2\nled 1 => 0\nled 0 => -1\n",
                chain(0) + "led 0 => -1\nled 1 => 0\nled 11 => 10\nled 12 =! -2\n", Scenes.TOWNS + "11 * seen 0 0 9 2\nseen 0 0 9 1\nled 0 => -1\nled 9 => -1\nled 10 => 11\nled 11 => -1\n");
        edges.others(25, "-2 for others.", Scenes.RICH, "led 1", -2, "0 .. 2");
        edges.others(25, "-2 for others.", Scenes.TOWNS + Scenes.seen(12), "led 1", -2, "0 .. 11");
        edges.at(25, "-2 for others.", "led 0 =! -2\nled -1 =! -2\n");
        edges.at(25, "the least AHEAD (none below all) for SEEN 0, then for 1, ..", Scenes.TOWNS + """
                seen 0 0 9 5
                seen 0 0 9 1
                seen 0 0 9 1
                led 0 => 1
                seen 0 0 9 5
                led 0 => 1
                led 3 => 2
                seen 0 0 9 5
                led 0 => -1
                led 3 => 1
                led 4 => 2
                """, Scenes.TOWNS + """
                seen 0 0 9 1
                seen 1 0 9 1
                seen 1 0 9 5
                seen 0 0 9 5
                led 2 => 1
                led 3 => 0
                """, Scenes.TOWNS + """
                seen 0 0 9 3
                seen 0 0 9 2
                seen 0 0 9 1
                seen 0 0 9 1
                led 0 => 1
                led 1 => 2
                led 2 => -1
                led 3 => -1
                """);
    }
}
