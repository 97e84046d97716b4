/** Edges of the tape, of TEXTS and what they come to: promises 5, 6, 7, 9 and 15. */
final class TextEdges {
    /** A BONE of KIND 3 and WEIGHT 900 AT TOWN 1, of which two TOWNS have PROOFS. */
    private static final String BONE = Scenes.TOWNS + """
            bone 3 900 1
            prove 0 0
            prove 2 0
            """;
    private static final String FOUR = "told worn 1;\ntold holy 1=1;\ntold burn 0;\ntold pass 1;\n";

    private TextEdges() {
    }

    static void all(Edges edges) {
        feed(edges);
        end(edges);
        text(edges);
        textLengths(edges);
        sums(edges);
        limits(edges);
        asks(edges);
        names(edges);
        by(edges);
        played(edges);
        playedByHand(edges);
    }

    private static String sum(String sum, int worth) {
        return BONE + "told worn " + sum + "; => 0\nby 0 => 1\npass 1 => 1\nof 0 1 => " + (900 - worth) + "\n";
    }

    private static String ask(String either, int so) {
        return BONE + "told holy " + either + "; => 0\nby 0 => 1\nof 0 6 => " + so + "\n";
    }

    private static void feed(Edges edges) {
        edges.at(5, "Twenty bytes come behind the tape, the highest of a first: how many it has.", """
                feed 1651864174 540029728 538976288 538976288 538976315 => 20
                feed 1651864174 540029728 538976288 538976288 538976315 => 40
                text => 0
                """, """
                feed 0 0 0 0 1 => 20
                text => -1
                fault 1 => 0
                """, """
                feed 538976288 538976288 538976288 538976288 538976257 => 20
                text => -1
                fault 0 => 1
                fault 1 => 19
                """, """
                feed 538976289 0 0 0 0 => 20
                text => -1
                fault 1 => 3
                """, """
                feed 538976288 557842432 0 0 0 => 20
                text => -1
                fault 1 => 4
                """, """
                feed 538976288 538976288 536870912 0 0 => 20
                text => -1
                fault 1 => 9
                """, """
                feed 538976288 538976288 538976288 539230208 0 => 20
                text => -1
                fault 1 => 13
                """, """
                feed MIN MAX -1 0 1 => 20
                feed MIN MIN MIN MIN MIN => 40
                feed MAX MAX MAX MAX MAX => 60
                about 9 => 60
                text => -1
                fault 0 => 1
                fault 1 => 0
                """);
        edges.at(5, "NONE, and none come, if there would be more than 300.", """
                14 * feed 1 2 3 4 5 => 280
                feed 1 2 3 4 5 => 300
                feed 1 2 3 4 5 =! -1
                feed MIN MAX 0 0 0 =! -1
                about 9 => 300
                end 281 => 281
                feed 1 2 3 4 5 =! -1
                about 9 => 281
                end 280 => 280
                feed 1 2 3 4 5 => 300
                """, "tape " + " ".repeat(273) + "worn 1;x\n" + """
                feed 538976288 538976288 538976288 538976288 538976288 =! -1
                end 280 => 280
                feed 538976288 538976288 538976288 538976288 538976288 => 300
                text => 0
                """, Scenes.RICH + """
                14 * feed 0 0 0 0 0 => 293
                feed 0 0 0 0 0 =! -1
                about 9 => 293
                """);
    }

    private static void end(Edges edges) {
        edges.at(6, "The tape has its first n bytes alone: n.", """
                feed 1651864174 540031842 1970433568 825975413 1919819826 => 20
                end 20 => 20
                about 9 => 20
                end 14 => 14
                about 9 => 14
                text => 0
                end 0 => 0
                """, """
                end 0 => 0
                feed 1 2 3 4 5
                end 1 => 1
                about 9 => 1
                end 0 => 0
                about 9 => 0
                end 0 => 0
                """, "tape burn 0;burn\nend 7 => 7\nfeed 538976288 538976288 538976288 538976288 538976288 => 27\ntext => 0\n");
        edges.at(6, "NONE, and nothing is done, if it has not so many, or n is below 0.", """
                end 1 =! -1
                end -1 =! -1
                feed 1 2 3 4 5
                end 21 =! -1
                end -1 =! -1
                end 10 => 10
                end 11 =! -1
                end 10 => 10
                """, "15 * feed 1 2 3 4 5\nend 301 =! -1\nend 300 => 300\n");
        edges.others(6, "NONE, and nothing is done, if it has not so many, or n is below 0.", Scenes.RICH, "end 5", -1, "0 .. 13");
        edges.others(6, "NONE, and nothing is done, if it has not so many, or n is below 0.", "15 * feed 1 2 3 4 5\n", "end 5", -1,
                "0 .. 300");
    }

    private static void text(Edges edges) {
        edges.at(7, "TEXTS 0 .. 3", """
                told worn 1; => 0
                told worn 2; => 1
                told worn 3; => 2
                about 3 => 3
                told worn 4; => 3
                about 3 => 4
                tape worn 5;
                text =! -1
                about 3 => 4
                """);
        edges.at(7, "The tape (empty then) is a TEXT: its number.", """
                tape worn 1;
                about 9 => 7
                text => 0
                about 9 => 0
                text => 1
                about 9 => 0
                """);
        edges.at(7, "NONE: it has a FAULT;", """
                told worn 1; => 0
                tape worn 1
                text => -1
                about 3 => 1
                about 9 => 0
                told worn 1; => 1
                """, Scenes.BONES + """
                told worn 5;x => -1
                about 3 => 0
                by 0 =! 0
                told worn 7; => 0
                by 0 => 1
                pass 1
                of 0 1 => 493
                """);
        String spoiled = "told worn 1" + "+1".repeat(140) + "!\n";
        edges.at(7, "NONE: it has a FAULT;", Scenes.BONES + "told kind 1 many 9;kind 1\ntold holy 1=2;holy\ntold unlike 1=1;unlike\n" + spoiled.repeat(6) + """
                told worn 4+sort*10; => 0
                by 0
                pass 1
                of 0 1 => 466
                of 0 6 => 1
                saints 7 -1 => 2
                """);
        edges.at(7, "or (the tape stays) there are 4.", FOUR + """
                tape worn 9;
                text =! -1
                about 9 => 7
                about 3 => 4
                tape worn
                text =! -1
                about 9 => 4
                fault 0 => 0
                fault 1 => -1
                tape\s
                text =! -1
                about 9 => 0
                """, "told worn 1;\ntold holy 1=1;\ntold burn 0;\nimage\ntold pass 1; => 3\n" + """
                tape burn 1;
                text =! -1
                back
                about 9 => 7
                text => 3
                """, "told worn => -1\n" + FOUR.replace("told pass 1;", "told pass 1; => 3") + "text =! -1\n");
    }

    private static void textLengths(Edges edges) {
        edges.at(7, "of up to 300 bytes.", "told => 0\nfault 0 => 0\n", """
                told worn 1%s;
                """.formatted(" ".repeat(293)) + """
                about 3 => 1
                fault 0 => 0
                """, """
                told worn 1%s;; => -1
                """.formatted(" ".repeat(292)) + """
                fault 0 => 1
                fault 1 => 299
                """, """
                told worn 1%s => -1
                """.formatted(" ".repeat(294)) + """
                fault 0 => 1
                fault 1 => 300
                """, Scenes.BONES + "told worn 1" + "+1".repeat(146) + " ; => 0\nby 0\npass 1\nof 0 1 => 353\n",
                Scenes.BONES + "told worn" + "7".repeat(1) + "+0".repeat(147) + "; => 0\nby 0\npass 1\nof 0 1 => 493\n",
                "told " + ";".repeat(300) + " => -1\nfault 1 => 0\n",
                "told " + "a".repeat(300) + " => -1\nfault 0 => 1\nfault 1 => 0\n",
                "told worn " + "0".repeat(294) + "; => 0\n",
                "told worn " + "9".repeat(295) + " => -1\nfault 0 => 2\nfault 1 => 5\n",
                "told worn " + "0".repeat(293) + "1 => -1\nfault 0 => 1\nfault 1 => 299\n");
        // The last byte of a full tape is looked at, and none behind it.
        edges.at(7, "of up to 300 bytes.", full("x", 299), full("wor", 297), full("burn 0;w", 299), full("holy 1<", 300), full("holy 1>", 300),
                full("holy 1<=", 300), full("burn", 300), full("worn 1", 300), full("worn weigh", 295), full("worn weight", 300));
        // A cut tape has nothing of what was behind the cut.
        edges.at(7, "The tape has its first n bytes alone: n.", "tape worn 12;\nend 6\ntext => -1\nfault 1 => 6\n", "tape worn 1;x\nend 7\ntext => 0\n",
                "tape worn 1;worn\nend 10\ntext => -1\nfault 0 => 1\nfault 1 => 7\n", "tape holy 1<=\nend 7\ntext => -1\nfault 1 => 7\n",
                Scenes.BONES + "tape pass 12;\nend 6\nfeed 991961120 538976288 538976288 538976288 538976288\ntext => 0\nplayed 0\nabout 2 => 1\n");
        edges.at(7, "{CLAUSE}, 24 at most", "told => 0\n", "told " + "pass 1;".repeat(23) + " => 0\n", "told " + "pass 1;".repeat(24)
                + " => 0\nplayed 0 => -1\nabout 2 => 24\n", "told " + "pass 1;".repeat(25) + " => -1\nabout 3 => 0\n");
        StringBuilder kinds = new StringBuilder();
        for (int i = 0; i < 20; i++) {
            kinds.append("kind ").append(i).append(" many 2;");
        }
        edges.at(7, "kind NUMBER many NUMBER ; (of a KIND once)", "told " + kinds + " => 0\n",
                "told " + kinds.substring(0, kinds.length() - 10) + " 1 many 2; => -1\nfault 0 => 4\n",
                "told kind 4 many 2;kind 5 many 2; => 0\n", "told kind 4 many 2;kind 4 many 2; => -1\n");
    }

    /** A tape of 300 bytes with this at its end has a FAULT. */
    private static String full(String last, int place) {
        return "told " + " ".repeat(300 - last.length()) + last + " => -1\nfault 0 => 1\nfault 1 => " + place + "\n";
    }

    private static void sums(Edges edges) {
        edges.at(7, "From the left;", sum("10-2-3", 5), sum("100/7/2", 7), sum("100/10*2", 20), sum("2*7/2", 7), sum("10-2+3", 11),
                sum("7*2/3*2", 8));
        edges.at(7, "/ cuts towards 0", sum("7/2", 3), sum("100+-7/2", 97), sum("100+7/-2", 97), sum("100+-7/-2", 103),
                sum("100+-1/2", 100), sum("1/2", 0), sum("100+-6/2", 97), sum("99/100", 0), sum("100/100", 1), sum("(0-7)/2+100", 97));
        edges.at(7, "by 0 it is 0;", sum("5/0", 0), sum("0/0+4", 4), sum("7+5/(3-3)", 7), sum("9/(1/2)+1", 1), sum("9/-0+1", 1),
                sum("9/1", 9), sum("50-9/-1", 59));
        edges.at(7, "SUM: PRODUCT {+ or - PRODUCT}. PRODUCT: ONE {* or / ONE}. ONE: NUMBER, NAME, ( SUM ), - ONE.", sum("2+3*4", 14),
                sum("2*3+4", 10), sum("(2+3)*4", 20), sum("2*(3+4)", 14), sum("20-6/2", 17), sum("2*3+4*5-6/2", 23), sum("9--3", 12),
                sum("-3+10", 7), sum("-(3-10)", 7), sum("- - 7", 7), sum("2*-3+20", 14), sum("-2*-3", 6), sum("20--6/-2", 17),
                sum("(((7)))", 7), sum("0", 0), sum("899", 899));
    }

    private static void limits(Edges edges) {
        // 999900 is 9999*100; what is left over is the WEIGHT that is lost.
        edges.at(7, "what is above 1000000", sum("9999*100+99-9999*100", 99), sum("9999*100+100-9999*100", 100),
                sum("9999*100+101-9999*100", 100), sum("1000*1000-9999*100", 100), sum("1001*1000-9999*100", 100),
                sum("9999*9999-9999*100", 100), sum("1000*1000*9999-9999*100", 100), sum("1000*1000--1-9999*100", 100),
                sum("9999*9999*9999*9999-9999*100", 100), sum("1000*1000*1000*1000/1000/1000", 1));
        edges.at(7, "(below the same less) is that", sum("0-9999*100-99+9999*100+800", 701), sum("0-9999*100-100+9999*100+800", 700),
                sum("0-9999*100-101+9999*100+800", 700), sum("-1000*1000+9999*100+800", 700), sum("-1001*1000+9999*100+800", 700),
                sum("-9999*9999+9999*100+800", 700), sum("-1000*1000*9999+9999*100+800", 700),
                sum("-1000*1000*-9999-9999*100", 100), sum("-(1000*1000)-1+9999*100+800", 700));
        edges.at(7, "at each step.", sum("1000*1000+9-9-9999*100", 91), sum("1000*1000+9999/9999-9999*100", 100),
                sum("2000*1000/2000", 500), sum("(1000*1000+500)/2/1000", 500), sum("500*1000*2/1000-100*5", 500),
                sum("0-1000*1000-9+9+9999*100+800", 709));
    }

    private static void asks(Edges edges) {
        edges.at(7, "SUM one of < <= > >= = # (unlike) SUM.", ask("1<2", 1), ask("2<2", 0), ask("3<2", 0), ask("1<=2", 1), ask("2<=2", 1),
                ask("3<=2", 0), ask("1>2", 0), ask("2>2", 0), ask("3>2", 1), ask("1>=2", 0), ask("2>=2", 1), ask("3>=2", 1), ask("1=2", 0),
                ask("2=2", 1), ask("3=2", 0), ask("1#2", 1), ask("2#2", 0), ask("3#2", 1), ask("-1<0", 1), ask("1+1=4/2", 1),
                ask("9999*9999=1000*1000", 1));
        for (String right : new String[] {"1<2", "1<=2", "2<=2", "2>1", "2>=1", "2>=2", "2=2", "1#2", "2#1"}) {
            edges.at(7, "ASK: not ASK, or SUM one of < <= > >= = # (unlike) SUM.", ask(right, 1), ask("not " + right, 0), ask("not not " + right, 1), ask(right + " and 1=1", 1),
                    ask("1=1 and " + right, 1), ask(right + " and " + right, 1), ask(right + " and 1<2 and 1#2 and 1<=2 and 2>1 and 2>=1", 1), ask("1=2 or " + right, 1),
                    ask("not " + right + " or 1=2", 0));
        }
        edges.at(7, "ASK: not ASK", ask("not 1=2", 1), ask("not 1=1", 0), ask("not not 1=1", 1), ask("not not not 1=1", 0),
                ask("not 1=1 or 1=1", 1), ask("not 1=2 and 1=2", 0), ask("1=1 and not 1=2", 1));
        edges.at(7, "EITHER: BOTH {or BOTH}. BOTH: ASK {and ASK}.", ask("1=1 or 1=2 and 1=2", 1), ask("1=2 and 1=2 or 1=1", 1),
                ask("1=2 and 1=1 or 1=1 and 1=2", 0), ask("1=2 or 1=1 and 1=1 or 1=2", 1), ask("1=1 and 1=1 and 1=2", 0),
                ask("1=2 or 1=2 or 1=2", 0), ask("1=2 or 1=2 or 1=1", 1), ask("1=1 and 1=1 and 1=1", 1));
        edges.at(7, "or and and look at both sides always.", ask("1=1 or 1/0=0", 1), ask("1=1 or 1=1", 1), ask("1=2 or 1=2", 0),
                ask("1=2 and 1/0=0", 0), ask("1=2 and 1=2", 0), ask("1=1 and 1=1", 1), ask("1=2 and 1=1", 0), ask("1=2 or 1=1", 1));
    }

    private static void names(Edges edges) {
        edges.at(7, "NAMES: sort (the KIND), weight, town (AT), proofs (of how many TOWNS), year;", sum("sort", 3), sum("weight/9", 100),
                sum("town", 1), sum("proofs", 2), sum("year", 1), ask("sort=3 and weight=900 and town=1 and proofs=2 and year=0", 1),
                BONE + "told holy town=2;\nby 0\nof 0 6 => 0\nlend 0 2 5\nof 0 6 => 1\npass 5\nof 0 6 => 0\n",
                BONE + "told holy proofs=3;\nby 0\nof 0 6 => 0\nprove 1 0\nof 0 6 => 1\nburn 0\nof 0 6 => 0\n",
                BONE + "told holy year=999;\nby 0\nof 0 6 => 0\n10 * pass 99\npass 9\nof 0 6 => 1\n");
        edges.at(7, "of unlike besides, of the other BONE: osort, oweight, otown.", Scenes.BONES + """
                told unlike osort=7 and sort=3 and oweight=300 and weight=500 and otown=2 and town=0 and year=0 and proofs=0; => 0
                by 0
                saints 5 -1 => 2
                saints 6 -1 => 1
                told unlike osort=7 and sort=3 and oweight=300 and weight=501; => 1
                by 1
                saints 5 -1 => 1
                """);
    }

    private static void by(Edges edges) {
        edges.at(9, "THE TEXT (NONE: none): true.", Scenes.BONES + """
                by -1 => 1
                about 4 => -1
                told holy 1=2;
                about 4 => -1
                of 0 6 => 1
                by 0 => 1
                about 4 => 0
                of 0 6 => 0
                by 0 => 1
                by -1 => 1
                about 4 => -1
                of 0 6 => 1
                about 5 => 0
                """);
        edges.others(9, "False for others.", Scenes.RICH, "by 1", 0, "-1 .. 1");
        edges.others(9, "False for others.", FOUR, "by 1", 0, "-1 .. 3");
        edges.others(9, "False for others.", "", "by -1", 0, "-1 .. -1");
        edges.at(9, "(told; at first none) rules.", Scenes.BONES + """
                told worn 1;
                told worn 2;
                pass 1
                of 0 1 => 500
                by 1
                pass 1
                of 0 1 => 498
                by 0
                pass 1
                of 0 1 => 497
                by 2 =! 0
                pass 1
                of 0 1 => 496
                """);
    }

    private static void played(Edges edges) {
        edges.at(15, "PLAYED by a TEXT: NONE: all is done;", Scenes.BONES + """
                told => 0
                told worn 1;holy 1=1;unlike 1=2;kind 0 many 1;
                told pass 99;
                played 0 => -1
                played 1 => -1
                about 5 => 0
                about 4 => -1
                played 2 => -1
                about 2 => 99
                about 5 => 1
                """);
        edges.at(15, "its number among all CLAUSES (from 0)", Scenes.BONES + """
                told burn 3;pass 1;
                played 0 => 0
                about 2 => 0
                about 5 => 0
                """, Scenes.BONES + "told " + "pass 1;".repeat(23) + "swap 0 with 0;\nplayed 0 => 23\nabout 2 => 23\nabout 5 => 20\n",
                Scenes.BONES + "told " + "pass 1;".repeat(22) + "swap 0 with 0;pass 1;\nplayed 0 => 22\nabout 2 => 22\n",
                Scenes.BONES + """
                told worn 1;kind 1 many 1;steal 0 to 0;pass 1;
                played 0 => 2
                about 5 => 0
                """);
        edges.at(15, "what was done stays.", Scenes.BONES + """
                told pass 1;lend 0 to 1 for 2;burn 9;pass 1;
                played 0 => 2
                about 2 => 1
                of 0 4 => 3
                about 5 => 2
                """);
        edges.at(15, "else the number of the CLAUSE that can't be.", Scenes.BONES + """
                told pass 1;lend 0 to 1 for 3;pass 1;
                played 0 => -1
                about 2 => 2
                played 0 => 1
                about 2 => 3
                of 0 3 => 1
                played 0 => -1
                about 2 => 5
                """);
        edges.others(15, "-2 for others.", Scenes.RICH, "played 1", -2, "0 .. 1");
        edges.others(15, "-2 for others.", FOUR, "played 1", -2, "0 .. 3");
        edges.at(15, "-2 for others.", "played 0 =! -2\nplayed -1 =! -2\ntold worn => -1\nplayed 0 =! -2\n");
    }

    private static void playedByHand(Edges edges) {
        edges.at(15, "its lend, swap, steal, burn and pass clauses, in their order, as by hand;", Scenes.BONES + """
                told lend 0 to 1 for 9;swap 0 with 2;steal 1 to 0;burn 2;pass 3;
                prove 2 2
                played 0 => -1
                of 0 3 => 2
                of 0 4 => 9
                of 2 3 => 1
                of 1 2 => 0
                about 12 => 0
                about 2 => 3
                about 5 => 6
                of 0 1 => 500
                """, Scenes.BONES + "told worn 9;pass 1;\ntold worn 5;\nby 1\nplayed 0 => -1\nof 0 1 => 495\nabout 4 => 1\n",
                Scenes.FULL + """
                told lend 15 to 9 for 99;swap 15 with 0;steal 15 to 9;burn 9;pass 99;
                played 0 => -1
                of 15 2 => 9
                of 0 3 => 9
                """);
        String[] cant = {"lend 0 to 0 for 1;", "lend 3 to 1 for 1;", "lend 0 to 3 for 1;", "lend 15 to 1 for 1;", "lend 0 to 9 for 1;",
            "swap 0 with 0;", "swap 0 with 3;", "swap 3 with 0;", "swap 15 with 15;", "steal 0 to 0;", "steal 3 to 0;", "steal 0 to 3;",
            "burn 3;", "burn 9;"};
        for (String clause : cant) {
            edges.at(15, "one that can't be ends it:", Scenes.BONES + "told " + clause + "\nplayed 0 =! 0\n");
        }
        edges.at(15, "one that can't be ends it:", Scenes.BONES + Scenes.year(998) + """
                told lend 0 to 1 for 1;pass 1;pass 0;pass 1;
                told lend 0 to 1 for 2;
                told pass 2;
                played 1 =! 0
                played 2 =! 0
                played 0 => 3
                about 2 => 999
                """, Scenes.BONES + "told lend 0 to 1 for 1;lend 0 to 2 for 1;\nplayed 0 => 1\nof 0 3 => 1\n",
                Scenes.TOWNS + Scenes.bones(2) + "told swap 0 with 1;\nplayed 0 =! 0\n");
    }
}
