/** Edges of TOKENS and FAULTS: promise 8. */
final class FaultEdges {
    private static final int CANT_STAND = 1;
    private static final int BAD_NUMBER = 2;
    private static final int TOO_DEEP = 3;
    private static final int TWICE = 4;
    private static final int BAD_NAME = 5;
    private static final int TOO_MANY = 6;

    private FaultEdges() {
    }

    static void all(Edges edges) {
        fault(edges);
        blanks(edges);
        letters(edges);
        digits(edges);
        signs(edges);
        order(edges);
        clauses(edges);
        asksAndSums(edges);
        numbers(edges);
        depth(edges);
        twice(edges);
        names(edges);
        tooMany(edges);
    }

    private static String bad(String text, int fault, int place) {
        return "told " + text + " => -1\nfault 0 => " + fault + "\nfault 1 => " + place + "\nabout 3 => 0\n";
    }

    private static String good(String text) {
        return "told " + text + " => 0\nfault 0 => 0\nfault 1 => -1\nabout 3 => 1\n";
    }

    private static void fault(Edges edges) {
        edges.at(8, "Of the latest text that was read: 0 its FAULT (0 without), 1 its place (NONE without).", """
                told worn => -1
                fault 0 => 1
                fault 1 => 4
                told worn 1; => 0
                fault 0 => 0
                fault 1 => -1
                told => 1
                fault 0 => 0
                told burn 10; => -1
                fault 0 => 2
                fault 1 => 5
                tape kind 5 many 1;kind 5
                fault 0 => 2
                text => -1
                fault 0 => 4
                fault 1 => 19
                end 0
                feed 1 2 3 4 5
                fault 1 => 19
                """, "told worn 1;\ntold worn 1;\ntold worn 1;\ntold worn 1;\n" + """
                tape worn
                text =! -1
                fault 0 => 0
                fault 1 => -1
                """);
        edges.at(8, "and ahead of any.", "fault 0 =! -1\nfault 1 =! -1\nfault 2 =! -1\n", "tape worn\nfault 0 =! -1\nfault 1 =! -1\n");
        edges.others(8, "NONE for others", Scenes.RICH, "fault 0", -1, "0 .. 1");
    }

    private static void blanks(Edges edges) {
        edges.at(8, "TOKENS, blanks (32, 10) aside", good(" {10} worn{10}1 {10};  "), good("{10}"), good(" "), good("worn 1 ;"), good("worn 1;{10}"),
                bad("worn{9}1;", CANT_STAND, 4), bad("worn{11}1;", CANT_STAND, 4), bad("worn{13}1;", CANT_STAND, 4), bad("worn{31}1;", CANT_STAND, 4),
                bad("worn{33}1;", CANT_STAND, 4), bad("worn{0}1;", CANT_STAND, 4), bad("worn{160}1;", CANT_STAND, 4), bad("worn{138}1;", CANT_STAND, 4),
                bad("worn 1;{9}", CANT_STAND, 7), bad("{0}", CANT_STAND, 0), bad("{13}{10}", CANT_STAND, 0), bad("wo rn 1;", CANT_STAND, 0),
                bad("worn 1 2;", CANT_STAND, 7), bad("worn 1{10}2;", CANT_STAND, 7));
    }

    private static void letters(Edges edges) {
        edges.at(8, "letters a .. z, A .. Z one behind the other (one TOKEN)", bad("worna 1;", CANT_STAND, 0), bad("wornz 1;", CANT_STAND, 0),
                bad("wornA 1;", CANT_STAND, 0), bad("wornZ 1;", CANT_STAND, 0), bad("aworn 1;", CANT_STAND, 0), bad("worn{96} 1;", CANT_STAND, 4),
                bad("worn{123} 1;", CANT_STAND, 4), bad("worn{64} 1;", CANT_STAND, 4), bad("worn{91} 1;", CANT_STAND, 4), bad("worn{225} 1;", CANT_STAND, 4),
                bad("worn{95} 1;", CANT_STAND, 4), bad("WORN 1;", CANT_STAND, 0), bad("Worn 1;", CANT_STAND, 0), bad("wor", CANT_STAND, 0),
                bad("wornworn 1;", CANT_STAND, 0), bad("worn Year;", CANT_STAND, 5), bad("worn yea;", CANT_STAND, 5), bad("worn years;", CANT_STAND, 5),
                bad("wornyear;", CANT_STAND, 0), good("worn(year);"), good("worn-year;"));
    }

    private static void digits(Edges edges) {
        edges.at(8, "digits likewise (NUMBERS, 0 .. 9999)", good("worn 0;"), good("worn 9;"), good("worn 9999;"), good("worn1;"), good("worn 0009999;"),
                good("worn 00000000000000000000;"), bad("worn 10000;", BAD_NUMBER, 5), bad("worn 09999 9;", CANT_STAND, 11), bad("worn 010000;", BAD_NUMBER, 5),
                bad("worn 1{58};", CANT_STAND, 6), bad("worn {58};", CANT_STAND, 5), bad("worn 1.5;", CANT_STAND, 6), bad("worn 1{178};", CANT_STAND, 6),
                bad("worn 1year;", CANT_STAND, 6), bad("worn year1;", CANT_STAND, 9), bad("worn 2147483648;", BAD_NUMBER, 5),
                bad("worn 4294967296;", BAD_NUMBER, 5), bad("worn 4294967297;", BAD_NUMBER, 5), bad("worn 18446744073709551617;", BAD_NUMBER, 5),
                bad("worn 65537;", BAD_NUMBER, 5));
    }

    private static void signs(Edges edges) {
        edges.at(8, "<= >= < > = # + - * / ( ) ; (the longest).", good("holy 1<2;"), good("holy 1>2;"), good("holy 1=2;"), good("holy 1#2;"), good("holy 1<=2;"),
                good("holy 1>=2;"), good("holy 1+1-1*1/1=(1);"), good("holy 1<-2;"), good("holy 1<=-2;"), bad("holy 1< =2;", CANT_STAND, 8),
                bad("holy 1> =2;", CANT_STAND, 8), bad("holy 1=<2;", CANT_STAND, 7), bad("holy 1=>2;", CANT_STAND, 7), bad("holy 1<>2;", CANT_STAND, 7),
                bad("holy 1==2;", CANT_STAND, 7), bad("holy 1<==2;", CANT_STAND, 8), bad("holy 1>==2;", CANT_STAND, 8), bad("holy 1<<2;", CANT_STAND, 7),
                bad("holy 1##2;", CANT_STAND, 7), bad("holy 1#=2;", CANT_STAND, 7), bad("holy 1<", CANT_STAND, 7), bad("holy 1<=", CANT_STAND, 8),
                bad("worn 1++1;", CANT_STAND, 7), bad("worn 1**1;", CANT_STAND, 7), bad("worn 1//1;", CANT_STAND, 7), bad("worn 1;;", CANT_STAND, 7));
        for (int c : new int[] {1, 33, 34, 36, 37, 38, 39, 44, 46, 58, 63, 64, 91, 92, 93, 94, 95, 96, 123, 124, 125, 126, 127, 128, 171, 188, 233, 255}) {
            edges.at(8, "or is none.", bad("worn 1{" + c + "};", CANT_STAND, 6), bad("{" + c + "}", CANT_STAND, 0),
                    bad("worn {" + c + "};", CANT_STAND, 5), bad("burn 1;{" + c + "}", CANT_STAND, 7));
        }
    }

    private static void order(Edges edges) {
        edges.at(8, "FAULTS, the first as TOKENS are come to", bad("worn 10000 {233}", BAD_NUMBER, 5), bad("worn {233} 10000", CANT_STAND, 5),
                bad("worn otown 10000;", BAD_NAME, 5), bad("worn 10000 otown;", BAD_NUMBER, 5), bad("burn 10 burn", BAD_NUMBER, 5),
                bad("burn 1 burn 10;", CANT_STAND, 7), bad("worn 1;worn {233}", TWICE, 7), bad("kind 1 many 10;kind 20", BAD_NUMBER, 12),
                bad("lend 16 to 10 for 0;", BAD_NUMBER, 5), bad("lend 15 to 10 for 0;", BAD_NUMBER, 11), bad("lend 15 to 9 for 0;", BAD_NUMBER, 17));
        edges.at(8, "at the TOKEN's first byte", bad("  holly 1=1;", CANT_STAND, 2), bad("worn {10} 12345;", BAD_NUMBER, 7), bad("holy 1 >= <= 2;", CANT_STAND, 10),
                bad("worn 1+  weigh;", CANT_STAND, 9));
        edges.at(8, "(of the end at the length)", bad("worn", CANT_STAND, 4), bad("worn ", CANT_STAND, 5), bad("worn 1", CANT_STAND, 6), bad("worn 1 {10} ", CANT_STAND, 9),
                bad("worn 1+", CANT_STAND, 7), bad("worn (1", CANT_STAND, 7), bad("holy 1=1 and", CANT_STAND, 12), bad("kind", CANT_STAND, 4), bad("kind 1", CANT_STAND, 6),
                bad("kind 1 many", CANT_STAND, 11), bad("kind 1 many 1", CANT_STAND, 13), bad("holy not", CANT_STAND, 8), bad("worn -", CANT_STAND, 6),
                bad("lend 1 to 2 for 3", CANT_STAND, 17), bad("pass 1;burn", CANT_STAND, 11));
        edges.at(8, "of one the least", bad("burn 1 10000;", CANT_STAND, 7), bad("worn 1 otown;", CANT_STAND, 7), bad("pass 1;".repeat(24) + "foo", CANT_STAND, 168),
                bad("worn 1;" + "pass 1;".repeat(23) + "worn 2;", TWICE, 168), bad("holy 1=1;" + "pass 1;".repeat(23) + "holy", TWICE, 170),
                bad("worn ((((((((1(", CANT_STAND, 14), bad("worn ((((((((not", CANT_STAND, 13), bad("holy not not not not not not not not 1 not", CANT_STAND, 39),
                bad("pass 1;".repeat(24) + ";", CANT_STAND, 168), bad("pass 1;".repeat(24) + "10000", CANT_STAND, 168));
    }

    private static void clauses(Edges edges) {
        edges.at(8, "1 it can't stand there", bad(";", CANT_STAND, 0), bad("1", CANT_STAND, 0), bad("many 1;", CANT_STAND, 0), bad("year", CANT_STAND, 0),
                bad("not", CANT_STAND, 0), bad("otown", CANT_STAND, 0), bad("to", CANT_STAND, 0), bad("worn 1 worn 1;", CANT_STAND, 7), bad("foo", CANT_STAND, 0));
        edges.at(8, "lend NUMBER to NUMBER for NUMBER ;", good("lend 1 to 2 for 3;"), bad("lend to 2 for 3;", CANT_STAND, 5), bad("lend 1 2 for 3;", CANT_STAND, 7),
                bad("lend 1 for 3 to 2;", CANT_STAND, 7), bad("lend 1 to for 3;", CANT_STAND, 10), bad("lend 1 to 2;", CANT_STAND, 11), bad("lend 1 to 2 3;", CANT_STAND, 12),
                bad("lend 1 to 2 for;", CANT_STAND, 15), bad("lend 1 to 2 for 3 4;", CANT_STAND, 18), bad("lend 1 to 2 with 3;", CANT_STAND, 12),
                bad("lend -1 to 2 for 3;", CANT_STAND, 5), bad("lend (1) to 2 for 3;", CANT_STAND, 5), bad("lend 1 to town for 3;", CANT_STAND, 10));
        edges.at(8, "swap NUMBER with NUMBER ;", good("swap 1 with 2;"), good("swap 1 with 1;"), bad("swap with 2;", CANT_STAND, 5), bad("swap 1 2;", CANT_STAND, 7),
                bad("swap 1 to 2;", CANT_STAND, 7), bad("swap 1 with;", CANT_STAND, 11), bad("swap 1 with 2 with 3;", CANT_STAND, 14));
        edges.at(8, "steal NUMBER to NUMBER ;", good("steal 1 to 2;"), bad("steal to 2;", CANT_STAND, 6), bad("steal 1 2;", CANT_STAND, 8), bad("steal 1 with 2;", CANT_STAND, 8),
                bad("steal 1 to;", CANT_STAND, 10), bad("steal 1 to 2 for 3;", CANT_STAND, 13));
        edges.at(8, "burn NUMBER ;", good("burn 1;"), bad("burn;", CANT_STAND, 4), bad("burn 1 2;", CANT_STAND, 7), bad("burn year;", CANT_STAND, 5), bad("burn 1+1;", CANT_STAND, 6));
        edges.at(8, "pass NUMBER ;.", good("pass 1;"), bad("pass;", CANT_STAND, 4), bad("pass 1 2;", CANT_STAND, 7), bad("pass -1;", CANT_STAND, 5), bad("pass 1", CANT_STAND, 6));
        edges.at(8, "kind NUMBER many NUMBER ;", good("kind 1 many 2;"), bad("kind many 2;", CANT_STAND, 5), bad("kind 1 2;", CANT_STAND, 7), bad("kind 1 many;", CANT_STAND, 11),
                bad("kind 1 many 2 3;", CANT_STAND, 14), bad("kind sort many 2;", CANT_STAND, 5), bad("kind 1 to 2;", CANT_STAND, 7));
    }

    private static void asksAndSums(Edges edges) {
        edges.at(8, "worn SUM ;", good("worn 1;"), bad("worn;", CANT_STAND, 4), bad("worn 1<2;", CANT_STAND, 6), bad("worn not 1;", CANT_STAND, 5), bad("worn 1 and 1;", CANT_STAND, 7));
        edges.at(8, "holy EITHER ;", good("holy 1=1;"), bad("holy;", CANT_STAND, 4), bad("holy 1;", CANT_STAND, 6), bad("holy weight;", CANT_STAND, 11), bad("holy 1=1=1;", CANT_STAND, 8));
        edges.at(8, "unlike EITHER ;", good("unlike 1=1;"), bad("unlike;", CANT_STAND, 6), bad("unlike 1;", CANT_STAND, 8));
        edges.at(8, "EITHER: BOTH {or BOTH}.", good("holy 1=1 or 1=1 or 1=1;"), bad("holy or 1=1;", CANT_STAND, 5), bad("holy 1=1 or;", CANT_STAND, 11), bad("holy 1=1 or or 1=1;", CANT_STAND, 12),
                bad("holy 1 or 1=1;", CANT_STAND, 7));
        edges.at(8, "BOTH: ASK {and ASK}.", good("holy 1=1 and 1=1 and 1=1;"), bad("holy and 1=1;", CANT_STAND, 5), bad("holy 1=1 and;", CANT_STAND, 12), bad("holy 1=1 and or 1=1;", CANT_STAND, 13),
                bad("holy 1=1 1=1;", CANT_STAND, 9));
        edges.at(8, "ASK: not ASK, or SUM one of < <= > >= = # (unlike) SUM.", good("holy not 1=1;"), bad("holy not;", CANT_STAND, 8), bad("holy not 1;", CANT_STAND, 10),
                bad("holy not (1=1);", CANT_STAND, 11), bad("holy (1=1);", CANT_STAND, 7), bad("holy 1=not 1;", CANT_STAND, 7), bad("holy 1 not =1;", CANT_STAND, 7),
                bad("holy -not 1=1;", CANT_STAND, 6), bad("holy =1;", CANT_STAND, 5), bad("holy 1=;", CANT_STAND, 7));
        edges.at(8, "SUM: PRODUCT {+ or - PRODUCT}. PRODUCT: ONE {* or / ONE}.", good("worn 1+1-1*1/1;"), bad("worn 1+;", CANT_STAND, 7), bad("worn 1-;", CANT_STAND, 7),
                bad("worn 1*;", CANT_STAND, 7), bad("worn 1/;", CANT_STAND, 7), bad("worn +1;", CANT_STAND, 5), bad("worn *1;", CANT_STAND, 5), bad("worn 1-+1;", CANT_STAND, 7));
        edges.at(8, "ONE: NUMBER, NAME, ( SUM ), - ONE.", good("worn --(-year);"), bad("worn ();", CANT_STAND, 6), bad("worn (1;", CANT_STAND, 7), bad("worn 1);", CANT_STAND, 6),
                bad("worn (1));", CANT_STAND, 8), bad("worn (1 2);", CANT_STAND, 8), bad("worn -;", CANT_STAND, 6), bad("worn (-);", CANT_STAND, 7), bad("worn 1(2);", CANT_STAND, 6),
                bad("worn year year;", CANT_STAND, 10), bad("worn kind;", CANT_STAND, 5), bad("worn foo;", CANT_STAND, 5));
    }

    private static void numbers(Edges edges) {
        edges.at(8, "2 a NUMBER that isn't one of those told (above 9999;", good("worn 9999;"), bad("worn 10000;", BAD_NUMBER, 5), good("holy 9999=9999;"),
                bad("holy 10000=1;", BAD_NUMBER, 5), bad("holy 1=10000;", BAD_NUMBER, 7), bad("unlike 1=1+10000;", BAD_NUMBER, 11), bad("worn -10000;", BAD_NUMBER, 6),
                bad("worn (10000);", BAD_NUMBER, 6), bad("burn 10000;", BAD_NUMBER, 5));
        edges.at(8, "KINDS 0 .. 19;", good("kind 0 many 1;"), good("kind 19 many 1;"), bad("kind 20 many 1;", BAD_NUMBER, 5), bad("kind 10000 many 1;", BAD_NUMBER, 5));
        edges.at(8, "many 1 .. 9;", bad("kind 0 many 0;", BAD_NUMBER, 12), good("kind 0 many 1;"), good("kind 0 many 9;"), bad("kind 0 many 10;", BAD_NUMBER, 12),
                bad("kind 0 many 99999;", BAD_NUMBER, 12));
        edges.at(8, "BONES 0 .. 15", good("lend 0 to 1 for 1;"), good("lend 15 to 1 for 1;"), bad("lend 16 to 1 for 1;", BAD_NUMBER, 5), good("swap 0 with 15;"), good("swap 15 with 0;"),
                bad("swap 16 with 0;", BAD_NUMBER, 5), bad("swap 0 with 16;", BAD_NUMBER, 12), good("steal 15 to 1;"), good("steal 0 to 1;"), bad("steal 16 to 1;", BAD_NUMBER, 6));
        edges.at(8, "TOWNS 0 .. 9;", good("lend 0 to 0 for 1;"), good("lend 0 to 9 for 1;"), bad("lend 0 to 10 for 1;", BAD_NUMBER, 10), good("steal 0 to 0;"), good("steal 0 to 9;"),
                bad("steal 0 to 10;", BAD_NUMBER, 11), good("burn 0;"), good("burn 9;"), bad("burn 10;", BAD_NUMBER, 5));
        edges.at(8, "years of lend 1 .. 99", bad("lend 0 to 1 for 0;", BAD_NUMBER, 16), good("lend 0 to 1 for 1;"), good("lend 0 to 1 for 99;"), bad("lend 0 to 1 for 100;", BAD_NUMBER, 16));
        edges.at(8, "of pass 0 .. 99)", good("pass 0;"), good("pass 99;"), bad("pass 100;", BAD_NUMBER, 5), good("pass 00;"), good("pass 0099;"));
    }

    private static void depth(Edges edges) {
        String eight = "not ".repeat(8);
        edges.at(8, "3 the 9th of ( not and - (of one ONE)", good("worn ((((((((1))))))));"), bad("worn (((((((((1)))))))));", TOO_DEEP, 13), good("worn --------1;"),
                bad("worn ---------1;", TOO_DEEP, 13), good("holy " + eight + "1=1;"), bad("holy " + eight + "not 1=1;", TOO_DEEP, 37), bad("worn (((((((((", TOO_DEEP, 13),
                bad("worn ---------", TOO_DEEP, 13), bad("holy " + eight + "not", TOO_DEEP, 37), bad("holy " + eight + "(1)=1;", TOO_DEEP, 37), bad("holy " + eight + "-1=1;", TOO_DEEP, 37),
                bad("holy " + eight + "1=-1;", TOO_DEEP, 39), bad("holy " + eight + "1=(1);", TOO_DEEP, 39), good("worn 1---------1;"), bad("worn 1----------1;", TOO_DEEP, 15),
                good("unlike not (-(-(-(1))))=1;"), bad("unlike not (-(-(-(-1))))=1;", TOO_DEEP, 18), good("unlike " + "not ".repeat(4) + "(-(-1))=1;"), bad("unlike " + "not ".repeat(4) + "(-(-(1)))=1;", TOO_DEEP, 27));
        edges.at(8, "that are open around one another (at it).", good("worn (1)+(1)+(1)+(1)+(1)+(1)+(1)+(1)+(1)+(1);"), good("worn -1+-1+-1+-1+-1+-1+-1+-1+-1+-1;"),
                good("holy not 1=1 and not 1=1 and not 1=1 and not 1=1 and not 1=1 and not 1=1 and not 1=1 and not 1=1 and not 1=1;"),
                good("worn ((((((((1))))))))+((((((((1))))))));"), good("holy " + eight + "1=1 and " + eight + "1=1;"), good("worn (((((((-1)+-1)+-1))-1-1)-(1)));"),
                good("worn (((((((1)+(1))))-1-1-1)));"), good("holy (((((((1)))))))=-(((((((1)))))));"), bad("holy (((((((1)))))))=-((((((((1))))))));", TOO_DEEP, 29),
                good("worn -(-(-(-(1-1))));"), bad("worn -(-(-(-(1-(1)))));", TOO_DEEP, 15), bad("worn -(-(-(-(1*-1))));", TOO_DEEP, 15));
    }

    private static void twice(Edges edges) {
        edges.at(8, "4 worn, holy, unlike for the second time (at it)", bad("worn 1;worn 1;", TWICE, 7), bad("worn 1; worn", TWICE, 8), bad("holy 1=1;holy 1=1;", TWICE, 9),
                bad("unlike 1=1;unlike 1=1;", TWICE, 11), bad("worn 1;holy 1=1;unlike 1=1;worn", TWICE, 27), good("worn 1;holy 1=1;unlike 1=1;"), good("unlike 1=1;holy 1=1;worn 1;"),
                "told worn 1; => 0\ntold worn 1; => 1\n", "told worn 1;worn => -1\ntold worn 1; => 0\n");
        edges.at(8, "a KIND that was told already (at its NUMBER).", bad("kind 3 many 1;kind 3 many 1;", TWICE, 19), bad("kind 0 many 9;kind 0", TWICE, 19), bad("kind 19 many 1;kind 19", TWICE, 20),
                bad("kind 3 many 1;kind 003 many 1;", TWICE, 19), good("kind 3 many 1;kind 4 many 1;kind 2 many 1;"), bad("kind 3 many 1;kind 23", BAD_NUMBER, 19),
                bad("kind 3 many 1;pass 1;kind 3", TWICE, 26), "told kind 3 many 1; => 0\ntold kind 3 many 1; => 1\n", "told kind 3 many 1;kind 3 => -1\ntold kind 3 many 1; => 0\n",
                good("pass 1;pass 1;burn 1;burn 1;lend 1 to 1 for 1;lend 1 to 1 for 1;swap 1 with 1;swap 1 with 1;steal 1 to 1;steal 1 to 1;"));
        edges.at(8, "(each once)", bad("worn 1;worn 1;", TWICE, 7), bad("holy 1=1;holy 1=1;", TWICE, 9), bad("unlike 1=1;unlike 1=1;", TWICE, 11));
    }

    private static void names(Edges edges) {
        for (String name : new String[] {"osort", "oweight", "otown"}) {
            edges.at(8, "5 a NAME that isn't of that CLAUSE (at it).", bad("worn " + name + ";", BAD_NAME, 5), bad("holy " + name + "=1;", BAD_NAME, 5),
                    bad("holy 1= " + name + ";", BAD_NAME, 8), good("unlike " + name + "=1;"), good("unlike 1=" + name + ";"), bad("unlike 1=1;worn " + name + ";", BAD_NAME, 16),
                    bad("unlike 1=1;holy 1=" + name + ";", BAD_NAME, 18), bad("worn (-" + name + ");", BAD_NAME, 7));
        }
        for (String name : new String[] {"sort", "weight", "town", "proofs", "year"}) {
            edges.at(8, "NAMES: sort (the KIND), weight, town (AT), proofs (of how many TOWNS), year;", good("worn " + name + ";"), good("holy " + name + "=1;"), good("unlike " + name + "=1;"));
        }
    }

    private static void tooMany(Edges edges) {
        String many = "pass 1;".repeat(24);
        edges.at(8, "6 the 25th CLAUSE (at its first TOKEN).", good(many), good(many + " {10} "), bad(many + "pass 1;", TOO_MANY, 168), bad(many + " {10}pass 1;", TOO_MANY, 170),
                bad(many + "worn", TOO_MANY, 168), bad(many + "holy", TOO_MANY, 168), bad(many + "unlike", TOO_MANY, 168), bad(many + "kind", TOO_MANY, 168), bad(many + "lend", TOO_MANY, 168),
                bad(many + "swap", TOO_MANY, 168), bad(many + "steal", TOO_MANY, 168), bad(many + "burn", TOO_MANY, 168), bad(many + "pass 100", TOO_MANY, 168),
                bad("kind 1 many 1;" + "pass 1;".repeat(23) + "kind 1 many 1;", TOO_MANY, 175), bad("pass 1;".repeat(23) + "pass 100;", BAD_NUMBER, 166),
                bad("pass 1;".repeat(23) + "pass 1", CANT_STAND, 167));
    }
}
