/** Each promise of the document by hand: ordinary calls, its edges, and wrong ones. */
public final class PromisesTest {
    private static final int NONE = NineGraves.NONE;
    private static final int OTHERS = -2;
    private static final int[] WILD = {Integer.MIN_VALUE, -1000, -3, 1 << 10, 1 << 16, 70000, Integer.MAX_VALUE};

    private static int passed;
    private static int failed;
    private static int promise;

    private PromisesTest() {
    }

    private static void due(String what, long got, long want) {
        if (got == want) {
            passed++;
        } else {
            failed++;
            System.out.println("promise " + promise + ": " + what + " answered " + got + ", due is " + want);
        }
    }

    private static void due(String what, boolean got, boolean want) {
        due(what, got ? 1 : 0, want ? 1 : 0);
    }

    public static void main(String[] args) {
        Runnable[] promises = {
            PromisesTest::newObject, PromisesTest::town, PromisesTest::bone, PromisesTest::prove, PromisesTest::feed,
            PromisesTest::end, PromisesTest::text, PromisesTest::fault, PromisesTest::by, PromisesTest::lend,
            PromisesTest::swap, PromisesTest::steal, PromisesTest::burn, PromisesTest::pass, PromisesTest::played,
            PromisesTest::undo, PromisesTest::of, PromisesTest::saints, PromisesTest::rules, PromisesTest::seen,
            PromisesTest::forget, PromisesTest::same, PromisesTest::best, PromisesTest::histories, PromisesTest::led,
            PromisesTest::chance, PromisesTest::round, PromisesTest::pilgrims, PromisesTest::image,
            PromisesTest::back, PromisesTest::about};
        for (Runnable p : promises) {
            promise++;
            p.run();
        }
        System.out.println(promise + " promises: " + passed + " answers as due, " + failed + " not");
        if (failed != 0 || promise != 31) {
            System.exit(1);
        }
    }

    // ---- helpers

    /** Towns at 0 0, 10 0, 20 0, .. */
    private static NineGraves towns(int n) {
        NineGraves x = new NineGraves();
        for (int i = 0; i < n; i++) {
            x.town(i * 10, 0);
        }
        return x;
    }

    /** Three towns; BONES of the given kinds, weights 100, 101, .., all of TOWN 0. */
    private static NineGraves bones(int... kinds) {
        NineGraves x = towns(3);
        for (int i = 0; i < kinds.length; i++) {
            x.bone(kinds[i], 100 + i, 0);
        }
        return x;
    }

    private static void put(NineGraves x, String text) {
        x.end(0);
        for (int i = 0; i < text.length(); i += 20) {
            int[] five = new int[5];
            for (int k = 0; k < 20; k++) {
                five[k / 4] = five[k / 4] << 8 | (i + k < text.length() ? text.charAt(i + k) : 0);
            }
            x.feed(five[0], five[1], five[2], five[3], five[4]);
        }
        x.end(text.length());
    }

    private static int told(NineGraves x, String text) {
        put(x, text);
        return x.text();
    }

    private static NineGraves law(NineGraves x, String text) {
        int n = told(x, text);
        if (n == NONE || !x.by(n)) {
            throw new IllegalStateException("not a text: " + text + " at " + x.fault(1));
        }
        return x;
    }

    private static void faulty(String text, int fault, int place) {
        NineGraves x = new NineGraves();
        due("text of <" + text + ">", told(x, text), fault == 0 ? 0 : NONE);
        due("fault(0) of <" + text + ">", x.fault(0), fault);
        due("fault(1) of <" + text + ">", x.fault(1), place);
    }

    private static String times(int n, String s) {
        return s.repeat(n);
    }

    /** What worn comes to for a BONE of kind 3, weight 500, AT TOWN 1, with 2 PROOFS, in the year 1. */
    private static void worth(String sum, int want) {
        NineGraves x = towns(3);
        x.bone(3, 500, 1);
        x.prove(0, 0);
        x.prove(2, 0);
        law(x, "worn " + sum + ";");
        x.pass(1);
        due("worn " + sum, 500 - x.of(0, 1), want);
    }

    private static void holy(String either, boolean want) {
        NineGraves x = towns(3);
        x.bone(3, 500, 1);
        x.prove(0, 0);
        law(x, "holy " + either + ";");
        due("holy " + either, x.of(0, 6), want ? 1 : 0);
    }

    // ---- the promises

    private static void newObject() {
        NineGraves x = new NineGraves();
        int[] want = {0, 0, 0, 0, NONE, 0, 0, 1, 10, 0};
        for (int i = 0; i < 10; i++) {
            due("about(" + i + ")", x.about(i), want[i]);
        }
        due("about(10)", x.about(10), OTHERS);
        due("NONE", NONE, -1);
        x.town(1, 1);
        x.bone(1, 1, 0);
        x.pass(7);
        due("back() without an image", x.back(), 0);
        due("about(0)", x.about(0), 0);
        due("about(1)", x.about(1), 0);
        due("about(5)", x.about(5), 0);
    }

    private static void town() {
        NineGraves x = new NineGraves();
        due("town(-1, 0)", x.town(-1, 0), NONE);
        due("town(0, -1)", x.town(0, -1), NONE);
        due("town(100, 0)", x.town(100, 0), NONE);
        due("town(0, 100)", x.town(0, 100), NONE);
        for (int w : WILD) {
            due("town(wild)", x.town(w, 5), NONE);
            due("town(wild)", x.town(5, w), NONE);
        }
        due("town(99, 0)", x.town(99, 0), 0);
        due("town(0, 99)", x.town(0, 99), 1);
        due("round(3, -1)", x.round(3, -1), 2 * (99 + 99));
        for (int i = 2; i < 10; i++) {
            due("town(0, 99) again", x.town(0, 99), i);
        }
        due("the 11th", x.town(1, 1), NONE);
        due("about(0)", x.about(0), 10);
        due("about(5)", x.about(5), 0);
    }

    private static void bone() {
        NineGraves x = new NineGraves();
        due("bone without a town", x.bone(0, 1, 0), NONE);
        x.town(0, 0);
        x.town(1, 1);
        due("kind -1", x.bone(-1, 1, 0), NONE);
        due("kind 20", x.bone(20, 1, 0), NONE);
        due("weight 0", x.bone(0, 0, 0), NONE);
        due("weight 1000", x.bone(0, 1000, 0), NONE);
        due("owner -1", x.bone(0, 1, -1), NONE);
        due("owner 2", x.bone(0, 1, 2), NONE);
        for (int w : WILD) {
            due("bone(wild)", x.bone(w, 1, 0), NONE);
            due("bone(wild)", x.bone(0, w, 0), NONE);
            due("bone(wild)", x.bone(0, 1, w), NONE);
        }
        due("bone(19, 999, 1)", x.bone(19, 999, 1), 0);
        int[] want = {19, 999, 1, 1, NONE, 0, 1};
        for (int i = 0; i < want.length; i++) {
            due("of(0, " + i + ")", x.of(0, i), want[i]);
        }
        for (int i = 1; i < 16; i++) {
            due("bone(0, 1, 0)", x.bone(0, 1, 0), i);
        }
        due("the 17th", x.bone(0, 1, 0), NONE);
        due("about(1)", x.about(1), 16);
        due("about(5)", x.about(5), 0);
    }

    private static void prove() {
        NineGraves x = bones(0, 0);
        due("prove(0, 2)", x.prove(0, 2), false);
        due("prove(3, 0)", x.prove(3, 0), false);
        due("prove(-1, 0)", x.prove(-1, 0), false);
        due("prove(0, -1)", x.prove(0, -1), false);
        for (int w : WILD) {
            due("prove(wild)", x.prove(w, 0), false);
            due("prove(wild)", x.prove(0, w), false);
        }
        due("about(5)", x.about(5), 0);
        due("prove(2, 1)", x.prove(2, 1), true);
        due("prove(2, 1) again", x.prove(2, 1), false);
        due("prove(2, 0)", x.prove(2, 0), true);
        due("prove(0, 1)", x.prove(0, 1), true);
        due("about(5)", x.about(5), 3);
        due("about(10)", x.about(10), 1);
        due("about(11)", x.about(11), 0);
        due("about(12)", x.about(12), 2);
        due("of(0, 5)", x.of(0, 5), 1);
        due("of(1, 5)", x.of(1, 5), 2);
    }

    private static void feed() {
        NineGraves x = new NineGraves();
        for (int i = 1; i <= 15; i++) {
            due("feed", x.feed(0, 0, 0, 0, 0), 20 * i);
        }
        due("feed beyond 300", x.feed(0, 0, 0, 0, 0), NONE);
        due("about(9)", x.about(9), 300);
        x.end(281);
        due("feed beyond 300", x.feed(0, 0, 0, 0, 0), NONE);
        due("about(9)", x.about(9), 281);
        x.end(280);
        due("feed", x.feed(0, 0, 0, 0, 0), 300);
        x.end(0);
        // "burn" "0   " "    " "    " "   ;": the highest byte first, and it comes behind what is there
        x.feed(0x6275726e, 0x30202020, 0x20202020, 0x20202020, 0x2020203b);
        x.feed(0x6275726e, 0x30202020, 0x20202020, 0x20202020, 0x202020ff);
        due("text", x.text(), NONE);
        due("fault(0)", x.fault(0), 1);
        due("fault(1)", x.fault(1), 39);
    }

    private static void end() {
        NineGraves x = new NineGraves();
        due("end(0)", x.end(0), 0);
        due("end(1)", x.end(1), NONE);
        due("end(-1)", x.end(-1), NONE);
        x.feed(0x6275726e, 0x20303b62, 0x75726e20, 0x313b6275, 0x726e2032); // burn 0;burn 1;burn 2
        due("end(21)", x.end(21), NONE);
        due("about(9)", x.about(9), 20);
        due("end(20)", x.end(20), 20);
        for (int w : WILD) {
            due("end(wild)", x.end(w), NONE);
        }
        due("end(14)", x.end(14), 14);
        due("about(9)", x.about(9), 14);
        due("end(15)", x.end(15), NONE);
        due("text", x.text(), 0);
        due("played", towns(1).played(0), OTHERS);
    }

    private static void text() {
        NineGraves x = new NineGraves();
        due("an empty text", x.text(), 0);
        due("a fault", told(x, "worn"), NONE);
        due("the tape after a fault", x.about(9), 0);
        due("about(3)", x.about(3), 1);
        due("blanks", told(x, " \n "), 1);
        due("all clauses", told(x, "kind 0 many 9;lend 15 to 9 for 99;swap 15 with 0;steal 15 to 9;burn 9;pass 99;"), 2);
        due("the tape after a text", x.about(9), 0);
        due("300 bytes", told(x, times(290, " ") + "worn 12  ;"), 3);
        put(x, "burn");
        due("a fifth", x.text(), NONE);
        due("the tape after a fifth", x.about(9), 4);
        due("fault(0) is of the text read before", x.fault(0), 0);
        due("about(3)", x.about(3), 4);
        sums();
        asks();
        manyTexts();
    }

    /** What was read before must not be in the way of what is read later. */
    private static void manyTexts() {
        NineGraves x = bones(0);
        x.image();
        String[] spoiled = {"worn 1" + times(60, "+1") + "+", "kind 0 many 3;kind 0", "unlike 1=1 or 2=3;holy 1=otown"};
        for (int i = 0; i < 6; i++) {
            for (String s : spoiled) {
                due("a text with a fault", told(x, s), NONE);
            }
            x.back();
            law(x, "kind 0 many 1;holy 1=2;worn 5" + times(130, "+1") + ";");
            due("HOLY", x.of(0, 6), 0);
            x.back();
            law(x, "worn 1+sort" + times(50, "+1") + ";");
            due("HOLY", x.of(0, 6), 1);
            x.pass(1);
            due("worn 51", x.of(0, 1), 49);
        }
    }

    private static void sums() {
        worth("7", 7);
        worth("sort", 3);
        worth("weight/5", 100);
        worth("town", 1);
        worth("proofs", 2);
        worth("year", 1);
        worth("10-2-3", 5);
        worth("2+3*4", 14);
        worth("(2+3)*4", 20);
        worth("100/7/2", 7);
        worth("2*3+4*5-6/2", 23);
        worth("10--3", 13);
        worth("-(-7)", 7);
        worth("- -7", 7);
        worth("-7/2+10", 7);
        worth("7/-2+10", 7);
        worth("5/0", 0);
        worth("5/(1-1)+4", 4);
        worth("1-2", 0);
        worth("9999*9999/9999", 100);
        worth("-9999*9999/-9999", 100);
        worth("(9999*9999+9999-9999*100-99)", 1);
        worth("0-9999*9999-9999+9999*100+107", 7);
        worth("9999*9999", 499);
        worth("0012", 12);
        worth(" \n7\n", 7);
        worth("-----(((8)))", 0);
        worth("-(8)/-3", 2);
        worth("----((((8))))", 8);
    }

    private static void asks() {
        holy("1<2", true);
        holy("2<2", false);
        holy("2<=2", true);
        holy("3<=2", false);
        holy("2>1", true);
        holy("2>2", false);
        holy("2>=2", true);
        holy("1>=2", false);
        holy("2=2", true);
        holy("1=2", false);
        holy("1#2", true);
        holy("2#2", false);
        holy("not 1=2", true);
        holy("not not 1=2", false);
        holy("1=1 or 1=1 and 1=2", true);
        holy("1=2 and 1=1 or 1=1", true);
        holy("1=1 or 1=2 and 1=2", true);
        holy("1=2 or 1=1 and 1=1", true);
        holy("1=2 or 1=1 and 1=2", false);
        holy("1=2 and 1=2 or 1=2", false);
        holy("not 1=1 or 1=1", true);
        holy("not 1=2 and 1=2", false);
        holy("1=2 or 1=2 or 1=1", true);
        holy("1=1 and 1=1 and 1=2", false);
        holy("sort=3 and weight=500 and town=1 and proofs=1 and year=0", true);
        holy("2*sort-1>=proofs+4", true);
        holy("-sort<-2", true);
    }

    private static void fault() {
        NineGraves x = new NineGraves();
        due("fault(0) ahead of any", x.fault(0), NONE);
        due("fault(1) ahead of any", x.fault(1), NONE);
        told(x, "worn 1;");
        due("fault(0) without", x.fault(0), 0);
        due("fault(1) without", x.fault(1), NONE);
        told(x, "worn 1; worn 2;");
        due("fault(0)", x.fault(0), 4);
        due("fault(1)", x.fault(1), 8);
        due("fault(2)", x.fault(2), NONE);
        due("fault(-1)", x.fault(-1), NONE);
        for (int w : WILD) {
            due("fault(wild)", x.fault(w), NONE);
        }
        cantStand();
        badNumbers();
        tooDeep();
        twice();
        badNames();
        tooManyClauses();
    }

    private static void cantStand() {
        faulty("foo 1;", 1, 0);
        faulty("Worn 1;", 1, 0);
        faulty("wor n 1;", 1, 0);
        faulty("wornz 1;", 1, 0);
        faulty("wornA 1;", 1, 0);
        faulty("wornZ 1;", 1, 0);
        faulty("worn1;", 0, NONE);
        for (char c : new char[] {'@', '[', '`', '{', '.', ':', 9, 13, 31, 33, 127, 128, 160, 255}) {
            faulty("worn" + c + "1;", 1, 4);
            faulty("worn 1" + c + ";", 1, 6);
        }
        faulty(" ;", 1, 1);
        faulty("worn 1;;", 1, 7);
        faulty("worn 1", 1, 6);
        faulty("worn 1  \n", 1, 9);
        faulty("worn", 1, 4);
        faulty("worn ;", 1, 5);
        faulty("worn 1 2;", 1, 7);
        faulty("worn 1<2;", 1, 6);
        faulty("worn 1 and 2;", 1, 7);
        faulty("worn not 1;", 1, 5);
        faulty("worn (1;", 1, 7);
        faulty("worn 1);", 1, 6);
        faulty("worn (1<2);", 1, 7);
        faulty("worn +1;", 1, 5);
        faulty("worn 1+;", 1, 7);
        faulty("worn 1*/2;", 1, 7);
        faulty("worn kind;", 1, 5);
        faulty("worn year1;", 1, 9);
        faulty("worn 1!;", 1, 6);
        faulty("worn 1\t;", 1, 6);
        faulty("worn 1" + (char) 233 + ";", 1, 6);
        faulty("worn 1" + (char) 0 + ";", 1, 6);
        faulty("holy 1;", 1, 6);
        faulty("holy 1<2<3;", 1, 8);
        faulty("holy 1< =2;", 1, 8);
        faulty("holy 1=<2;", 1, 7);
        faulty("holy 1<=2;", 0, NONE);
        faulty("holy (1<2);", 1, 7);
        faulty("holy not;", 1, 8);
        faulty("holy 1 not <2;", 1, 7);
        faulty("holy 1<not 2;", 1, 7);
        faulty("holy 1<2 or;", 1, 11);
        faulty("holy or 1<2;", 1, 5);
        faulty("holy -not 1<2;", 1, 6);
        faulty("kind many 1;", 1, 5);
        faulty("kind 1 1;", 1, 7);
        faulty("kind 1 many;", 1, 11);
        faulty("kind -1 many 1;", 1, 5);
        faulty("lend 0 for 1 to 2;", 1, 7);
        faulty("lend 0 to 1 to 2;", 1, 12);
        faulty("lend 0 to 1;", 1, 11);
        faulty("lend0to1for2;", 0, NONE);
        faulty("swap 0 to 1;", 1, 7);
        faulty("steal 0 with 1;", 1, 8);
        faulty("burn 1 1;", 1, 7);
        faulty("burn 99999 burn;", 2, 5);
        faulty("burn 1 99999;", 1, 7);
        faulty("pass year;", 1, 5);
        faulty("worn 99999 !", 2, 5);
    }

    private static void badNumbers() {
        faulty("worn 9999;", 0, NONE);
        faulty("worn 10000;", 2, 5);
        faulty("worn 00009999;", 0, NONE);
        faulty("worn 1+" + times(40, "9") + ";", 2, 7);
        faulty("worn " + times(40, "0") + "7;", 0, NONE);
        faulty("holy 4294967297=1;", 2, 5);
        faulty("holy 1=18446744073709551617;", 2, 7);
        faulty("kind 19 many 9;", 0, NONE);
        faulty("kind 20 many 9;", 2, 5);
        faulty("kind 0 many 10;", 2, 12);
        faulty("kind 0 many 0;", 2, 12);
        faulty("kind 0 many 1;", 0, NONE);
        faulty("lend 15 to 9 for 99;", 0, NONE);
        faulty("lend 16 to 9 for 99;", 2, 5);
        faulty("lend 15 to 10 for 99;", 2, 11);
        faulty("lend 15 to 9 for 100;", 2, 17);
        faulty("lend 0 to 0 for 0;", 2, 16);
        faulty("lend 0 to 0 for 1;", 0, NONE);
        faulty("swap 15 with 15;", 0, NONE);
        faulty("swap 16 with 0;", 2, 5);
        faulty("swap 0 with 16;", 2, 12);
        faulty("steal 15 to 9;", 0, NONE);
        faulty("steal 16 to 9;", 2, 6);
        faulty("steal 15 to 10;", 2, 12);
        faulty("burn 9;", 0, NONE);
        faulty("burn 10;", 2, 5);
        faulty("pass 0;", 0, NONE);
        faulty("pass 99;", 0, NONE);
        faulty("pass 100;", 2, 5);
    }

    private static void tooDeep() {
        faulty("worn ((((((((1))))))));", 0, NONE);
        faulty("worn (((((((((1", 3, 13);
        faulty("worn --------1;", 0, NONE);
        faulty("worn ---------1;", 3, 13);
        faulty("worn 1---------1;", 0, NONE);
        faulty("worn 1----------1;", 3, 15);
        faulty("worn ((((1))))+((((((((1))))))));", 0, NONE);
        faulty("worn ((((-(-(1+1))))));", 0, NONE);
        faulty("worn ((((-(-(1+(1", 3, 15);
        faulty("holy " + times(8, "not ") + "1=1;", 0, NONE);
        faulty("holy " + times(9, "not ") + "1=1;", 3, 37);
        faulty("holy " + times(7, "not ") + "(1)=-1;", 0, NONE);
        faulty("holy " + times(7, "not ") + "(1)=-(1);", 3, 38);
        faulty("holy not 1=1 and " + times(8, "not ") + "1=1;", 0, NONE);
        faulty("worn ((((((((1)(", 1, 15);
        faulty("worn (((((((( not", 1, 14);
        faulty("worn (-(-(-(-5)+1)));", 0, NONE);
        faulty("worn -1+-1+-1+-1+-1+-1+-1+-1+-1+-1;", 0, NONE);
    }

    private static void twice() {
        faulty("worn 1;holy 1=1;unlike 1=1;", 0, NONE);
        faulty("worn 1;worn", 4, 7);
        faulty("holy 1=1;holy", 4, 9);
        faulty("unlike 1=1;burn 0;unlike", 4, 18);
        faulty("kind 3 many 1;kind 4 many 1;kind 3 many 1;", 4, 33);
        faulty("kind 3 many 1;kind 03 many 1;", 4, 19);
        faulty("kind 3 many 1;kind 23 many 1;", 2, 19);
        faulty("kind 0 many 1;kind 0", 4, 19);
        faulty("burn 1;burn 1;pass 1;pass 1;", 0, NONE);
    }

    private static void badNames() {
        for (String name : new String[] {"osort", "oweight", "otown"}) {
            faulty("worn " + name + ";", 5, 5);
            faulty("holy 1=" + name + ";", 5, 7);
            faulty("unlike 1=" + name + ";", 0, NONE);
            faulty("unlike 1=1;holy " + name, 5, 16);
            faulty("holy 1 " + name, 1, 7);
            faulty("kind " + name, 1, 5);
        }
        for (String name : new String[] {"sort", "weight", "town", "proofs", "year"}) {
            faulty("worn " + name + ";holy " + name + "=1;unlike " + name + "=1;", 0, NONE);
        }
        faulty("worn oyear;", 1, 5);
        faulty("worn oproofs;", 1, 5);
    }

    private static void tooManyClauses() {
        String many = times(24, "burn 0;");
        faulty(many, 0, NONE);
        faulty(many + " \n", 0, NONE);
        faulty(many + " burn 0;", 6, 169);
        faulty(many + "worn", 6, 168);
        faulty(many + ";", 1, 168);
        faulty(many + "with", 1, 168);
        faulty("worn 1;" + times(23, "burn 0;") + "worn", 4, 168);
        faulty("kind 1 many 1;" + times(23, "burn 0;") + "kind 1", 6, 175);
    }

    private static void by() {
        NineGraves x = bones(0);
        due("by(0)", x.by(0), false);
        due("by(NONE)", x.by(NONE), true);
        told(x, "holy 1=2;");
        told(x, "holy 1=1;");
        due("of(0, 6) by none", x.of(0, 6), 1);
        due("by(0)", x.by(0), true);
        due("about(4)", x.about(4), 0);
        due("of(0, 6) by 0", x.of(0, 6), 0);
        due("by(2)", x.by(2), false);
        due("by(-2)", x.by(-2), false);
        for (int w : WILD) {
            due("by(wild)", x.by(w), false);
        }
        due("about(4)", x.about(4), 0);
        due("by(1)", x.by(1), true);
        due("of(0, 6) by 1", x.of(0, 6), 1);
        due("by(NONE)", x.by(NONE), true);
        due("about(4)", x.about(4), NONE);
        due("about(5)", x.about(5), 0);
    }

    private static void lend() {
        NineGraves x = bones(0, 0);
        due("to where it is", x.lend(0, 0, 5), NONE);
        due("for 0", x.lend(0, 1, 0), NONE);
        due("for 100", x.lend(0, 1, 100), NONE);
        due("bone 2", x.lend(2, 1, 1), NONE);
        due("town 3", x.lend(0, 3, 1), NONE);
        for (int w : WILD) {
            due("lend(wild)", x.lend(w, 1, 1), NONE);
            due("lend(wild)", x.lend(0, w, 1), NONE);
            due("lend(wild)", x.lend(0, 1, w), NONE);
        }
        due("about(5)", x.about(5), 0);
        x.pass(3);
        due("lend(0, 1, 99)", x.lend(0, 1, 99), 102);
        due("AT", x.of(0, 3), 1);
        due("OWNER", x.of(0, 2), 0);
        due("DUE", x.of(0, 4), 102);
        due("about(5)", x.about(5), 2);
        due("lent already", x.lend(0, 2, 1), NONE);
        x.swap(0, 1);
        due("lent already, though AT its OWNER", x.lend(0, 2, 1), NONE);
        due("not AT its OWNER, though not lent", x.lend(1, 2, 1), NONE);
        for (int i = 0; i < 10; i++) {
            x.pass(99);
        }
        x.pass(1);
        due("year", x.about(2), 994);
        due("beyond 999", x.lend(0, 1, 6), NONE);
        due("up to 999", x.lend(0, 1, 5), 999);
        due("pass", x.pass(5), 999);
        due("back home", x.of(0, 3), 0);
    }

    private static void swap() {
        NineGraves x = bones(0, 0, 1);
        due("the same town", x.swap(0, 1), false);
        due("the same bone", x.swap(0, 0), false);
        due("bone 3", x.swap(0, 3), false);
        due("bone -1", x.swap(-1, 0), false);
        for (int w : WILD) {
            due("swap(wild)", x.swap(w, 0), false);
            due("swap(wild)", x.swap(0, w), false);
        }
        due("about(5)", x.about(5), 0);
        x.lend(0, 2, 4);
        x.bone(5, 7, 1);
        due("swap(0, 3)", x.swap(0, 3), true);
        due("AT", x.of(0, 3), 1);
        due("AT of the other", x.of(3, 3), 2);
        due("OWNER", x.of(0, 2), 0);
        due("OWNER of the other", x.of(3, 2), 1);
        due("DUE", x.of(0, 4), 4);
        due("DUE of the other", x.of(3, 4), NONE);
        due("about(5)", x.about(5), 2);
        x.pass(4);
        due("the lent one goes home", x.of(0, 3), 0);
        due("the other stays", x.of(3, 3), 2);
    }

    private static void steal() {
        NineGraves x = bones(0, 0);
        due("where it is", x.steal(0, 0), false);
        due("bone 2", x.steal(2, 1), false);
        due("town 3", x.steal(0, 3), false);
        for (int w : WILD) {
            due("steal(wild)", x.steal(w, 1), false);
            due("steal(wild)", x.steal(0, w), false);
        }
        due("about(5)", x.about(5), 0);
        x.lend(0, 1, 9);
        due("stolen from where it is lent to", x.steal(0, 2), true);
        due("OWNER", x.of(0, 2), 2);
        due("AT", x.of(0, 3), 2);
        due("DUE", x.of(0, 4), NONE);
        due("about(5)", x.about(5), 2);
        x.pass(9);
        due("it stays", x.of(0, 3), 2);
        x.lend(1, 1, 9);
        due("its OWNER steals it", x.steal(1, 0), true);
        due("DUE", x.of(1, 4), NONE);
        due("OWNER", x.of(1, 2), 0);
    }

    private static void burn() {
        NineGraves x = bones(0, 0);
        due("burn(3)", x.burn(3), NONE);
        due("burn(-1)", x.burn(-1), NONE);
        for (int w : WILD) {
            due("burn(wild)", x.burn(w), NONE);
        }
        due("about(5)", x.about(5), 0);
        due("burn(0)", x.burn(0), 0);
        due("about(5)", x.about(5), 1);
        x.prove(1, 0);
        x.prove(1, 1);
        x.prove(2, 1);
        due("burn(1)", x.burn(1), 2);
        due("about(11)", x.about(11), 0);
        due("about(12)", x.about(12), 1);
        due("of(1, 5)", x.of(1, 5), 1);
        due("prove(1, 0) again", x.prove(1, 0), true);
    }

    private static void pass() {
        NineGraves x = bones(0, 2);
        due("pass(-1)", x.pass(-1), NONE);
        due("pass(100)", x.pass(100), NONE);
        for (int w : WILD) {
            due("pass(wild)", x.pass(w), NONE);
        }
        due("pass(0)", x.pass(0), 0);
        due("about(5)", x.about(5), 1);
        x.lend(0, 1, 3);
        due("pass(2)", x.pass(2), 2);
        due("AT", x.of(0, 3), 1);
        due("pass(1)", x.pass(1), 3);
        due("AT", x.of(0, 3), 0);
        due("DUE", x.of(0, 4), NONE);
        due("WEIGHT without worn", x.of(0, 1), 100);
        law(x, "worn sort * year - 5;");
        due("pass(2)", x.pass(2), 5);
        due("worn below 0", x.of(0, 1), 100);
        due("worn 2*4-5 and 2*5-5", x.of(1, 1), 101 - 3 - 5);
        due("pass(99)", x.pass(99), 104);
        due("WEIGHT 1 at least", x.of(1, 1), 1);
        for (int i = 0; i < 9; i++) {
            x.pass(99);
        }
        due("beyond 999", x.pass(5), NONE);
        due("year", x.about(2), 995);
        due("up to 999", x.pass(4), 999);
        due("pass(0)", x.pass(0), 999);
        due("pass(1)", x.pass(1), NONE);
        wornByYear();
    }

    private static void wornByYear() {
        NineGraves x = bones(0);
        law(x, "worn town * 10;");
        x.lend(0, 2, 2);
        x.pass(5);
        due("worn where it is yet as it is due", x.of(0, 1), 100 - 40);
        NineGraves y = bones(0);
        law(y, "worn weight / 2 + proofs;");
        y.prove(1, 0);
        y.pass(2);
        due("worn of the weight of each year", y.of(0, 1), 24 - 0);
        law(y, "burn 0;");
        y.pass(2);
        due("a text without worn", y.of(0, 1), 24);
    }

    private static void played() {
        NineGraves x = bones(0, 0, 0);
        due("played(0)", x.played(0), OTHERS);
        due("played(-1)", x.played(-1), OTHERS);
        for (int w : WILD) {
            due("played(wild)", x.played(w), OTHERS);
        }
        told(x, "worn 9;lend 0 to 1 for 2;kind 0 many 2;swap 0 with 1;steal 2 to 2;pass 1;burn 2;");
        x.prove(2, 2);
        due("played(0)", x.played(0), NONE);
        due("lent and swapped", x.of(0, 3), 0);
        due("swapped", x.of(1, 3), 1);
        due("lent", x.of(0, 4), 2);
        due("stolen", x.of(2, 2), 2);
        due("passed", x.about(2), 1);
        due("burnt", x.about(12), 0);
        due("not worn by the script, only by THE TEXT", x.of(0, 1), 100);
        due("steps", x.about(5), 6);
        due("again: it is lent", x.played(0), 1);
        due("steps", x.about(5), 6);
        told(x, "holy 1=1;pass 2;burn 3;pass 1;");
        due("played(1)", x.played(1), 2);
        due("what was done stays", x.about(2), 3);
        due("steps", x.about(5), 7);
        told(x, "worn 1;");
        due("nothing to do", x.played(2), NONE);
        due("steps", x.about(5), 7);
        told(x, "burn 0;swap 0 with 0;");
        due("a bone with itself", x.played(3), 1);
        due("played(4)", x.played(4), OTHERS);
        x.by(2);
        told(x, "");
        x.played(1);
        due("worn by THE TEXT", x.of(0, 1), 98);
        eachCanFail();
    }

    private static void eachCanFail() {
        String[] cant = {"lend 0 to 0 for 1;", "lend 9 to 1 for 1;", "lend 0 to 3 for 1;", "swap 0 with 1;",
            "swap 0 with 15;", "steal 0 to 0;", "steal 2 to 1;", "steal 0 to 9;", "burn 3;"};
        for (String c : cant) {
            NineGraves x = bones(0, 0);
            told(x, "kind 1 many 1;" + c + "pass 9;");
            due("played " + c, x.played(0), 1);
            due("steps", x.about(5), 0);
        }
        NineGraves x = bones(0);
        for (int i = 0; i < 10; i++) {
            x.pass(99);
        }
        told(x, "pass 9;lend 0 to 1 for 1;");
        told(x, "pass 1;");
        due("lend beyond 999", x.played(0), 1);
        due("pass beyond 999", x.played(1), 0);
    }

    private static void undo() {
        NineGraves x = bones(4, 5);
        due("undo() of nothing", x.undo(), NONE);
        law(x, "worn 3;");
        x.prove(1, 0);
        x.lend(0, 1, 9);
        x.swap(0, 1);
        x.steal(1, 2);
        x.burn(1);
        x.pass(9);
        due("undo pass", x.undo(), 5);
        due("YEAR", x.about(2), 0);
        due("WEIGHT", x.of(0, 1), 100);
        due("DUE", x.of(0, 4), 9);
        due("about(11)", x.about(11), 0);
        due("undo burn", x.undo(), 4);
        due("about(11)", x.about(11), 1);
        due("undo steal", x.undo(), 3);
        due("OWNER", x.of(1, 2), 0);
        due("AT", x.of(1, 3), 1);
        due("undo swap", x.undo(), 2);
        due("AT", x.of(0, 3), 1);
        due("AT", x.of(1, 3), 0);
        due("undo lend", x.undo(), 1);
        due("AT", x.of(0, 3), 0);
        due("DUE", x.of(0, 4), NONE);
        due("undo prove", x.undo(), 0);
        due("of(0, 5)", x.of(0, 5), 0);
        due("undo", x.undo(), NONE);
        due("what is no step stays", x.about(4), 0);
        latestTwenty();
        toldSince();
    }

    private static void latestTwenty() {
        NineGraves x = bones(0);
        for (int i = 0; i < 25; i++) {
            x.pass(1);
        }
        due("about(5)", x.about(5), 20);
        for (int i = 19; i >= 0; i--) {
            due("undo", x.undo(), i);
        }
        due("year", x.about(2), 5);
        due("undo", x.undo(), NONE);
        told(x, times(24, "pass 1;"));
        due("played", x.played(0), NONE);
        due("each clause is a step", x.about(5), 20);
        due("undo", x.undo(), 19);
        due("year", x.about(2), 28);
    }

    private static void toldSince() {
        NineGraves x = bones(0);
        law(x, "worn 5;");
        x.pass(2);
        x.bone(7, 50, 2);
        due("WEIGHT of the first", x.of(0, 1), 90);
        x.pass(1);
        due("WEIGHT", x.of(1, 1), 45);
        x.prove(0, 1);
        x.steal(1, 1);
        due("undo", x.undo(), 3);
        due("undo", x.undo(), 2);
        due("undo", x.undo(), 1);
        due("WEIGHT as told", x.of(1, 1), 50);
        due("undo the pass ahead of it", x.undo(), 0);
        due("it is there", x.about(1), 2);
        due("KIND as told", x.of(1, 0), 7);
        due("WEIGHT as told", x.of(1, 1), 50);
        due("OWNER as told", x.of(1, 2), 2);
        due("AT as told", x.of(1, 3), 2);
        due("DUE as told", x.of(1, 4), NONE);
        due("WEIGHT of the first", x.of(0, 1), 100);
    }

    private static void of() {
        NineGraves x = bones(3, 4);
        x.prove(0, 1);
        x.prove(2, 1);
        x.lend(1, 2, 8);
        law(x, "holy sort = 4;");
        int[] want = {4, 101, 0, 2, 8, 2, 1};
        for (int i = 0; i < want.length; i++) {
            due("of(1, " + i + ")", x.of(1, i), want[i]);
        }
        due("of(0, 6)", x.of(0, 6), 0);
        due("of(0, 4)", x.of(0, 4), NONE);
        due("of(0, 7)", x.of(0, 7), OTHERS);
        due("of(0, -1)", x.of(0, -1), OTHERS);
        due("of(2, 0)", x.of(2, 0), OTHERS);
        due("of(-1, 0)", x.of(-1, 0), OTHERS);
        for (int w : WILD) {
            due("of(wild)", x.of(w, 0), OTHERS);
            due("of(wild)", x.of(0, w), OTHERS);
        }
        x.steal(0, 2);
        due("OWNER", x.of(0, 2), 2);
    }

    private static void shared(String what, NineGraves x, int set, int... want) {
        int most = -1;
        for (int i = 0; i < want.length; i++) {
            due(what + ": saint of " + i, x.saints(set, i), want[i]);
            most = Math.max(most, want[i]);
        }
        due(what + ": saints", x.saints(set, NONE), most + 1);
    }

    private static void saints() {
        due("no towns", new NineGraves().saints(0, NONE), 0);
        due("no such set", new NineGraves().saints(1, NONE), OTHERS);
        NineGraves x = bones(0, 1, 0, 1, 2);
        shared("one of a KIND each", x, 1, 0, 0, 1, 1, 0);
        due("set 8", x.saints(8, NONE), OTHERS);
        due("set -1", x.saints(-1, NONE), OTHERS);
        due("bone 5", x.saints(1, 5), OTHERS);
        due("bone -2", x.saints(1, -2), OTHERS);
        for (int w : WILD) {
            due("saints(wild)", x.saints(w, NONE), OTHERS);
            due("saints(wild)", x.saints(1, w), OTHERS);
        }
        shared("none there", x, 6, -1, -1, -1, -1, -1);
        x.lend(0, 1, 4);
        shared("those AT the set alone", x, 1, -1, 0, 0, 1, 0);
        shared("those AT two towns", x, 3, 0, 0, 1, 1, 0);
        shared("no town", x, 0, -1, -1, -1, -1, -1);
        law(x, "kind 0 many 2;holy weight # 104;");
        shared("two of a KIND, and HOLY", x, 7, 0, 0, 0, 1, -1);
        unlikes();
        limits();
    }

    private static void unlikes() {
        NineGraves x = bones(0, 1, 2, 3);
        law(x, "unlike sort = 0 and osort = 1;");
        shared("unlike one way", x, 1, 0, 1, 0, 0);
        NineGraves y = bones(0, 1, 2, 3);
        law(y, "unlike sort = 1 and osort = 0;");
        shared("unlike the other way", y, 1, 0, 1, 0, 0);
        NineGraves z = bones(5, 6, 7, 8);
        law(z, "unlike oweight - weight = 2;");
        shared("by weights", z, 1, 0, 0, 1, 1);
        z.steal(1, 2);
        law(z, "unlike otown # town;");
        shared("by towns", z, 7, 0, 1, 0, 0);
        // The least SAINT for each in turn, without looking ahead, would take three.
        NineGraves w = bones(0, 1, 2, 3);
        law(w, "unlike sort=0 and osort=2 or sort=2 and osort=3 or sort=3 and osort=1;");
        shared("a chain 0 2 3 1", w, 1, 0, 1, 1, 0);
        many();
    }

    private static void many() {
        NineGraves x = bones(0, 1, 2, 3, 4);
        law(x, "unlike sort=1 and osort>2 or sort=0 and osort=4 or sort=3 and osort=2 or sort=2 and osort=0;");
        shared("a ring 0 4 1 3 2", x, 1, 0, 0, 1, 2, 1);
        NineGraves y = bones(0, 0, 0, 0, 0, 0, 0);
        law(y, "kind 0 many 3;");
        shared("three each", y, 1, 0, 0, 0, 1, 1, 1, 2);
        law(y, "kind 0 many 4;unlike weight=100 and oweight=101;");
        shared("four each, two apart", y, 1, 0, 1, 0, 0, 0, 1, 1);
        NineGraves z = bones(0, 0, 0, 0, 1, 1);
        // Two SAINTS do if 0 and 1 are not together: 4 clashes with 0, 5 with 1, and 4 and 5 are of one KIND.
        law(z, "kind 0 many 2;unlike sort=1 and oweight=weight-4;");
        shared("held back", z, 1, 0, 1, 0, 1, 1, 0);
    }

    private static void limits() {
        NineGraves x = towns(3);
        for (int i = 0; i < 12; i++) {
            x.bone(i / 2, 1 + i, 0);
        }
        due("12 bones", x.saints(1, NONE), 2);
        due("the last", x.saints(1, 11), 1);
        x.bone(3, 50, 1);
        due("12 AT the set", x.saints(1, NONE), 2);
        due("the 13th is none of these", x.saints(1, 12), NONE);
        due("13 bones", x.saints(3, NONE), OTHERS);
        due("13 bones", x.saints(3, 0), OTHERS);
        law(x, "holy weight < 50;");
        due("12 HOLY ones", x.saints(7, NONE), 2);
        due("not HOLY", x.saints(7, 12), NONE);
        law(x, "holy weight > 5; unlike 1 = 1;");
        due("all unlike", x.saints(7, NONE), 8);
        due("the last", x.saints(7, 12), 7);
        law(x, "holy 1=2;");
        due("none HOLY", x.saints(7, NONE), 0);
        keptAnswers();
    }

    /** What was worked out for one call must not stand when things have changed. */
    private static void keptAnswers() {
        NineGraves x = bones(0, 0);
        due("ahead", x.saints(7, NONE), 2);
        x.bone(0, 9, 1);
        due("a bone", x.saints(7, NONE), 3);
        x.image();
        law(x, "kind 0 many 2;holy proofs < 1 and year < 3;");
        due("by", x.saints(7, NONE), 2);
        x.prove(0, 0);
        due("prove", x.saints(7, NONE), 1);
        x.burn(0);
        due("burn", x.saints(7, NONE), 2);
        x.pass(3);
        due("pass", x.saints(7, NONE), 0);
        x.undo();
        due("undo", x.saints(7, NONE), 2);
        due("at 1", x.saints(2, NONE), 1);
        x.steal(2, 2);
        due("steal", x.saints(2, NONE), 0);
        x.lend(0, 1, 1);
        due("lend", x.saints(2, 0), 0);
        x.swap(0, 1);
        due("swap", x.saints(2, 0), NONE);
        x.by(NONE);
        due("by none", x.saints(7, NONE), 3);
        due("of 2", x.saints(4, 2), 0);
        x.back();
        due("back", x.saints(4, 2), NONE);
    }

    private static void rules() {
        NineGraves x = towns(2);
        due("loss -1", x.rules(-1, 5), false);
        due("loss 10", x.rules(10, 5), false);
        due("pace 0", x.rules(5, 0), false);
        due("pace 100", x.rules(5, 100), false);
        for (int w : WILD) {
            due("rules(wild)", x.rules(w, 5), false);
            due("rules(wild)", x.rules(5, w), false);
        }
        due("about(7)", x.about(7), 1);
        due("about(8)", x.about(8), 10);
        due("rules(0, 1)", x.rules(0, 1), true);
        due("rules(9, 99)", x.rules(9, 99), true);
        due("about(7)", x.about(7), 9);
        due("about(8)", x.about(8), 99);
        x.seen(0, 0, 100, 0);
        x.seen(0, 0, 98, 1);
        due("by loss 9", x.best(0), 1);
        x.rules(1, 99);
        due("by loss 1", x.best(0), 2);
        due("about(5)", x.about(5), 0);
    }

    private static void seen() {
        NineGraves x = towns(2);
        due("town 2", x.seen(2, 0, 1, 0), NONE);
        due("town -1", x.seen(-1, 0, 1, 0), NONE);
        due("kind -1", x.seen(0, -1, 1, 0), NONE);
        due("kind 20", x.seen(0, 20, 1, 0), NONE);
        due("weight 0", x.seen(0, 0, 0, 0), NONE);
        due("weight 1000", x.seen(0, 0, 1000, 0), NONE);
        due("year -1", x.seen(0, 0, 1, -1), NONE);
        due("year 1000", x.seen(0, 0, 1, 1000), NONE);
        for (int w : WILD) {
            due("seen(wild)", x.seen(w, 0, 1, 0), NONE);
            due("seen(wild)", x.seen(0, w, 1, 0), NONE);
            due("seen(wild)", x.seen(0, 0, w, 0), NONE);
            due("seen(wild)", x.seen(0, 0, 1, w), NONE);
        }
        due("about(6)", x.about(6), 0);
        due("seen(1, 19, 999, 999)", x.seen(1, 19, 999, 999), 0);
        for (int i = 1; i < 12; i++) {
            due("seen", x.seen(0, 0, 1, 0), i);
        }
        due("the 13th", x.seen(0, 0, 1, 0), NONE);
        due("about(6)", x.about(6), 12);
        due("about(5)", x.about(5), 0);
    }

    private static void forget() {
        NineGraves x = towns(2);
        due("forget() of nothing", x.forget(), 0);
        x.rules(3, 4);
        x.seen(0, 0, 5, 0);
        x.seen(0, 0, 5, 1);
        due("best", x.best(0), 1);
        due("forget()", x.forget(), 2);
        due("about(6)", x.about(6), 0);
        due("best", x.best(0), 0);
        due("same", x.same(0, 1), false);
        due("led", x.led(0), OTHERS);
        due("LOSS stays", x.about(7), 3);
        due("the next one's number", x.seen(0, 0, 5, 0), 0);
    }

    private static void same() {
        NineGraves x = new NineGraves();
        x.town(0, 0);
        x.town(20, 9);
        x.seen(0, 4, 50, 10);
        x.seen(0, 4, 48, 12);
        x.seen(0, 4, 47, 12);
        x.seen(0, 4, 51, 12);
        x.seen(0, 5, 50, 12);
        x.seen(0, 4, 50, 10);
        x.seen(1, 4, 50, 12);
        x.seen(1, 4, 50, 11);
        due("lighter by LOSS * years", x.same(0, 1), true);
        due("lighter by more", x.same(0, 2), false);
        due("heavier", x.same(0, 3), false);
        due("another KIND", x.same(0, 4), false);
        due("the same YEAR", x.same(0, 5), false);
        due("earlier", x.same(1, 0), false);
        due("29 miles by 10 in 2 years", x.same(0, 6), true);
        due("29 miles by 10 in 1 year", x.same(0, 7), false);
        due("itself", x.same(0, 0), false);
        due("same(0, 8)", x.same(0, 8), false);
        due("same(8, 0)", x.same(8, 0), false);
        due("same(-1, 0)", x.same(-1, 0), false);
        for (int w : WILD) {
            due("same(wild)", x.same(w, 1), false);
            due("same(wild)", x.same(0, w), false);
        }
        x.rules(0, 9);
        due("no LOSS", x.same(0, 1), false);
        due("no LOSS, like weight", x.same(5, 6), false);
        x.rules(0, 10);
        due("at a PACE of 10", x.same(5, 6), true);
        due("at a PACE of 10, one year", x.same(0, 7), false);
        x.rules(2, 15);
        due("at a PACE of 15", x.same(0, 7), true);
        due("a LOSS of 2", x.same(0, 2), true);
    }

    private static void best() {
        NineGraves x = towns(3);
        due("best(0) of nothing", x.best(0), 0);
        due("best(1) of nothing", x.best(1), 0);
        due("best(2)", x.best(2), NONE);
        due("best(-1)", x.best(-1), NONE);
        for (int w : WILD) {
            due("best(wild)", x.best(w), NONE);
        }
        // told in any order: the latest first
        x.seen(1, 0, 90, 30);
        x.seen(0, 0, 95, 20);
        x.seen(1, 0, 95, 20);
        x.seen(0, 0, 100, 10);
        due("best(0)", x.best(0), 2);
        due("best(1)", x.best(1), 0);
        due("led(0)", x.led(0), 2);
        due("led(1)", x.led(1), 3);
        x.seen(2, 0, 80, 40);
        due("best(0)", x.best(0), 2);
        due("best(1)", x.best(1), 1);
        x.seen(2, 7, 80, 40);
        due("best(0)", x.best(0), 3);
        // fewer BONES go before fewer THEFTS
        NineGraves y = towns(2);
        y.seen(0, 0, 9, 1);
        y.seen(0, 0, 9, 3);
        y.seen(1, 0, 9, 2);
        due("best(0)", y.best(0), 1);
        due("best(1)", y.best(1), 2);
    }

    private static void histories() {
        NineGraves x = towns(2);
        due("of nothing", x.histories(), 1);
        for (int i = 0; i < 6; i++) {
            x.seen(0, 0, 9, 1);
        }
        due("six new ones", x.histories(), 1);
        for (int i = 0; i < 6; i++) {
            x.seen(0, 0, 9, 2);
        }
        due("six by six", x.histories(), 720);
        due("best(0)", x.best(0), 6);
        x.forget();
        for (int i = 0; i < 12; i++) {
            x.seen(0, 0, 9, i / 3);
        }
        due("three by four", x.histories(), 6 * 6 * 6);
        x.forget();
        for (int i = 0; i < 12; i++) {
            x.seen(i % 2, 0, 9, 20 - i / 4 * 10);
        }
        due("as many without thefts", x.histories(), 2 * 2 * 2 * 2);
        due("best(1)", x.best(1), 0);
        x.forget();
        x.seen(0, 0, 9, 1);
        x.seen(0, 0, 9, 1);
        x.seen(0, 0, 9, 2);
        due("one of two", x.histories(), 2);
        x.image();
        x.seen(0, 0, 9, 3);
        due("one or the other or both", x.histories(), 4);
        x.back();
        due("after back()", x.histories(), 2);
    }

    private static void led() {
        NineGraves x = towns(2);
        due("led(0) of nothing", x.led(0), OTHERS);
        x.seen(0, 0, 9, 5);
        x.seen(0, 0, 9, 1);
        x.seen(0, 0, 9, 1);
        x.seen(0, 0, 9, 5);
        x.seen(0, 0, 9, 5);
        due("none below all", x.led(0), NONE);
        due("led(1)", x.led(1), NONE);
        due("led(2)", x.led(2), NONE);
        due("the least", x.led(3), 1);
        due("the next", x.led(4), 2);
        due("led(5)", x.led(5), OTHERS);
        due("led(-1)", x.led(-1), OTHERS);
        for (int w : WILD) {
            due("led(wild)", x.led(w), OTHERS);
        }
        x.forget();
        for (int i = 0; i < 12; i++) {
            x.seen(0, 0, 9, 100 - i);
        }
        for (int i = 0; i < 11; i++) {
            due("a chain", x.led(i), i + 1);
        }
        due("its first", x.led(11), NONE);
        due("histories", x.histories(), 1);
    }

    private static void chance() {
        due("none needed", new NineGraves().chance(20, 0, 1, 0), 1);
        NineGraves x = new NineGraves();
        long[][] rows = {
            {0, 0, 0, 1, 1}, {0, 0, 6, 1, 1}, {1, 1, 1, 1, 6}, {1, 1, 4, 2, 3}, {1, 1, 6, 1, 1}, {1, 1, 0, 0, 1},
            {2, 1, 1, 11, 36}, {2, 2, 2, 1, 9}, {3, 2, 3, 1, 2}, {20, 20, 1, 1, 3656158440062976L},
            {20, 1, 1, 3656158440062976L - 95367431640625L, 3656158440062976L}, {20, 20, 5, 95367431640625L, 3656158440062976L},
            {20, 19, 3, 21, 1048576}, {20, 20, 6, 1, 1}, {20, 1, 0, 0, 1}, {4, 2, 2, 11, 27}};
        for (long[] r : rows) {
            due("chance " + r[0] + " " + r[1] + " " + r[2], x.chance((int) r[0], (int) r[1], (int) r[2], 0), r[3]);
            due("of " + r[0] + " " + r[1] + " " + r[2], x.chance((int) r[0], (int) r[1], (int) r[2], 1), r[4]);
        }
        int[][] wrong = {{-1, 0, 1, 0}, {21, 0, 1, 0}, {2, -1, 1, 0}, {2, 3, 1, 0}, {2, 1, -1, 0}, {2, 1, 7, 0},
            {2, 1, 1, -1}, {2, 1, 1, 2}};
        for (int[] w : wrong) {
            due("chance of others", x.chance(w[0], w[1], w[2], w[3]), NONE);
        }
        for (int w : WILD) {
            due("chance(wild)", x.chance(w, 0, 1, 0), NONE);
            due("chance(wild)", x.chance(2, w, 1, 0), NONE);
            due("chance(wild)", x.chance(2, 1, w, 0), NONE);
            due("chance(wild)", x.chance(2, 1, 1, w), NONE);
        }
    }

    private static void rounds(String what, NineGraves x, int set, int... want) {
        due(what + ": miles", x.round(set, NONE), want[0]);
        for (int i = 1; i < want.length; i++) {
            due(what + ": town " + (i - 1), x.round(set, i - 1), want[i]);
        }
        due(what + ": no more", x.round(set, want.length - 1), NONE);
    }

    private static void round() {
        due("no towns", new NineGraves().round(0, NONE), NONE);
        NineGraves x = new NineGraves();
        int[][] at = {{0, 0}, {9, 9}, {0, 9}, {9, 0}, {50, 50}, {50, 50}, {4, 4}, {99, 99}, {0, 99}, {99, 0}};
        for (int[] p : at) {
            x.town(p[0], p[1]);
        }
        rounds("one", x, 16, 0, 4);
        rounds("two", x, 3, 36, 0, 1);
        rounds("a square", x, 15, 36, 0, 2, 1, 3);
        rounds("not the first", x, 14, 36, 1, 2, 3);
        rounds("one on the way", x, 15 + 64, 44, 0, 2, 1, 3, 6);
        rounds("at one place", x, 16 + 32, 0, 4, 5);
        due("none", x.round(0, NONE), NONE);
        due("nine", x.round(511, NONE), NONE);
        due("nine", x.round(511, 0), NONE);
        due("eight", x.round(255, NONE), 404);
        due("-2", x.round(3, -2), NONE);
        due("no such town", x.round(1 << 10, NONE), NONE);
        for (int w : WILD) {
            due("round(wild)", x.round(w, NONE), NONE);
            due("round(wild)", x.round(3, w), NONE);
        }
        rounds("the corners", x, 1 + 128 + 256 + 512, 396, 0, 8, 7, 9);
        NineGraves y = towns(2);
        due("a town that is not", y.round(4, NONE), NONE);
        due("a town that is not", y.round(5, 0), NONE);
        y.town(90, 0);
        due("a town since", y.round(5, NONE), 180);
        y.image();
        y.back();
        due("kept", y.round(5, 1), 2);
        NineGraves z = towns(2);
        due("miles", z.round(3, NONE), 20);
        z.back();
        z.town(5, 5);
        z.town(5, 6);
        due("other towns by back()", z.round(3, NONE), 2);
    }

    private static void pilgrims() {
        NineGraves x = new NineGraves();
        due("no towns", x.pilgrims(0, 1, 1, 0), NONE);
        x = bones(0, 0);
        // X: 15, 2636, 4524, 15, ..
        due("15 mod 3 is 0, 2636 mod 6 is 2", x.pilgrims(0, 1, 2, 0), 0);
        due("2 is below 3", x.pilgrims(0, 1, 3, 0), 1);
        due("he comes to 0", x.pilgrims(0, 1, 6, 1), 0);
        due("4524 mod 3 is 0, 15 mod 6 is 3", x.pilgrims(0, 2, 3, 0), 1);
        due("3 is below 4", x.pilgrims(0, 2, 4, 0), 2);
        due("no draw at 2, where the third comes", x.pilgrims(0, 4, 4, 0), 3);
        due("none by 0", x.pilgrims(0, 99, 0, 0), 0);
        NineGraves y = towns(2);
        y.bone(0, 1, 0);
        y.bone(0, 1, 1);
        due("all by 6, wherever they come", y.pilgrims(1, 99, 6, 0) + y.pilgrims(1, 99, 6, 1), 99);
        x.steal(0, 1);
        x.steal(1, 1);
        due("no HOLY BONE there", x.pilgrims(0, 5, 6, 0), 0);
        due("all are healed, where they come", x.pilgrims(9999, 99, 6, 1) > 0, true);
        int[][] wrong = {{-1, 1, 1, 0}, {10000, 1, 1, 0}, {0, 0, 1, 0}, {0, 100, 1, 0}, {0, 1, -1, 0}, {0, 1, 7, 0},
            {0, 1, 1, -1}, {0, 1, 1, 3}};
        for (int[] w : wrong) {
            due("pilgrims of others", x.pilgrims(w[0], w[1], w[2], w[3]), NONE);
        }
        for (int w : WILD) {
            due("pilgrims(wild)", w == 1 << 10 ? NONE : x.pilgrims(w, 1, 1, 0), NONE);
            due("pilgrims(wild)", x.pilgrims(0, w, 1, 0), NONE);
            due("pilgrims(wild)", x.pilgrims(0, 1, w, 0), NONE);
            due("pilgrims(wild)", x.pilgrims(0, 1, 1, w), NONE);
        }
        law(x, "holy 1=2;");
        due("none HOLY", x.pilgrims(7, 99, 6, 1), 0);
        drawsInTurn();
    }

    private static void drawsInTurn() {
        NineGraves x = towns(7);
        x.bone(0, 1, 2);
        x.bone(1, 1, 5);
        law(x, "holy sort = 1;");
        for (int seed = 0; seed < 10000; seed += 3333) {
            int[] healed = new int[7];
            int at = seed * 7 + 15;
            for (int i = 0; i < 99; i++) {
                int town = at % 7;
                at = (at * 173 + 41) % 30103;
                if (town == 5) {
                    healed[town] += at % 6 < 4 ? 1 : 0;
                    at = (at * 173 + 41) % 30103;
                }
            }
            for (int t = 0; t < 7; t++) {
                due("pilgrims(" + seed + ", 99, 4, " + t + ")", x.pilgrims(seed, 99, 4, t), healed[t]);
            }
        }
    }

    private static NineGraves full() {
        NineGraves x = bones(1, 2);
        law(x, "worn 2;");
        x.prove(1, 1);
        x.lend(0, 1, 9);
        x.pass(4);
        x.rules(2, 20);
        x.seen(0, 0, 50, 5);
        x.seen(1, 0, 49, 6);
        return x;
    }

    private static void image() {
        NineGraves x = full();
        due("image()", x.image(), 4);
        due("nothing is changed", x.about(5), 3);
        x.pass(1);
        due("image() anew", x.image(), 5);
        x.pass(1);
        due("back()", x.back(), 5);
        due("undo", x.undo(), 3);
        due("year", x.about(2), 4);
    }

    private static void back() {
        NineGraves x = full();
        x.image();
        told(x, "holy 1=2;");
        x.by(1);
        x.town(50, 50);
        x.bone(3, 3, 3);
        x.steal(1, 3);
        x.burn(1);
        x.pass(9);
        x.rules(3, 30);
        x.forget();
        x.seen(2, 2, 2, 2);
        told(x, "worn");
        x.feed(1, 2, 3, 4, 5);
        due("back()", x.back(), 4);
        due("the tape is not of it", x.about(9), 20);
        due("nor is the FAULT", x.fault(0), 1);
        due("nor its place", x.fault(1), 4);
        int[] want = {3, 2, 4, 1, 0, 3, 2, 2, 20};
        for (int i = 0; i < want.length; i++) {
            due("about(" + i + ")", x.about(i), want[i]);
        }
        int[][] bones = {{1, 92, 0, 1, 9, 0, 1}, {2, 93, 0, 0, NONE, 1, 1}};
        for (int b = 0; b < 2; b++) {
            for (int i = 0; i < 7; i++) {
                due("of(" + b + ", " + i + ")", x.of(b, i), bones[b][i]);
            }
        }
        due("best(0)", x.best(0), 1);
        due("best(1)", x.best(1), 1);
        due("undo pass", x.undo(), 2);
        due("WEIGHT", x.of(0, 1), 100);
        due("undo lend", x.undo(), 1);
        due("AT", x.of(0, 3), 0);
        due("undo prove", x.undo(), 0);
        due("of(1, 5)", x.of(1, 5), 0);
        due("it stays", x.back(), 4);
        due("about(5)", x.about(5), 3);
        due("WEIGHT", x.of(0, 1), 92);
        due("a text again", told(x, "holy 1=2;"), 1);
        stepsOfTheImage();
    }

    private static void stepsOfTheImage() {
        NineGraves x = bones(0);
        for (int i = 0; i < 23; i++) {
            x.pass(1);
        }
        x.image();
        for (int i = 0; i < 30; i++) {
            x.pass(2);
        }
        x.back();
        for (int i = 19; i >= 0; i--) {
            due("undo", x.undo(), i);
            due("year", x.about(2), 3 + i);
        }
        NineGraves y = bones(0);
        y.pass(1);
        y.image();
        y.undo();
        y.burn(0);
        y.bone(9, 9, 1);
        y.back();
        due("the bone is gone", y.about(1), 1);
        due("the year", y.about(2), 1);
        due("a bone", y.bone(8, 8, 2), 1);
        due("undo", y.undo(), 0);
        due("as told", y.of(1, 1), 8);
        due("as told", y.of(1, 3), 2);
    }

    private static void about() {
        NineGraves x = full();
        int[] want = {3, 2, 4, 1, 0, 3, 2, 2, 20, 0, 0, 1, 0};
        for (int i = 0; i < want.length; i++) {
            due("about(" + i + ")", x.about(i), want[i]);
        }
        due("about(13)", x.about(13), OTHERS);
        due("about(19)", x.about(19), OTHERS);
        due("about(20)", x.about(20), 1);
        due("about(21)", x.about(21), 1);
        due("about(22)", x.about(22), 0);
        due("about(23)", x.about(23), OTHERS);
        due("about(-1)", x.about(-1), OTHERS);
        due("about(30)", x.about(30), OTHERS);
        for (int w : WILD) {
            due("about(wild)", x.about(w), OTHERS);
        }
        x.feed(0, 0, 0, 0, 0);
        due("about(9)", x.about(9), 20);
        NineGraves y = towns(10);
        y.bone(0, 1, 9);
        y.bone(0, 1, 9);
        y.prove(9, 0);
        due("about(19)", y.about(19), 1);
        due("about(29)", y.about(29), 2);
        due("about(20)", y.about(20), 0);
        due("about(30)", y.about(30), OTHERS);
    }
}
