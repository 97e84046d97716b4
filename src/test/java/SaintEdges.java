/** Edges of SAINTS: promise 18. */
final class SaintEdges {
    private SaintEdges() {
    }

    static void all(Edges edges) {
        sets(edges);
        which(edges);
        holy(edges);
        many(edges);
        unlike(edges);
        fewest(edges);
        twelve(edges);
        changed(edges);
    }

    private static String bone(int kind, int weight, int owner) {
        return "bone " + kind + " " + weight + " " + owner + "\n";
    }

    private static String law(String text) {
        return "told " + text + " => 0\nby 0 => 1\n";
    }

    /** The SAINTS of the BONES 0, 1, .. in the set of TOWN 0 alone. */
    private static String has(int saints, int... each) {
        StringBuilder s = new StringBuilder("saints 1 -1 => ").append(saints).append('\n');
        for (int i = 0; i < each.length; i++) {
            s.append("saints 1 ").append(i).append(" => ").append(each[i]).append('\n');
        }
        return s.toString();
    }

    private static void sets(Edges edges) {
        edges.at(18, "SAINTS of a set of TOWNS (bits): how many (bone NONE);", "saints 0 -1 => 0\nsaints 1 -1 =! -2\n", Scenes.BONES + """
                saints 0 -1 => 0
                saints 1 -1 => 1
                saints 3 -1 => 2
                saints 6 -1 => 1
                saints 7 -1 => 2
                saints 8 -1 =! -2
                saints 9 -1 =! -2
                saints -1 -1 =! -2
                saints MIN -1 =! -2
                saints MAX -1 =! -2
                town 1 1
                saints 8 -1 => 0
                saints 15 -1 => 2
                """, Scenes.towns(10) + bone(1, 1, 9) + bone(1, 1, 9) + """
                saints 512 -1 => 2
                saints 511 -1 => 0
                saints 1023 -1 => 2
                saints 1024 -1 =! -2
                saints 1536 -1 =! -2
                """);
        edges.others(18, "-2 for others", Scenes.RICH, "saints 7 0", -2, "0 .. 7", "-1 .. 2");
        edges.others(18, "-2 for others", Scenes.towns(10) + Scenes.bones(12), "saints 1 0", -2, "0 .. 1023", "-1 .. 11");
        edges.others(18, "-2 for others", "", "saints 0 -1", -2, "0 .. 0", "-1 .. -1");
    }

    /** BONES of unlike KINDS, each of which can't be with the next one, nor the last one with the first. */
    private static String ring(int n, int saints) {
        StringBuilder s = new StringBuilder(Scenes.TOWNS);
        for (int i = 0; i < n; i++) {
            s.append(bone(i, 1 + i, 0));
        }
        return s + law("unlike oweight-weight=1 or weight=1 and oweight=" + n + ";") + "saints 1 -1 => " + saints + "\n";
    }

    private static void which(Edges edges) {
        edges.at(18, "which a BONE has (NONE: it is none of these).", Scenes.BONES + """
                saints 1 0 => 0
                saints 1 1 => -1
                saints 1 2 => -1
                saints 6 0 => -1
                saints 7 1 => 1
                saints 7 2 => 0
                saints 0 0 => -1
                saints 7 3 =! -2
                saints 7 -2 =! -2
                saints 8 0 =! -2
                """);
        edges.at(18, "BONES that are AT one of them", Scenes.BONES + """
                lend 0 1 2
                saints 1 0 => -1
                saints 1 -1 => 0
                saints 2 0 => 0
                saints 2 1 => 1
                saints 2 -1 => 2
                pass 2
                saints 2 -1 => 1
                saints 1 0 => 0
                swap 0 1
                saints 2 0 => 0
                steal 2 0
                saints 1 -1 => 1
                saints 1 2 => 0
                undo
                saints 1 2 => -1
                """);
    }

    private static void holy(Edges edges) {
        edges.at(18, "HOLY (holy is so; without: all)", Scenes.TOWNS + bone(0, 9, 0) + bone(0, 10, 0) + bone(0, 11, 0) + has(3, 0, 1, 2)
                + law("holy weight>=10;") + has(2, -1, 0, 1) + "by -1\n" + has(3, 0, 1, 2), Scenes.TOWNS + bone(0, 9, 0) + bone(0, 10, 0)
                + law("holy 1=2;") + has(0, -1, -1), Scenes.TOWNS + bone(0, 9, 0) + bone(0, 10, 0) + law("worn 1;") + has(2, 0, 1));
    }

    private static void many(Edges edges) {
        String three = Scenes.TOWNS + Scenes.bones(3);
        edges.at(18, "none has more of a KIND than many", three + law("kind 0 many 1;") + has(3, 0, 1, 2), three + law("kind 0 many 2;") + has(2, 0, 0, 1),
                three + law("kind 0 many 3;") + has(1, 0, 0, 0), three + law("kind 0 many 9;") + has(1, 0, 0, 0),
                Scenes.TOWNS + Scenes.bones(9) + law("kind 0 many 9;") + has(1, 0, 0, 0, 0, 0, 0, 0, 0, 0),
                Scenes.TOWNS + Scenes.bones(10) + law("kind 0 many 9;") + has(2, 0, 0, 0, 0, 0, 0, 0, 0, 0, 1),
                Scenes.TOWNS + Scenes.bones(12) + law("kind 0 many 6;") + has(2, 0, 0, 0, 0, 0, 0, 1, 1, 1, 1, 1, 1),
                Scenes.TOWNS + Scenes.bones(12) + law("kind 0 many 5;") + has(3, 0, 0, 0, 0, 0, 1, 1, 1, 1, 1, 2, 2),
                Scenes.TOWNS + bone(19, 1, 0) + bone(19, 1, 0) + bone(0, 1, 0) + bone(0, 1, 0) + law("kind 19 many 2;") + has(2, 0, 0, 0, 1));
        edges.at(18, "(without: 1)", three + has(3, 0, 1, 2), three + law("kind 1 many 3;") + has(3, 0, 1, 2), three + law("worn 1;") + has(3, 0, 1, 2),
                Scenes.TOWNS + Scenes.bones(12) + has(12, 0, 1, 2, 3, 4, 5, 6, 7, 8, 9, 10, 11));
    }

    private static void unlike(Edges edges) {
        String kinds = Scenes.TOWNS + bone(0, 50, 0) + bone(1, 60, 0) + bone(2, 70, 0);
        edges.at(18, "nor two BONES of which one is unlike the other (either way round;", kinds + law("unlike weight=50 and oweight=60;") + has(2, 0, 1, 0),
                kinds + law("unlike weight=60 and oweight=50;") + has(2, 0, 1, 0), kinds + law("unlike weight<oweight;") + has(3, 0, 1, 2),
                kinds + law("unlike weight>oweight;") + has(3, 0, 1, 2), kinds + law("unlike weight=70;") + has(2, 0, 0, 1),
                kinds + law("unlike oweight=70;") + has(2, 0, 0, 1), kinds + law("unlike oweight-weight=20;") + has(2, 0, 0, 1),
                kinds + law("unlike weight=oweight;") + has(1, 0, 0, 0), kinds + law("unlike 1=1;") + has(3, 0, 1, 2));
        edges.at(18, "without: none)", kinds + has(1, 0, 0, 0), kinds + law("holy 1=1;") + has(1, 0, 0, 0), kinds + law("unlike 1=2;") + has(1, 0, 0, 0));
    }

    private static void fewest(Edges edges) {
        String four = Scenes.TOWNS + bone(0, 1, 0) + bone(1, 2, 0) + bone(2, 3, 0) + bone(3, 4, 0);
        edges.at(18, "are shared out among as few SAINTS as can be", four + law("unlike weight=1 and oweight=3 or weight=3 and oweight=4 or weight=4 and oweight=2;")
                + has(2, 0, 1, 1, 0), ring(5, 3) + has(3, 0, 1, 0, 1, 2), ring(7, 3) + has(3, 0, 1, 0, 1, 0, 1, 2), ring(11, 3) + "saints 1 -1 => 3\n", ring(12, 2) + "saints 1 -1 => 2\n",
                four + law("unlike weight<3 and oweight>2;") + has(2, 0, 0, 1, 1), four + law("unlike weight=2 and oweight=4;") + has(2, 0, 0, 0, 1));
        // In the second one two SAINTS do only if the first two BONES are not together, though they could be.
        edges.at(18, "are shared out among as few SAINTS as can be", Scenes.TOWNS + Scenes.bones(4) + bone(1, 1, 0) + bone(1, 1, 0)
                + law("kind 0 many 2;unlike sort=1 and oweight=100;") + has(3, 0, 0, 1, 1, 1, 2),
                Scenes.TOWNS + Scenes.bones(3) + bone(1, 200, 0) + bone(1, 201, 0) + law("kind 0 many 2;unlike oweight=weight-100;") + has(2, 0, 1, 0, 1, 0));
        edges.at(18, "the least for the lowest BONE, then the next (a SAINT is numbered as he first comes).", four + law("unlike weight=1 and oweight=2;") + has(2, 0, 1, 0, 0),
                four + law("unlike weight=2 and oweight>2;") + has(2, 0, 0, 1, 1), four + law("unlike weight=4;") + has(2, 0, 0, 0, 1),
                four + law("unlike weight=1;") + has(2, 0, 1, 1, 1),
                Scenes.TOWNS + bone(0, 1, 1) + bone(0, 2, 0) + bone(1, 3, 0) + bone(0, 4, 0) + has(2, -1, 0, 0, 1));
        edges.at(18, "which SAINT (0, 1, ..) each has", four + has(1, 0, 0, 0, 0), four + law("unlike 1=1;") + has(4, 0, 1, 2, 3));
        edges.at(18, "Told: how many;", "saints 0 -1 => 0\n", "town 0 0\n" + has(0), "town 0 0\n" + bone(0, 1, 0) + has(1, 0));
    }

    /** What was asked must be asked anew when anything has changed. */
    private static void changed(Edges edges) {
        String two = Scenes.TOWNS + Scenes.bones(2) + has(2, 0, 1);
        edges.at(18, "BONES that are AT one of them", two + bone(0, 5, 0) + has(3, 0, 1, 2), two + "steal 1 2\n" + has(1, 0, -1) + "undo\n" + has(2, 0, 1),
                two + "image\nsteal 1 2\n" + has(1, 0, -1) + "back\n" + has(2, 0, 1), two + "lend 0 1 3\n" + has(1, -1, 0) + "pass 3\n" + has(2, 0, 1),
                two + "back\ntown 1 1\n" + has(0) + bone(0, 5, 0) + has(1, 0));
        edges.at(18, "which SAINT (0, 1, ..) each has", Scenes.TOWNS + Scenes.bones(3) + law("kind 0 many 3;") + has(1, 0, 0, 0)
                + "told kind 0 many 3;unlike weight=100 and oweight=101;\nby 1\n" + has(2, 0, 1, 0) + "by 0\n" + has(1, 0, 0, 0),
                Scenes.TOWNS + Scenes.bones(3) + bone(1, 9, 0) + law("kind 0 many 2;") + has(2, 0, 0, 1, 0));
        edges.at(18, "and HOLY (holy is so; without: all)", two + law("holy proofs>0;") + has(0, -1, -1) + "prove 1 1\n" + has(1, -1, 0) + "prove 1 0\n" + has(2, 0, 1) + "burn 1\n"
                + has(0, -1, -1) + "undo\n" + has(2, 0, 1) + "by -1\n" + has(2, 0, 1), two + "told worn 1;holy weight=100;\nby 0\n" + has(1, 0, -1) + "pass 1\n" + has(1, -1, 0)
                + "pass 1\n" + has(0, -1, -1) + "told holy 1=1;kind 0 many 2;\nby 1\n" + has(1, 0, 0));
    }

    private static void twelve(Edges edges) {
        edges.at(18, "12 such BONES at most.", Scenes.TOWNS + Scenes.bones(11) + "saints 1 -1 => 11\nsaints 1 10 => 10\n",
                Scenes.TOWNS + Scenes.bones(12) + "saints 1 -1 => 12\nsaints 1 11 => 11\n",
                Scenes.TOWNS + Scenes.bones(13) + "saints 1 -1 =! -2\nsaints 1 0 =! -2\n");
        edges.at(18, "and if there are more than 12 such BONES.", Scenes.TOWNS + Scenes.bones(12) + bone(0, 5, 1) + """
                saints 1 -1 => 12
                saints 1 12 => -1
                saints 3 -1 =! -2
                saints 3 12 =! -2
                saints 3 0 =! -2
                saints 2 12 => 0
                saints 1 -1 => 12
                steal 12 0
                saints 1 -1 =! -2
                undo
                saints 1 -1 => 12
                """, Scenes.TOWNS + Scenes.bones(16) + """
                saints 1 -1 =! -2
                saints 1 15 =! -2
                saints 6 -1 => 0
                saints 6 15 => -1
                told holy weight>103;
                told holy weight>102;
                by 0
                saints 1 -1 => 12
                saints 1 15 => 11
                saints 1 3 => -1
                by 1
                saints 1 -1 =! -2
                saints 1 0 =! -2
                """);
    }
}
