/** Runs that tests of edges begin with. */
final class Scenes {
    /** Three TOWNS at 0 0, 10 0 and 3 40. */
    static final String TOWNS = """
            town 0 0
            town 10 0
            town 3 40
            """;

    /** And three BONES, one of each TOWN. */
    static final String BONES = TOWNS + """
            bone 3 500 0
            bone 3 400 1
            bone 7 300 2
            """;

    /** Something of everything, so that a call that changes anything shows. */
    static final String RICH = BONES + """
            told worn 1+town;holy weight>100;kind 3 many 2;
            told pass 1;burn 1;
            by 0
            prove 0 0
            prove 1 2
            prove 2 1
            lend 0 1 9
            pass 3
            rules 2 20
            seen 0 3 500 1
            seen 1 3 499 2
            seen 0 3 498 2
            image
            swap 1 2
            burn 2
            told worn
            tape steal 1 to 0;
            """;

    /** As many TOWNS and BONES as can be. */
    static final String FULL = towns(10) + bones(16);

    private Scenes() {
    }

    /** TOWNS in one row, ten MILES from each to the next. */
    static String towns(int n) {
        StringBuilder s = new StringBuilder();
        for (int i = 0; i < n; i++) {
            s.append("town ").append(i * 10).append(" 0\n");
        }
        return s.toString();
    }

    /** BONES of KIND 0, of the weights 100, 101, .., all of TOWN 0. */
    static String bones(int n) {
        StringBuilder s = new StringBuilder();
        for (int i = 0; i < n; i++) {
            s.append("bone 0 ").append(100 + i).append(" 0\n");
        }
        return s.toString();
    }

    static String seen(int n) {
        return "seen 0 0 9 1\n".repeat(n);
    }

    /** The YEAR is this, for a new object. */
    static String year(int year) {
        StringBuilder s = new StringBuilder();
        int left = year;
        for (; left > 99; left -= 99) {
            s.append("pass 99\n");
        }
        return s.append("pass ").append(left).append(" => ").append(year).append('\n').toString();
    }
}
