/** Promises 20 to 23: forms against one another. */
public final class FormsTest {
    private static final Check check = new Check("FormsTest");
    private static final String CYCLE = "bill a;sub b;amend sub+c-b;voter a3b2c1;voter b3c2a1;voter c3a2b1;";

    public static void main(String[] args) {
        prefers();
        open();
        winner();
        standing();
        ties();
        check.end();
    }

    private static void prefers() {
        AmendmentTree x = Talk.told(CYCLE);
        check.due("a to b", 2, x.prefers(1, 2));
        check.due("b to a", 1, x.prefers(2, 1));
        check.due("a to a", 0, x.prefers(1, 1));
        check.due("abc to nothing", 3, x.prefers(7, 0));
        check.due("a form not open", 3, x.prefers(255, 1));
        check.due("d to nothing", 0, x.prefers(8, 0));
        check.due("256", -1, x.prefers(256, 0));
        check.due("to 256", -1, x.prefers(0, 256));
        check.due("-1", -1, x.prefers(-1, 0));
        check.due("to -1", -1, x.prefers(0, -1));
    }

    private static void open() {
        AmendmentTree x = Talk.told(CYCLE);
        int[] want = {0, 1, 2, 4};
        for (int i = 0; i < want.length; i++) {
            check.due("open " + i, want[i], x.open(i));
        }
        check.due("open 4", -1, x.open(4));
        check.due("open -1", -1, x.open(-1));
        AmendmentTree y = Talk.told("bill h;amend bill-h;amend bill+a;");
        check.due("0 once", 4, y.count(7));
        check.due("rising", 129, y.open(3));
    }

    private static void winner() {
        AmendmentTree x = Talk.told(CYCLE);
        check.due("a cycle has none", -1, x.winner());
        x.weigh(2, 0, 9);
        check.due("a beats all", 1, x.winner());
        check.due("a alone is of top", 1, x.standing(1, 0));
        check.due("b is not", 0, x.standing(2, 0));
        check.due("b is covered", 1, x.standing(2, 1));
        check.due("a tie has none", -1, Talk.told("bill a;voter;").winner());
        check.due("0 wins", 0, Talk.told("bill a;voter a-1;").winner());
        check.due("0 alone wins", 0, Talk.told("").winner());
    }

    private static void standing() {
        AmendmentTree x = Talk.told(CYCLE);
        int[][] want = {{0, 0, 1, 0}, {1, 1, 0, 2}, {2, 1, 0, 2}, {4, 1, 0, 2}};
        for (int[] row : want) {
            for (int what = 0; what < 3; what++) {
                check.due("standing " + row[0] + " " + what, row[1 + what], x.standing(row[0], what));
            }
        }
        check.due("not open", -1, x.standing(3, 0));
        check.due("form -1", -1, x.standing(-1, 0));
        check.due("form 256", -1, x.standing(256, 2));
        check.due("what 3", -1, x.standing(1, 3));
        check.due("what -1", -1, x.standing(1, -1));
    }

    /** Who is tied with one of TOP is of it; who beats nobody is still not covered, unless beaten. */
    private static void ties() {
        AmendmentTree x = Talk.told("bill a;sub b;voter a2b1;voter a-1b-2;");
        check.due("a is of top, tied with 0", 1, x.standing(1, 0));
        check.due("0 is of top by a tie", 1, x.standing(0, 0));
        check.due("b is of top, tied with 0", 1, x.standing(2, 0));
        check.due("0 beats none", 0, x.standing(0, 2));
        check.due("0 is not covered", 0, x.standing(0, 1));
        check.due("a beats b", 1, x.standing(1, 2));
        check.due("b is covered", 1, x.standing(2, 1));
        AmendmentTree y = Talk.told("bill a;sub b;voter a1b1;voter a1b1;");
        check.due("a is of top", 1, y.standing(1, 0));
        check.due("b is of top", 1, y.standing(2, 0));
        check.due("0 is not", 0, y.standing(0, 0));
        check.due("0 is covered", 1, y.standing(0, 1));
    }
}
