/** Promises 20 to 23 at their bounds, a sentence of the document each. */
public final class BoundsFormsTest {
    private static final Check check = new Check("BoundsFormsTest");
    /** Numbers far off; times 256, or as a shift, many of them wrap round to ones that there are. */
    private static final int[] FAR = {Integer.MIN_VALUE, Integer.MIN_VALUE + 1, -256, -255, -2, -1, 256, 257, 1 << 24, 1 << 30,
        Integer.MAX_VALUE};
    private static final String SIX = "amend bill+a;amend bill+b;amend bill+c;amend bill+d;amend bill+e;amend bill+f;";
    private static final String CYCLE = "bill a;sub b;amend sub+c-b;voter a3b2c1;voter b3c2a1;voter c3a2b1;";

    public static void main(String[] args) {
        prefersBounds();
        prefersNotWhatIsLikedAsMuch();
        prefersCountsVoters();
        openBounds();
        openRising();
        openNothing();
        winnerAlone();
        winnerBeatsAllOthers();
        winnerOfMost();
        standingBounds();
        standingOfFormsThatAreNotOpen();
        topOfOne();
        topOfACycle();
        topByTies();
        topOfMost();
        covered();
        coveredByOneThatBeatsAllItBeats();
        beatenOfOpenOnes();
        anotherTextAnotherStanding();
        check.end();
    }

    // ---- promise 20

    /** "NONE: there are none such (0 to 255)." */
    private static void prefersBounds() {
        AmendmentTree x = Talk.told("voter a1h1;voter a-1h-1;voter a1;");
        check.due("promise 20: 255 to 0", 2, x.prefers(255, 0));
        check.due("promise 20: 0 to 255", 1, x.prefers(0, 255));
        for (int far : FAR) {
            check.due("promise 20: " + far + " to 0", -1, x.prefers(far, 0));
            check.due("promise 20: 0 to " + far, -1, x.prefers(0, far));
            check.due("promise 20: " + far + " to itself", -1, x.prefers(far, far));
        }
        AmendmentTree none = new AmendmentTree();
        check.due("promise 20: nobody", 0, none.prefers(0, 255));
        check.due("promise 20: nobody, none such", -1, none.prefers(0, 256));
    }

    /** "He PREFERS a FORM to another one that he LIKES less." */
    private static void prefersNotWhatIsLikedAsMuch() {
        AmendmentTree x = Talk.told("voter a1b1c2;voter a1b2c3;");
        check.due("promise 20: to itself", 0, x.prefers(1, 1));
        check.due("promise 20: to one as much", 1, x.prefers(2, 1));
        check.due("promise 20: back", 0, x.prefers(1, 2));
        check.due("promise 20: as much by two ways", 0, x.prefers(3, 4) + x.prefers(4, 3));
        x.weigh(0, 2, 3);
        check.due("promise 20: by 1 more", 1, x.prefers(4, 3));
    }

    /** "How many VOTERS PREFER a FORM to another one": none to nine. */
    private static void prefersCountsVoters() {
        for (int voters = 0; voters <= 9; voters++) {
            AmendmentTree x = Talk.told("voter h1;".repeat(voters) + "voter h-1;".repeat(9 - voters));
            check.due("promise 20: for h", voters, x.prefers(128, 0));
            check.due("promise 20: against h", 9 - voters, x.prefers(0, 128));
        }
    }

    // ---- promise 21

    /** "NONE: there is none such." */
    private static void openBounds() {
        AmendmentTree x = Talk.told("bill h;" + SIX);
        check.due("promise 21: 0", 0, x.open(0));
        for (int i = 1; i < 65; i++) {
            check.due("promise 21: " + i, 128 + i - 1, x.open(i));
        }
        check.due("promise 21: 65", -1, x.open(65));
        for (int far : FAR) {
            check.due("promise 21: " + far, -1, x.open(far));
        }
        Talk.tell(x, "bill b;");
        check.due("promise 21: the last one", 2, x.open(1));
        check.due("promise 21: one that was", -1, x.open(2));
        x.tell();
        check.due("promise 21: 0 is always one", 0, x.open(0));
        check.due("promise 21: 0 alone", -1, x.open(1));
    }

    /** "rising, from 0 on": whatever number the MOTIONS have. */
    private static void openRising() {
        AmendmentTree x = Talk.told("bill h;amend bill-h;amend bill+g;sub c;amend sub+a-c;");
        int[] due = {0, 1, 4, 64, 128, 192};
        for (int i = 0; i < due.length; i++) {
            check.due("promise 21: rising " + i, due[i], x.open(i));
        }
        check.due("promise 21: each once", -1, x.open(due.length));
        AmendmentTree y = Talk.told("bill abcdefgh;");
        check.due("promise 21: the greatest", 255, y.open(1));
    }

    /** "OPEN FORMS: 0, and all that any set of MOTIONS makes", whether it can be voted for or not. */
    private static void openNothing() {
        AmendmentTree x = Talk.told("bill a;amend bill+b;voter a-9b-9;");
        check.due("promise 21: 0, though none makes it", 0, x.open(0));
        check.due("promise 21: what none votes for", 3, x.open(2));
        AmendmentTree y = Talk.told("amend bill+a;amend 0+b;");
        int[] due = {0, 1, 3};
        for (int i = 0; i < due.length; i++) {
            check.due("promise 21: of SORT 3 " + i, due[i], y.open(i));
        }
        check.due("promise 21: not of SORT 3 alone", -1, y.open(3));
    }

    // ---- promise 22

    /** "NONE: there is none": one that is alone has none to beat. */
    private static void winnerAlone() {
        check.due("promise 22: of a new object", 0, new AmendmentTree().winner());
        check.due("promise 22: 0 alone", 0, Talk.told("amend bill-a;voter a1;").winner());
    }

    /** "the OPEN FORM that BEATS all other ones": one tie, and there is none. */
    private static void winnerBeatsAllOthers() {
        check.due("promise 22: a cycle", -1, Talk.told(CYCLE).winner());
        AmendmentTree x = Talk.told("bill a;sub b;voter a2b1;voter a2b1;voter a-1b-1;");
        check.due("promise 22: a", 1, x.winner());
        x.weigh(1, 1, 2);
        x.weigh(2, 1, 0);
        check.due("promise 22: a tied with b", -1, x.winner());
        x.weigh(0, 1, 3);
        check.due("promise 22: b", 2, x.winner());
        AmendmentTree y = Talk.told("bill a;sub b;voter a-1b-1;");
        check.due("promise 22: 0", 0, y.winner());
        y.weigh(0, 1, 0);
        check.due("promise 22: 0 tied with b", -1, y.winner());
        check.due("promise 22: nobody there", -1, Talk.told("bill a;").winner());
        AmendmentTree z = Talk.told("bill a;voter a1;voter a-1;");
        check.due("promise 22: as many for as against", -1, z.winner());
        check.due("promise 22: more for than against, of few who mind", 1,
                Talk.told("bill a;voter a1;voter;voter;").winner());
    }

    /** "WINNER: the OPEN FORM that BEATS all other ones", wherever it stands among 65. */
    private static void winnerOfMost() {
        AmendmentTree x = Talk.told("bill h;" + SIX + "voter a1b1c1d1e1f1h1;");
        check.due("promise 22: the last of 65", 128 + 63, x.winner());
        for (int c = 0; c < 6; c++) {
            x.weigh(0, c, -1);
        }
        check.due("promise 22: the second of 65", 128, x.winner());
        x.weigh(0, 7, -1);
        check.due("promise 22: the first of 65", 0, x.winner());
        x.weigh(0, 7, 0);
        check.due("promise 22: two of 65", -1, x.winner());
        x.weigh(0, 4, 1);
        check.due("promise 22: one between", 128 + 16, x.winner());
    }

    // ---- promise 23

    /** "NONE: it is none, another what." */
    private static void standingBounds() {
        AmendmentTree x = Talk.told("bill abcdefgh;voter a1;");
        for (int form : new int[] {0, 255}) {
            check.due("promise 23: TOP " + form, form == 255 ? 1 : 0, x.standing(form, 0));
            check.due("promise 23: COVERED " + form, form == 255 ? 0 : 1, x.standing(form, 1));
            check.due("promise 23: beaten by " + form, form == 255 ? 1 : 0, x.standing(form, 2));
            check.due("promise 23: what 3 of " + form, -1, x.standing(form, 3));
            for (int far : FAR) {
                check.due("promise 23: what " + far, -1, x.standing(form, far));
            }
        }
        for (int far : FAR) {
            for (int what = 0; what < 3; what++) {
                check.due("promise 23: FORM " + far, -1, x.standing(far, what));
            }
        }
    }

    /** "Of an OPEN FORM .. NONE: it is none": of all 256, and of such as were OPEN by an earlier text. */
    private static void standingOfFormsThatAreNotOpen() {
        AmendmentTree x = Talk.told("bill b;amend bill+c;voter b1;");
        for (int form = 0; form < 256; form++) {
            boolean open = form == 0 || form == 2 || form == 6;
            check.due("promise 23: is " + form + " OPEN", open, x.standing(form, 2) != -1);
        }
        Talk.tell(x, "bill c;");
        for (int what = 0; what < 3; what++) {
            check.due("promise 23: 2 was OPEN", -1, x.standing(2, what));
            check.due("promise 23: 6 was OPEN", -1, x.standing(6, what));
        }
        check.due("promise 23: one that is now", 1, x.standing(4, 0));
        AmendmentTree most = Talk.told("bill h;" + SIX);
        for (int form : new int[] {1, 127, 192, 255, 256, -1}) {
            check.due("promise 23: not one of 65, " + form, -1, most.standing(form, 0));
        }
    }

    /** "TOP: the least set of OPEN FORMS, not empty": one is enough. */
    private static void topOfOne() {
        AmendmentTree x = new AmendmentTree();
        check.due("promise 23: 0 alone is of TOP", 1, x.standing(0, 0));
        check.due("promise 23: 0 alone is not COVERED", 0, x.standing(0, 1));
        check.due("promise 23: 0 alone BEATS none", 0, x.standing(0, 2));
        AmendmentTree y = Talk.told("bill a;sub b;voter a2b1;");
        check.due("promise 23: the WINNER is of TOP", 1, y.standing(1, 0));
        check.due("promise 23: the second is not", 0, y.standing(2, 0));
        check.due("promise 23: 0 is not", 0, y.standing(0, 0));
    }

    /** "TOP: the least set of OPEN FORMS, not empty, each of which BEATS each of the others." */
    private static void topOfACycle() {
        AmendmentTree x = Talk.told(CYCLE);
        int[][] due = {{0, 0, 1, 0}, {1, 1, 0, 2}, {2, 1, 0, 2}, {4, 1, 0, 2}};
        standings(x, due);
        // Now 0 is ahead of all for two of three.
        for (int c = 0; c < 3; c++) {
            x.weigh(0, c, x.weight(0, c) - 9);
            x.weigh(1, c, x.weight(1, c) - 9);
        }
        int[][] then = {{0, 1, 0, 3}, {1, 0, 1, 1}, {2, 0, 1, 1}, {4, 0, 1, 1}};
        standings(x, then);
    }

    /** Who is tied with one of TOP is of it, and who is tied with that one too. */
    private static void topByTies() {
        AmendmentTree x = Talk.told("bill a;sub b;voter a2b1;voter a-1b-2;");
        int[][] due = {{0, 1, 0, 0}, {1, 1, 0, 1}, {2, 1, 1, 0}};
        standings(x, due);
        AmendmentTree y = Talk.told("bill a;sub b;voter a1b1;voter a1b1;");
        int[][] tied = {{0, 0, 1, 0}, {1, 1, 0, 1}, {2, 1, 0, 1}};
        standings(y, tied);
        AmendmentTree z = Talk.told("bill a;sub b;amend sub+c-b;");
        int[][] all = {{0, 1, 0, 0}, {1, 1, 0, 0}, {2, 1, 0, 0}, {4, 1, 0, 0}};
        standings(z, all);
    }

    /** 65 FORMS by one VOTER: who is liked most is of TOP, all others are COVERED. */
    private static void topOfMost() {
        int[] weights = {1, 2, 4, 8, -5, -9};
        one65("voter a1b2c4d8e-5f-9h1;", weights, 1);
        int[] ties = {0, 1, 0, 0, 1, 0};
        one65("voter b1e1h-1;", ties, -1);
        int[] none = {0, 0, 0, 0, 0, 0};
        one65("voter h0;", none, 0);
        int[] high = {-1, -1, -1, -1, -1, 9};
        one65("voter a-1b-1c-1d-1e-1f9h-3;", high, -3);
    }

    private static void one65(String voter, int[] weights, int last) {
        AmendmentTree x = Talk.told("bill h;" + SIX + voter);
        int[] likes = new int[65];
        int most = 0;
        for (int i = 1; i < 65; i++) {
            likes[i] = last;
            for (int c = 0; c < 6; c++) {
                likes[i] += (i - 1 >> c & 1) * weights[c];
            }
            most = Math.max(most, likes[i]);
        }
        for (int i = 0; i < 65; i++) {
            int form = i == 0 ? 0 : 127 + i;
            int less = 0;
            for (int other : likes) {
                less += other < likes[i] ? 1 : 0;
            }
            check.due("promise 23: TOP of 65, " + form + voter, likes[i] == most ? 1 : 0, x.standing(form, 0));
            check.due("promise 23: COVERED of 65, " + form + voter, likes[i] == most ? 0 : 1, x.standing(form, 1));
            check.due("promise 23: beaten of 65, " + form + voter, less, x.standing(form, 2));
        }
    }

    /** "COVERED is an OPEN FORM, if another one BEATS it": who is beaten by none is not. */
    private static void covered() {
        AmendmentTree x = Talk.told("bill a;voter a1;");
        check.due("promise 23: beaten, and beating none", 1, x.standing(0, 1));
        check.due("promise 23: beaten by none", 0, x.standing(1, 1));
        x.weigh(0, 0, 0);
        check.due("promise 23: tied", 0, x.standing(0, 1));
        check.due("promise 23: tied likewise", 0, x.standing(1, 1));
        x.weigh(0, 0, -1);
        check.due("promise 23: beaten by 0", 1, x.standing(1, 1));
    }

    /** "and all that it BEATS (of OPEN ones)": who BEATS it, but is tied with what it BEATS, does not cover it. */
    private static void coveredByOneThatBeatsAllItBeats() {
        AmendmentTree x = Talk.told("bill a;sub b;voter a2b1;voter a-1b-2;voter;voter;voter a1b1;");
        int[][] one = {{0, 0, 1, 0}, {1, 1, 0, 2}, {2, 0, 1, 1}};
        standings(x, one);
        AmendmentTree y = Talk.told("bill a;sub b;voter a3b2;voter a3b2;voter a-2b1;voter a-2b1;voter a-1b-2;");
        check.due("promise 20: a to b", 3, y.prefers(1, 2));
        check.due("promise 20: b to 0", 4, y.prefers(2, 0));
        check.due("promise 20: 0 to a", 3, y.prefers(0, 1));
        int[][] cycle = {{0, 1, 0, 1}, {1, 1, 0, 1}, {2, 1, 0, 1}};
        standings(y, cycle);
        // One of the two who mind a does so no longer: a is tied with 0, BEATS b, and does not cover it.
        y.weigh(4, 0, 0);
        check.due("promise 20: 0 to a no more", 2, y.prefers(0, 1));
        check.due("promise 20: a to 0 as before", 2, y.prefers(1, 0));
        int[][] tied = {{0, 1, 1, 0}, {1, 1, 0, 1}, {2, 1, 0, 1}};
        standings(y, tied);
    }

    /** "2: how many OPEN ones it BEATS": more VOTERS for it than against it, not more than half of all. */
    private static void beatenOfOpenOnes() {
        AmendmentTree x = Talk.told("bill a;amend bill+b;voter a1;voter;voter;voter;");
        check.due("promise 23: one for, none against", 1, x.standing(1, 2));
        check.due("promise 23: tied with ab", 1, x.standing(3, 2));
        x.weigh(1, 0, -1);
        check.due("promise 23: one for, one against", 0, x.standing(1, 2));
        x.weigh(2, 0, -1);
        check.due("promise 23: one for, two against", 2, x.standing(0, 2));
        check.due("promise 23: not itself", 0, x.standing(1, 2));
    }

    /** What was answered of one text, or of other WEIGHTS, is not answered of the next. */
    private static void anotherTextAnotherStanding() {
        AmendmentTree x = Talk.told("bill a;sub b;voter a2b1;");
        int[][] first = {{0, 0, 1, 0}, {1, 1, 0, 2}, {2, 0, 1, 1}};
        check.due("promise 22: of the first text", 1, x.winner());
        standings(x, first);
        Talk.tell(x, "bill a;sub b;voter a-1b-2;");
        int[][] second = {{0, 1, 0, 2}, {1, 0, 1, 1}, {2, 0, 1, 0}};
        check.due("promise 22: of the second text", 0, x.winner());
        standings(x, second);
        Talk.tell(x, "bill a;sub b;voter a1b2;;");
        check.due("promise 22: of the second text, the third having a FAULT", 0, x.winner());
        standings(x, second);
        x.weigh(0, 0, 2);
        x.weigh(0, 1, 1);
        check.due("promise 22: of other WEIGHTS", 1, x.winner());
        standings(x, first);
    }

    private static void standings(AmendmentTree x, int[][] due) {
        for (int[] row : due) {
            for (int what = 0; what < 3; what++) {
                check.due("promise 23: of " + row[0] + " what " + what, row[1 + what], x.standing(row[0], what));
            }
        }
    }
}
