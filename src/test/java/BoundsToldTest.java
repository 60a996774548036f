/** Promises 6 to 12 at their bounds, a sentence of the document each. */
public final class BoundsToldTest {
    private static final Check check = new Check("BoundsToldTest");
    /** Numbers far off; times 8 or 256, or as a shift, many of them wrap round to ones that there are. */
    private static final int[] FAR = {Integer.MIN_VALUE, Integer.MIN_VALUE + 1, -(1 << 29), -256, -10, -2, -1, 256, 1 << 24,
        1 << 28, 1 << 29, 1 << 30, Integer.MAX_VALUE};
    private static final String HALL = "bill ab;amend bill+c-a;sub de;amend sub-d;voter a1b2;voter c-3h9;joint 1bc4;";
    private static final String SIX = "amend bill+a;amend bill+b;amend bill+c;amend bill+d;amend bill+e;amend bill+f;";
    private static final String NINE = "voter a1;".repeat(8) + "voter h-1;";

    public static void main(String[] args) {
        weighWeights();
        weighClauses();
        weighVoters();
        weighRefusedChangesNothing();
        weighChangesOneAlone();
        leastOrder();
        orderOfThree();
        orderBeyond();
        orderWithoutMotions();
        orderOfSix();
        orderRefusedChangesNothing();
        countWhats();
        countMotionsVotersJoints();
        countQuota();
        countBill();
        countGoodOrders();
        countBytes();
        countOpenForms();
        motionBounds();
        motionOfWhich();
        motionPlace();
        weightBounds();
        likesBounds();
        likesSums();
        likesJoints();
        formBounds();
        formMinusThenPlus();
        formByNumber();
        formOfSubstitute();
        formElseNothing();
        lastCalls();
        check.end();
    }

    // ---- promise 6

    /** "WEIGHT .. is w: true. false: .. it can't be": -9 to 9. */
    private static void weighWeights() {
        AmendmentTree x = Talk.told(HALL);
        int last = 1;
        for (int w = -13; w <= 13; w++) {
            boolean can = w >= -9 && w <= 9;
            check.due("promise 6: weigh " + w, can, x.weigh(0, 0, w));
            last = can ? w : last;
            check.due("promise 6: weighed " + w, last, x.weight(0, 0));
            check.due("promise 6: LIKES by " + w, last, x.likes(0, 1));
        }
        for (int w : FAR) {
            boolean can = w >= -9 && w <= 9;
            check.due("promise 6: weigh " + w, can, x.weigh(0, 7, w));
        }
        check.due("promise 6: the last that can be", -1, x.weight(0, 7));
        check.due("promise 6: the same again", true, x.weigh(0, 7, -1));
    }

    /** "a CLAUSE (0 to 7)". */
    private static void weighClauses() {
        AmendmentTree x = Talk.told("voter;voter;voter;");
        for (int clause = -9; clause <= 16; clause++) {
            check.due("promise 6: CLAUSE " + clause, clause >= 0 && clause <= 7, x.weigh(1, clause, 5));
        }
        for (int clause : FAR) {
            check.due("promise 6: CLAUSE " + clause, false, x.weigh(1, clause, 5));
        }
        for (int clause = 0; clause < 8; clause++) {
            check.due("promise 6: of the VOTER ahead", 0, x.weight(0, clause));
            check.due("promise 6: of the VOTER", 5, x.weight(1, clause));
            check.due("promise 6: of the VOTER behind", 0, x.weight(2, clause));
        }
    }

    /** "false: there are none such": VOTERS. */
    private static void weighVoters() {
        for (int voters = 0; voters <= 9; voters++) {
            AmendmentTree x = Talk.told("voter;".repeat(voters));
            for (int voter = -2; voter <= 11; voter++) {
                boolean is = voter >= 0 && voter < voters;
                check.due("promise 6: VOTER " + voter + " of " + voters, is, x.weigh(voter, 7, 5));
            }
            for (int voter : FAR) {
                check.due("promise 6: VOTER " + voter + " of " + voters, false, x.weigh(voter, 7, 5));
            }
        }
    }

    /** "false: there are none such, it can't be": all WEIGHTS are what they were. */
    private static void weighRefusedChangesNothing() {
        AmendmentTree x = Talk.told(HALL);
        for (int far : FAR) {
            x.weigh(far, 0, 1);
            x.weigh(0, far, 1);
        }
        x.weigh(2, 0, 1);
        x.weigh(0, 8, 1);
        x.weigh(0, 0, 10);
        x.weigh(0, 0, -10);
        check.due("promise 6: all stays", Snapshot.of(Talk.told(HALL)), Snapshot.of(x));
    }

    /** One WEIGHT changes, and all that rests on it. */
    private static void weighChangesOneAlone() {
        AmendmentTree x = Talk.told(HALL);
        Snapshot.of(x);
        x.weigh(1, 2, 3);
        String told = HALL.replace("c-3", "c3");
        check.due("promise 6: as if told so", Snapshot.of(Talk.told(told)), Snapshot.of(x));
        AmendmentTree y = Talk.told(HALL);
        y.order(0x102);
        y.weigh(1, 7, 0);
        check.due("promise 6: THE ORDER stays", false, y.order(0x102));
    }

    // ---- promise 7

    /** "THE ORDER is the least GOOD one as soon as a MOTION comes." */
    private static void leastOrder() {
        places("amend bill+a;", 0);
        places("amend bill+a;amend bill+b;", 0, 1);
        places("amend bill+a;amend 0+b;", 1, 0);
        places("sub a;amend bill+b;", 0, 1);
        places("sub a;amend sub+b;", 1, 0);
        places("sub a;amend sub+b;amend 1+c;", 2, 1, 0);
        places("sub a;amend bill+b;amend sub+c;", 1, 2, 0);
        places("amend bill+a;sub b;amend 0+c;amend sub+d;amend 3+e;amend bill+f;", 2, 0, 4, 3, 1, 5);
        places("sub a;amend sub+b;amend sub+c;amend 2+d;amend bill+e;amend 4+f;", 1, 3, 2, 0, 5, 4);
        places(SIX, 0, 1, 2, 3, 4, 5);
    }

    /** Checks that the motions stand in that order, and that order() says it is so. */
    private static void places(String text, int... motions) {
        AmendmentTree x = Talk.told(text);
        int row = 0;
        for (int place = 0; place < motions.length; place++) {
            check.due("promise 7: least place of " + motions[place] + " in " + text, place, x.motion(motions[place], 4));
            row |= motions[place] << 4 * place;
        }
        check.due("promise 7: it is so in " + text, false, x.order(row));
    }

    /** "false: it is so, it is not GOOD": of all rows of three MOTIONS two are neither. */
    private static void orderOfThree() {
        String text = "amend bill+c;sub d;amend sub+e;";
        for (int row = 0; row < 1 << 12; row++) {
            boolean due = row == 0x102 || row == 0x012;
            AmendmentTree x = Talk.told(text);
            check.due("promise 7: order " + Integer.toHexString(row), due, x.order(row));
            int want = due ? row : 0x120;
            for (int place = 0; place < 3; place++) {
                check.due("promise 7: place by " + Integer.toHexString(row), place, x.motion(want >> 4 * place & 15, 4));
            }
        }
        AmendmentTree x = Talk.told(text);
        check.due("promise 7: another", true, x.order(0x102));
        check.due("promise 7: it is so now", false, x.order(0x102));
        check.due("promise 7: a third", true, x.order(0x012));
        check.due("promise 7: it is not so any more", true, x.order(0x102));
        check.due("promise 7: back to the least", true, x.order(0x120));
        check.due("promise 7: it is so again", false, x.order(0x120));
    }

    /** "(what is beyond must be 0)". */
    private static void orderBeyond() {
        for (int motions = 0; motions <= 6; motions++) {
            AmendmentTree x = Talk.told("amend bill+a;".repeat(motions));
            int row = motions < 2 ? 0 : 0x543210 & (1 << 4 * motions) - 1 ^ 0x11;
            for (int bit = 4 * motions; bit < 32; bit++) {
                check.due("promise 7: bit " + bit + " beyond " + motions, false, x.order(row | 1 << bit));
            }
            check.due("promise 7: none beyond " + motions, motions >= 2, x.order(row));
        }
    }

    /** "false: it is so": as it always is of no MOTION, and of one. */
    private static void orderWithoutMotions() {
        AmendmentTree x = new AmendmentTree();
        check.due("promise 7: of no MOTIONS it is so", false, x.order(0));
        for (int row : FAR) {
            check.due("promise 7: of no MOTIONS " + row, false, x.order(row));
        }
        AmendmentTree y = Talk.told("amend bill+a;");
        check.due("promise 7: of one it is so", false, y.order(0));
        for (int row = 1; row < 16; row++) {
            check.due("promise 7: of one there is no " + row, false, y.order(row));
        }
    }

    /** "4 bits each, the first lowest (what is beyond must be 0)": of the most MOTIONS. */
    private static void orderOfSix() {
        AmendmentTree x = Talk.told(SIX);
        check.due("promise 7: it is so", false, x.order(0x543210));
        check.due("promise 7: all back", true, x.order(0x012345));
        for (int m = 0; m < 6; m++) {
            check.due("promise 7: place of " + m, 5 - m, x.motion(m, 4));
        }
        check.due("promise 7: a 6", false, x.order(0x612345));
        check.due("promise 7: a 6 at first", false, x.order(0x012346));
        check.due("promise 7: a 15", false, x.order(0xF12345));
        check.due("promise 7: one twice", false, x.order(0x112345));
        check.due("promise 7: a seventh", false, x.order(0x6543210));
        check.due("promise 7: the sign", false, x.order(0x80543210));
        check.due("promise 7: far beyond", false, x.order(0xFF543210));
    }

    /** "false: it is so, it is not GOOD": THE ORDER is what it was. */
    private static void orderRefusedChangesNothing() {
        AmendmentTree x = Talk.told(HALL);
        x.order(0x012);
        for (int row : new int[] {0x012, 0x021, 0x210, 0x1012, 0x80000012, 0x112, 0x312, 0, -1}) {
            check.due("promise 7: refused " + row, false, x.order(row));
        }
        AmendmentTree y = Talk.told(HALL);
        y.order(0x012);
        check.due("promise 7: all stays", Snapshot.of(y), Snapshot.of(x));
    }

    // ---- promise 8

    /** "NONE for another what." */
    private static void countWhats() {
        AmendmentTree x = Talk.told(HALL);
        for (int what = 0; what <= 7; what++) {
            check.due("promise 8: what " + what, true, x.count(what) >= 0);
        }
        check.due("promise 8: what 8", -1, x.count(8));
        for (int what : FAR) {
            check.due("promise 8: what " + what, -1, x.count(what));
        }
    }

    /** "What 0: MOTIONS, 1: VOTERS, 2: JOINTS": from none to the most. */
    private static void countMotionsVotersJoints() {
        for (int i = 0; i <= 9; i++) {
            int few = Math.min(i, 6);
            AmendmentTree x = Talk.told("amend bill+a;".repeat(few) + "voter;".repeat(i)
                    + "joint 0ab1;".repeat(i == 0 ? 0 : few));
            check.due("promise 8: MOTIONS", few, x.count(0));
            check.due("promise 8: VOTERS", i, x.count(1));
            check.due("promise 8: JOINTS", i == 0 ? 0 : few, x.count(2));
        }
    }

    /** "3: QUOTA (as it is)": "without one told, half of the VOTERS, cut, and 1". */
    private static void countQuota() {
        int[] untold = {1, 1, 2, 2, 3, 3, 4, 4, 5, 5};
        for (int voters = 0; voters <= 9; voters++) {
            String text = "voter;".repeat(voters);
            check.due("promise 8: QUOTA of " + voters, untold[voters], Talk.told(text).count(3));
            for (int quota = 1; quota <= 9; quota += 4) {
                check.due("promise 8: QUOTA told to " + voters, quota, Talk.told(text + "quota " + quota + ";").count(3));
            }
        }
        AmendmentTree x = Talk.told("quota 9;voter;");
        Talk.tell(x, "voter;voter;");
        check.due("promise 8: QUOTA not told again", 2, x.count(3));
    }

    /** "4: the BILL": "(0 at first)", and up to all CLAUSES. */
    private static void countBill() {
        check.due("promise 8: no BILL", 0, Talk.told("sub a;").count(4));
        check.due("promise 8: the least BILL", 1, Talk.told("bill a;").count(4));
        check.due("promise 8: the greatest BILL", 255, Talk.told("bill abcdefgh;").count(4));
    }

    /** "5: GOOD ORDERS (of no MOTIONS: 1)". */
    private static void countGoodOrders() {
        int[] free = {1, 1, 2, 6, 24, 120, 720};
        for (int motions = 0; motions <= 6; motions++) {
            check.due("promise 8: ORDERS of " + motions, free[motions], Talk.told("amend bill+a;".repeat(motions)).count(5));
        }
        check.due("promise 8: ORDERS of a new object", 1, new AmendmentTree().count(5));
        check.due("promise 8: one behind five", 120, Talk.told("sub a;" + "amend sub+a;".repeat(5)).count(5));
        check.due("promise 8: five ahead of one", 120, Talk.told("amend bill+a;" + "amend 0+a;".repeat(5)).count(5));
        check.due("promise 8: a chain", 1, Talk.told("sub a;amend sub+b;amend 1+c;").count(5));
        check.due("promise 8: three pairs", 90, Talk.told("amend bill+a;amend 0+a;amend bill+a;amend 2+a;"
                + "amend bill+a;amend 4+a;").count(5));
        check.due("promise 8: SORT 0 and the SUBSTITUTE", 2, Talk.told("sub a;amend bill+b;").count(5));
        AmendmentTree x = Talk.told(SIX);
        x.order(0x012345);
        check.due("promise 8: whatever THE ORDER is", 720, x.count(5));
    }

    /** "6: bytes of the TAPE": none to 400. */
    private static void countBytes() {
        AmendmentTree x = new AmendmentTree();
        Talk.feed(x, "a");
        check.due("promise 8: a byte", 1, x.count(6));
        Talk.feed(x, "a".repeat(379));
        check.due("promise 8: bytes", 380, x.count(6));
        x.feed(0, 0, 0, 0, 0);
        check.due("promise 8: all bytes", 400, x.count(6));
        x.end(0);
        check.due("promise 8: no bytes", 0, x.count(6));
    }

    /** "7: OPEN FORMS": from one, which is 0, to 65. */
    private static void countOpenForms() {
        check.due("promise 8: 0 alone", 1, new AmendmentTree().count(7));
        check.due("promise 8: 0 alone with MOTIONS", 1, Talk.told("amend bill-a;").count(7));
        check.due("promise 8: 0 and the BILL", 2, Talk.told("bill a;").count(7));
        check.due("promise 8: 0 among what they make", 64, Talk.told(SIX).count(7));
        check.due("promise 8: 0 beside it", 65, Talk.told("bill g;" + SIX).count(7));
    }

    // ---- promise 9

    /** "NoSuchElementException: there is none such, another what." */
    private static void motionBounds() {
        for (int motions = 0; motions <= 6; motions++) {
            AmendmentTree x = Talk.told("amend bill+a;".repeat(motions));
            for (int motion = 0; motion < motions; motion++) {
                check.due("promise 9: SORT of " + motion, 0, x.motion(motion, 0));
                check.due("promise 9: place of " + motion, motion, x.motion(motion, 4));
            }
            int first = motions;
            check.noSuch("promise 9: MOTION " + first, () -> x.motion(first, 0));
            check.noSuch("promise 9: MOTION " + first + " and what", () -> x.motion(first, 5));
            for (int far : FAR) {
                check.noSuch("promise 9: MOTION " + far, () -> x.motion(far, 0));
                check.noSuch("promise 9: what " + far, () -> x.motion(0, far));
            }
            check.noSuch("promise 9: what 5", () -> x.motion(0, 5));
        }
    }

    /** "1: of which MOTION it is (SORT 3; of SORT 2 the SUBSTITUTE; else NONE)", "3: MINUS (0 of SORT 1)". */
    private static void motionOfWhich() {
        AmendmentTree x = Talk.told("amend bill+ab-cd;sub ef;amend sub+a-h;amend 0+b;amend 2-g;");
        int[][] want = {{0, -1, 3, 12}, {1, -1, 48, 0}, {2, 1, 1, 128}, {3, 0, 2, 0}, {3, 2, 0, 64}};
        for (int m = 0; m < want.length; m++) {
            for (int what = 0; what < 4; what++) {
                check.due("promise 9: of MOTION " + m + " what " + what, want[m][what], x.motion(m, what));
            }
        }
        AmendmentTree y = Talk.told("sub abcdefgh;amend sub+abcdefgh-abcdefgh;");
        check.due("promise 9: all CLAUSES of SORT 1", 255, y.motion(0, 2));
        check.due("promise 9: none of its MINUS", 0, y.motion(0, 3));
        check.due("promise 9: the SUBSTITUTE is 0", 0, y.motion(1, 1));
        check.due("promise 9: all of PLUS", 255, y.motion(1, 2));
        check.due("promise 9: all of MINUS", 255, y.motion(1, 3));
    }

    /** "4: its place in THE ORDER", from 0 on. */
    private static void motionPlace() {
        AmendmentTree x = Talk.told(SIX);
        check.due("promise 9: order", true, x.order(0x401325));
        int[] places = {4, 3, 1, 2, 5, 0};
        for (int m = 0; m < 6; m++) {
            check.due("promise 9: place of " + m, places[m], x.motion(m, 4));
        }
        check.due("promise 9: PLUS stays by number", 32, x.motion(5, 2));
    }

    // ---- promise 10

    /** "NoSuchElementException: there are none such." */
    private static void weightBounds() {
        for (int voters = 0; voters <= 9; voters++) {
            AmendmentTree x = Talk.told("voter h9a-9;".repeat(voters));
            for (int voter = 0; voter < voters; voter++) {
                check.due("promise 10: CLAUSE 0 of " + voter, -9, x.weight(voter, 0));
                check.due("promise 10: CLAUSE 7 of " + voter, 9, x.weight(voter, 7));
                check.due("promise 10: 0 if none is told", 0, x.weight(voter, 3));
            }
            int first = voters;
            check.noSuch("promise 10: VOTER " + first, () -> x.weight(first, 0));
            check.noSuch("promise 10: VOTER " + first + " and CLAUSE", () -> x.weight(first, 8));
            check.noSuch("promise 10: CLAUSE 8", () -> x.weight(0, 8));
            for (int far : FAR) {
                check.noSuch("promise 10: VOTER " + far, () -> x.weight(far, 0));
                check.noSuch("promise 10: CLAUSE " + far, () -> x.weight(0, far));
            }
        }
        AmendmentTree y = Talk.told("voter;voter;");
        check.noSuch("promise 10: CLAUSE -1 of 1", () -> y.weight(1, -1));
        check.noSuch("promise 10: CLAUSE -8 of 1", () -> y.weight(1, -8));
        check.noSuch("promise 10: CLAUSE 15 of 0", () -> y.weight(0, 15));
    }

    // ---- promise 11

    /** "a FORM (0 to 255). NoSuchElementException: there are none such." */
    private static void likesBounds() {
        for (int voters = 0; voters <= 9; voters++) {
            AmendmentTree x = Talk.told("voter a1h2;".repeat(voters));
            for (int voter = 0; voter < voters; voter++) {
                check.due("promise 11: FORM 0 of " + voter, 0, x.likes(voter, 0));
                check.due("promise 11: FORM 255 of " + voter, 3, x.likes(voter, 255));
            }
            int first = voters;
            check.noSuch("promise 11: VOTER " + first, () -> x.likes(first, 0));
            check.noSuch("promise 11: VOTER " + first + " and FORM", () -> x.likes(first, 256));
            for (int far : FAR) {
                check.noSuch("promise 11: VOTER " + far, () -> x.likes(far, 0));
                check.noSuch("promise 11: FORM " + far, () -> x.likes(0, far));
            }
        }
        AmendmentTree y = Talk.told("voter;voter;");
        check.noSuch("promise 11: FORM -1 of 1", () -> y.likes(1, -1));
        check.noSuch("promise 11: FORM -256 of 1", () -> y.likes(1, -256));
        check.noSuch("promise 11: FORM 511 of 0", () -> y.likes(0, 511));
    }

    /** "the sum of his WEIGHTS of its CLAUSES": all 256 FORMS, and the most and the least. */
    private static void likesSums() {
        int[] weights = {1, -2, 3, -4, 5, -6, 7, -9};
        AmendmentTree x = Talk.told("voter a9;voter a1b-2c3d-4e5f-6g7h-9;voter h9;");
        for (int form = 0; form < 256; form++) {
            int sum = 0;
            for (int c = 0; c < 8; c++) {
                sum += (form >> c & 1) * weights[c];
            }
            check.due("promise 11: FORM " + form, sum, x.likes(1, form));
        }
        String most = "voter a9b9c9d9e9f9g9h9;" + "joint 0abcdefgh9;".repeat(6);
        AmendmentTree y = Talk.told(most);
        check.due("promise 11: the most", 126, y.likes(0, 255));
        check.due("promise 11: without JOINTS", 63, y.likes(0, 127));
        AmendmentTree z = Talk.told(most.replace("9", "-9"));
        check.due("promise 11: the least", -126, z.likes(0, 255));
        check.due("promise 11: nothing", 0, z.likes(0, 0));
    }

    /** "and of his JOINTS all of which are in it". */
    private static void likesJoints() {
        AmendmentTree x = Talk.told("voter;voter;joint 0bch5;joint 1gh-3;joint 0bc1;");
        int bch = 2 | 4 | 128;
        for (int form = 0; form < 256; form++) {
            int want = ((form & bch) == bch ? 5 : 0) + ((form & 6) == 6 ? 1 : 0);
            check.due("promise 11: JOINTS in FORM " + form, want, x.likes(0, form));
        }
        check.due("promise 11: of another", -3, x.likes(1, 192));
        check.due("promise 11: of another in more", -3, x.likes(1, 255));
        check.due("promise 11: of another in part", 0, x.likes(1, 128));
        x.weigh(0, 1, 2);
        check.due("promise 11: JOINTS stay behind weigh", 8, x.likes(0, bch));
    }

    // ---- promise 12

    /** "NONE: there are none such." */
    private static void formBounds() {
        for (int motions = 0; motions <= 6; motions++) {
            AmendmentTree x = Talk.told("bill h;" + "amend bill+a;".repeat(motions));
            int all = (1 << motions) - 1;
            check.due("promise 12: none of " + motions, 128, x.form(0));
            check.due("promise 12: all of " + motions, motions == 0 ? 128 : 129, x.form(all));
            check.due("promise 12: one too many of " + motions, -1, x.form(all + 1));
            for (int bit = motions; bit < 32; bit++) {
                check.due("promise 12: bit " + bit + " of " + motions, -1, x.form(1 << bit));
                check.due("promise 12: bit " + bit + " among " + motions, -1, x.form(1 << bit | all));
            }
            check.due("promise 12: all bits", -1, x.form(-1));
        }
        AmendmentTree y = Talk.told("amend bill+a;");
        Talk.tell(y, "bill c;");
        check.due("promise 12: one that was", -1, y.form(1));
    }

    /** "take their MINUS out of it, then put their PLUS in". */
    private static void formMinusThenPlus() {
        AmendmentTree x = Talk.told("bill ab;amend bill+bc-ab;amend 0+d-bd;");
        check.due("promise 12: MINUS, then PLUS", 2 | 4, x.form(1));
        check.due("promise 12: so of SORT 3", 4 | 8, x.form(3));
        AmendmentTree y = Talk.told("sub ab;amend sub+bc-ab;amend 1+d-bd;");
        check.due("promise 12: so of SORT 2", 2 | 4, y.form(3));
        check.due("promise 12: so of SORT 3 of it", 4 | 8, y.form(7));
        AmendmentTree z = Talk.told("bill a;amend bill+b;amend bill-a;amend bill-h;amend bill+a;");
        check.due("promise 12: PLUS alone", 3, z.form(1));
        check.due("promise 12: MINUS alone", 0, z.form(2));
        check.due("promise 12: MINUS of what is not there", 1, z.form(4));
        check.due("promise 12: PLUS of what is there", 1, z.form(8));
    }

    /** "by number": whatever THE ORDER is. */
    private static void formByNumber() {
        AmendmentTree x = Talk.told("amend bill+a-b;amend bill+b-a;");
        AmendmentTree y = Talk.told("sub h;amend sub+a-b;amend sub+b-a;");
        AmendmentTree z = Talk.told("amend bill+h;amend 0+a-b;amend 0+b-a;");
        for (int i = 0; i < 2; i++) {
            check.due("promise 12: SORT 0 by number", 2, x.form(3));
            check.due("promise 12: SORT 2 by number", 128 | 2, y.form(7));
            check.due("promise 12: SORT 3 by number", 128 | 2, z.form(7));
            if (i == 0) {
                check.due("promise 12: other ORDERS", true, x.order(0x01) && y.order(0x012) && z.order(0x012));
            }
        }
    }

    /** "if the SUBSTITUTE is ADOPTED, it is that instead, and those of SORT 2 that are do likewise." */
    private static void formOfSubstitute() {
        AmendmentTree x = Talk.told("bill a;sub b;amend sub+c-b;amend 1+d-c;amend bill+e-a;amend 3+f-e;");
        int[] sets = {0, 1, 3, 7, 5, 8, 24, 9, 31, 27, 25};
        int[] forms = {1, 2, 4, 8, 2, 16, 32, 2, 8, 4, 2};
        for (int i = 0; i < sets.length; i++) {
            check.due("promise 12: FORM of " + sets[i], forms[i], x.form(sets[i]));
        }
    }

    /** "(What is ADOPTED else changes nothing.)" */
    private static void formElseNothing() {
        AmendmentTree x = Talk.told("bill a;sub b;amend sub+c-b;amend 1+d-c;amend bill+e-a;amend 3+f-e;");
        check.due("promise 12: SORT 2 without the SUBSTITUTE", 1, x.form(2));
        check.due("promise 12: SORT 3 without its own", 1, x.form(4));
        check.due("promise 12: SORT 3 of SORT 2 without the SUBSTITUTE", 1, x.form(6));
        check.due("promise 12: SORT 3 of SORT 0 without it", 1, x.form(16));
        check.due("promise 12: all of them", 1, x.form(22));
        check.due("promise 12: beside SORT 0", 16, x.form(14));
        AmendmentTree y = Talk.told("bill a;amend bill+b-c;amend 0+c-ab;");
        check.due("promise 12: SORT 3 changes PLUS alone", 1 | 4, y.form(3));
    }

    // ---- the document's own bound

    /** "An object is used for at most 512 calls": up to the last one its answers are due. */
    private static void lastCalls() {
        AmendmentTree x = new AmendmentTree();
        // feed, end and tell are three calls each round, and the four behind them make seven: 73 rounds are 511.
        for (int round = 0; round < 73; round++) {
            int letter = 'a' + round % 8;
            x.feed(0x62696C6C, 0x20003B20 | letter << 16, 0, 0, 0);
            check.due("promise 3: end in round " + round, true, x.end(8));
            check.due("promise 4: tell in round " + round, 1, x.tell());
            check.due("promise 8: BILL in round " + round, 1 << round % 8, x.count(4));
            check.due("promise 13: RESULT in round " + round, 0, x.result(0));
            check.due("promise 21: open in round " + round, 1 << round % 8, x.open(1));
            check.due("promise 22: WINNER in round " + round, -1, x.winner());
        }
        check.due("promise 5: the 512th call", 0, x.fault());
    }
}
