/** Promises 13 to 19: results, ways, minutes, what comes without a motion, killers, best orders. */
public final class VotesTest {
    private static final Check check = new Check("VotesTest");
    private static final String KILLED = "bill a;amend bill+b;voter a1b2;voter a3b-9;voter a-5b1;";
    private static final String TWO_WAYS = "bill a;amend bill+b;sub c;voter a1b2c2;";

    public static void main(String[] args) {
        result();
        halves();
        quotas();
        adopted();
        yes();
        minutes();
        sortsAhead();
        without();
        killers();
        best();
        wrongInputs();
        check.end();
    }

    private static void result() {
        AmendmentTree x = Talk.told(KILLED);
        int[] want = {1, 0, 1, 0, 1, 0, 1, 0};
        for (int t = 0; t < want.length; t++) {
            check.due("result " + t, want[t], x.result(t));
        }
        AmendmentTree y = Talk.told(TWO_WAYS);
        check.due("true, 0 first", 3, y.result(1));
        check.due("foreseeing, 0 first", 3, y.result(0));
        y.order(0x01);
        check.due("true, 1 first", 4, y.result(1));
        check.due("foreseeing, 1 first", 3, y.result(0));
        check.due("no motions", 1, Talk.told("bill a;voter a1;").result(0));
        check.due("nothing", 0, Talk.told("voter a1;").result(1));
    }

    private static void halves() {
        AmendmentTree x = Talk.told("bill a;amend bill+b;voter a1b1;voter a1b-1;quota 1;");
        check.due("half is too few", 1, x.result(3));
        check.due("half adopts none", 0, x.adopted(0));
        AmendmentTree y = Talk.told("bill a;amend bill+b;voter a1b1;voter a1;voter a1b1;");
        check.due("more than half", 3, y.result(7));
        check.due("who does not mind votes no", 2, y.yes(7, 0));
    }

    private static void quotas() {
        String hall = "bill a;voter a1;voter a1;voter;voter a-1;";
        check.due("half cut and 1", 0, Talk.told(hall).result(0));
        check.due("quota 1", 1, Talk.told(hall + "quota 1;").result(0));
        check.due("quota 2", 1, Talk.told(hall + "quota 2;").result(0));
        check.due("quota 3", 0, Talk.told(hall + "quota 3;").result(0));
        check.due("quota 9", 0, Talk.told("bill a;voter a1;quota 9;").result(0));
        check.due("minutes of quota 2", "p:2-2+;", Talk.minutes(Talk.told(hall + "quota 2;"), 0));
        check.due("minutes of quota 3", "p:2-2.;", Talk.minutes(Talk.told(hall + "quota 3;"), 0));
    }

    private static void adopted() {
        AmendmentTree x = Talk.told(KILLED);
        check.due("adopted by the true", 1, x.adopted(7));
        check.due("adopted by the foreseeing", 0, x.adopted(0));
        AmendmentTree y = Talk.told(TWO_WAYS);
        check.due("0 alone", 1, y.adopted(1));
        y.order(0x01);
        check.due("1 alone", 2, y.adopted(1));
        check.due("0 alone again", 1, y.adopted(0));
    }

    private static void yes() {
        AmendmentTree x = Talk.told(KILLED);
        check.due("yes on 0 by the true", 2, x.yes(7, 0));
        check.due("yes on passage by the true", 1, x.yes(7, 1));
        check.due("yes on 0 by the foreseeing", 1, x.yes(0, 0));
        check.due("yes on passage by the foreseeing", 2, x.yes(0, 1));
        check.due("no vote 2", -1, x.yes(0, 2));
        check.due("no vote -1", -1, x.yes(0, -1));
    }

    private static void minutes() {
        AmendmentTree x = Talk.told(KILLED);
        check.due("length", 14, x.minutes(0, -1));
        check.due("minutes of the true", "0:2-1+;p:1-2.;", Talk.minutes(x, 7));
        check.due("minutes of the foreseeing", "0:1-2.;p:2-1+;", Talk.minutes(x, 0));
        check.due("byte 14", -1, x.minutes(0, 14));
        check.due("byte -2", -1, x.minutes(0, -2));
        AmendmentTree y = Talk.told(TWO_WAYS);
        y.order(0x01);
        check.due("minutes by the order", "1:1-0+;0:0-1.;p:1-0+;", Talk.minutes(y, 1));
        String nine = "bill a;" + "voter a1;".repeat(9);
        check.due("nine voters", "p:9-0+;", Talk.minutes(Talk.told(nine), 0));
        check.due("nobody", "0:0-0.;p:0-0.;", Talk.minutes(Talk.told("amend bill+a;"), 0));
    }

    /** The true never see a reason to vote for what changes the form only later on. */
    private static void sortsAhead() {
        AmendmentTree x = Talk.told("bill a;amend bill+b;amend 0+c-b;voter a1b1c5;");
        check.due("true", "1:0-1.;0:1-0+;p:1-0+;", Talk.minutes(x, 1));
        check.due("foreseeing", "1:1-0+;0:1-0+;p:1-0+;", Talk.minutes(x, 0));
        check.due("form of the true", 3, x.result(1));
        check.due("form of the foreseeing", 5, x.result(0));
    }

    private static void without() {
        AmendmentTree x = Talk.told(KILLED);
        check.due("without by the true", 1, x.without(0, 7));
        check.due("without by the foreseeing", 1, x.without(0, 0));
        AmendmentTree y = Talk.told("bill a;sub b;amend sub+c;amend 1+d;amend bill+e;amend 3+f;"
                + "voter a1b2c1d1e1f1;");
        check.due("with all", 2 | 4 | 8, y.result(0));
        check.due("without the substitute", 1 | 16 | 32, y.without(0, 0));
        check.due("without the amendment of it", 1 | 16 | 32, y.without(1, 0));
        check.due("without the amendment of that", 1 | 16 | 32, y.without(2, 0));
        y.weigh(0, 4, 0);
        y.weigh(0, 5, -9);
        check.due("without 2, none minds f", 2 | 4, y.without(2, 0));
        check.due("without 3, nor 4", 2 | 4 | 8, y.without(3, 0));
        check.due("without motion 5", -1, y.without(5, 0));
        check.due("without motion -1", -1, y.without(-1, 0));
    }

    private static void killers() {
        AmendmentTree x = Talk.told(KILLED);
        check.due("killers by the true", 1, x.killers(7));
        check.due("killers by the foreseeing", 0, x.killers(0));
        AmendmentTree y = Talk.told("bill a;amend bill+b;amend bill+c;voter a1b2;voter a3b-9;voter a-5b1;");
        check.due("0 kills, 1 does not", 1, y.killers(7));
        AmendmentTree z = Talk.told("bill a;amend bill+b;voter a-1b1;");
        check.due("dead anyway", 0, z.killers(1));
    }

    private static void best() {
        AmendmentTree x = Talk.told(TWO_WAYS);
        check.due("best form by the true", 3, x.best(0, 1, 0));
        check.due("best order by the true", 0x10, x.best(0, 1, 1));
        check.due("how many", 1, x.best(0, 1, 2));
        check.due("how many by the foreseeing", 2, x.best(0, 0, 2));
        x.order(0x01);
        check.due("whatever the order is", 0x10, x.best(0, 1, 1));
        check.due("the order stays", 0, x.motion(1, 4));
        x.weigh(0, 2, 9);
        check.due("least of two", 0x10, x.best(0, 1, 1));
        check.due("two", 2, x.best(0, 1, 2));
        check.due("what 3", -1, x.best(0, 1, 3));
        check.due("what -1", -1, x.best(0, 1, -1));
        check.due("voter 1", -1, x.best(1, 1, 0));
        check.due("voter -1", -1, x.best(-1, 1, 0));
        AmendmentTree y = Talk.told("bill a;voter a-1;voter a1;quota 1;");
        check.due("no motions", 1, y.best(0, 0, 0));
        check.due("no order", 0, y.best(0, 0, 1));
        check.due("one order", 1, y.best(0, 0, 2));
        AmendmentTree z = Talk.told("bill a;amend bill+b;sub c;voter a1b2c2;voter c9;voter a1b2c2;");
        check.due("the mover's", 4, z.best(1, 7, 0));
        check.due("the mover's order", 0x01, z.best(1, 7, 1));
        check.due("the others' order", 0x10, z.best(2, 7, 1));
    }

    private static void wrongInputs() {
        AmendmentTree x = Talk.told(KILLED);
        for (int t : new int[] {-1, 8, 15, 512, Integer.MIN_VALUE, Integer.MAX_VALUE}) {
            check.due("result " + t, -1, x.result(t));
            check.due("adopted " + t, -1, x.adopted(t));
            check.due("yes " + t, -1, x.yes(t, 0));
            check.due("minutes " + t, -1, x.minutes(t, 0));
            check.due("length of minutes " + t, -1, x.minutes(t, -1));
            check.due("without " + t, -1, x.without(0, t));
            check.due("killers " + t, -1, x.killers(t));
            check.due("best " + t, -1, x.best(0, t, 0));
        }
    }
}
