/** Promises 13 to 19 at their bounds, a sentence of the document each. */
public final class BoundsVotesTest {
    private static final Check check = new Check("BoundsVotesTest");
    /** Numbers far off; as a shift or times 64 many of them wrap round to ones that there are. */
    private static final int[] FAR = {Integer.MIN_VALUE, Integer.MIN_VALUE + 1, -64, -32, -7, -2, 32, 64, 1 << 26, 1 << 30,
        Integer.MAX_VALUE};
    private static final String SIX = "amend bill+a;amend bill+b;amend bill+c;amend bill+d;amend bill+e;amend bill+f;";
    private static final String KILLED = "voter a1b2;voter a3b-9;voter a-5b1;";
    private static final String TREE = "bill a;sub b;amend sub+c;amend 1+d;amend bill+e;amend 3+f;";

    public static void main(String[] args) {
        trueVotersBounds();
        voteIsCarriedByMoreThanHalf();
        passageByTheQuota();
        passageWithoutAQuotaTold();
        passageOfNothing();
        trueOrForeseeing();
        whoDoesNotMindVotesNo();
        oneWhoForeseesTakesTheBest();
        adoptedBounds();
        adoptedThoughItFails();
        yesBounds();
        yesByTheOrder();
        minutesBounds();
        minutesBytes();
        withoutBounds();
        withoutWhatHangsOnIt();
        withoutInTheOrder();
        killersBounds();
        killersNone();
        killersOfAllSorts();
        bestBounds();
        bestWithoutMotions();
        bestOfAll();
        bestIsTheLeast();
        bestLeavesTheOrder();
        check.end();
    }

    // ---- promises 13 to 19: T

    /** "T: bits of VOTERS; NONE: others among these". */
    private static void trueVotersBounds() {
        for (int voters = 0; voters <= 9; voters++) {
            AmendmentTree x = Talk.told("bill a;amend bill+b;" + "voter a1;".repeat(voters));
            int all = (1 << voters) - 1;
            int due = voters == 0 ? 0 : 1;
            taken(x, 0, due, voters);
            taken(x, all, due, voters);
            for (int bit = voters; bit < 32; bit++) {
                refused(x, 1 << bit);
            }
            refused(x, all + 1 | all);
            refused(x, -1);
        }
    }

    private static void taken(AmendmentTree x, int t, int due, int voters) {
        check.due("promise 13: RESULT by " + t, due, x.result(t));
        check.due("promise 14: ADOPTED by " + t, 0, x.adopted(t));
        check.due("promise 15: yes by " + t, voters, x.yes(t, 1));
        check.due("promise 16: MINUTES by " + t, 14, x.minutes(t, -1));
        check.due("promise 17: WITHOUT by " + t, due, x.without(0, t));
        check.due("promise 18: KILLERS by " + t, 0, x.killers(t));
        check.due("promise 19: best by " + t, due == 0 ? -1 : 1, x.best(0, t, 0));
    }

    private static void refused(AmendmentTree x, int t) {
        check.due("promise 13: no RESULT by " + t, -1, x.result(t));
        check.due("promise 14: no ADOPTED by " + t, -1, x.adopted(t));
        check.due("promise 15: no yes by " + t, -1, x.yes(t, 0));
        check.due("promise 16: no MINUTES by " + t, -1, x.minutes(t, -1));
        check.due("promise 16: no byte by " + t, -1, x.minutes(t, 0));
        check.due("promise 17: none WITHOUT by " + t, -1, x.without(0, t));
        check.due("promise 18: no KILLERS by " + t, -1, x.killers(t));
        for (int what = 0; what < 3; what++) {
            check.due("promise 19: no best by " + t, -1, x.best(0, t, what));
        }
    }

    // ---- promise 13

    /** "m is ADOPTED too, if more than half of all VOTERS vote yes." */
    private static void voteIsCarriedByMoreThanHalf() {
        for (int voters = 1; voters <= 9; voters++) {
            for (int yes = 0; yes <= voters; yes++) {
                AmendmentTree x = Talk.told("bill a;amend bill+b;" + "voter a1b1;".repeat(yes)
                        + "voter a2b-1;".repeat(voters - yes));
                for (int t : new int[] {0, (1 << voters) - 1}) {
                    String of = yes + " of " + voters + " by " + t;
                    boolean carried = yes > voters - yes;
                    check.due("promise 13: " + of, carried ? 3 : 1, x.result(t));
                    check.due("promise 14: " + of, carried ? 1 : 0, x.adopted(t));
                    check.due("promise 15: " + of, yes, x.yes(t, 0));
                    check.due("promise 16: " + of, "0:" + yes + "-" + (voters - yes) + (carried ? "+" : ".") + ";p:" + voters
                            + "-0+;", Talk.minutes(x, t));
                }
            }
        }
    }

    /** "PASSAGE: the FORM stands, if as many as the QUOTA vote yes; else it is 0." */
    private static void passageByTheQuota() {
        for (int quota = 1; quota <= 9; quota++) {
            for (int yes = 0; yes <= 9; yes++) {
                passage("quota " + quota + ";", yes, 9, yes >= quota);
            }
            passage("quota " + quota + ";", 1, 1, quota == 1);
            passage("quota " + quota + ";", 0, 0, false);
        }
    }

    /** "without one told, half of the VOTERS, cut, and 1". */
    private static void passageWithoutAQuotaTold() {
        for (int voters = 0; voters <= 9; voters++) {
            for (int yes = 0; yes <= voters; yes++) {
                passage("", yes, voters, 2 * yes > voters);
            }
        }
    }

    private static void passage(String quota, int yes, int voters, boolean passes) {
        AmendmentTree x = Talk.told("bill a;" + "voter a1;".repeat(yes) + "voter a-1;".repeat((voters - yes) / 2)
                + "voter;".repeat(voters - yes - (voters - yes) / 2) + quota);
        String of = quota + yes + " of " + voters;
        check.due("promise 13: " + of, passes ? 1 : 0, x.result(0));
        check.due("promise 13: true " + of, passes ? 1 : 0, x.result((1 << voters) - 1));
        check.due("promise 15: " + of, yes, x.yes(0, 0));
        check.due("promise 16: " + of, "p:" + yes + "-" + (voters - yes) + (passes ? "+" : ".") + ";", Talk.minutes(x, 0));
    }

    /** "On PASSAGE all vote yes who PREFER the FORM to 0": none, if it is 0. */
    private static void passageOfNothing() {
        AmendmentTree x = Talk.told("amend bill+a;voter a-1;voter a-1;quota 1;");
        check.due("promise 13: nothing", 0, x.result(0));
        check.due("promise 16: nobody is for nothing", "0:0-2.;p:0-2.;", Talk.minutes(x, 0));
        check.due("promise 16: nobody is there", "p:0-0.;", Talk.minutes(new AmendmentTree(), 0));
    }

    /** "TRUE is a VOTER by a set T of VOTERS (bits); all others FORESEE." One of nine votes otherwise, if TRUE. */
    private static void trueOrForeseeing() {
        for (int one = 0; one < 9; one++) {
            StringBuilder text = new StringBuilder("bill a;amend bill+b;");
            int other = 0;
            for (int v = 0; v < 9; v++) {
                text.append(v == one ? "voter a1b2;" : other++ < 5 ? "voter a3b-9;" : "voter a-5b1;");
            }
            AmendmentTree x = Talk.told(text.toString());
            check.due("promise 15: none TRUE", 3, x.yes(0, 0));
            check.due("promise 15: " + one + " TRUE", 4, x.yes(1 << one, 0));
            check.due("promise 15: all others TRUE", 3, x.yes(511 ^ 1 << one, 0));
            check.due("promise 15: all TRUE", 4, x.yes(511, 0));
            check.due("promise 13: by none TRUE", 1, x.result(0));
        }
        AmendmentTree y = Talk.told("bill a;amend bill+b;" + KILLED);
        for (int t = 0; t < 8; t++) {
            check.due("promise 13: killed by " + t, t % 2 == 0 ? 1 : 0, y.result(t));
        }
    }

    /** "He PREFERS a FORM to another one that he LIKES less": not to one that he LIKES as much. */
    private static void whoDoesNotMindVotesNo() {
        AmendmentTree x = Talk.told("bill a;amend bill+b;voter a1;");
        check.due("promise 15: TRUE", 0, x.yes(1, 0));
        check.due("promise 15: foreseeing", 0, x.yes(0, 0));
        x.weigh(0, 1, 1);
        check.due("promise 15: TRUE by 1 more", 1, x.yes(1, 0));
        check.due("promise 15: foreseeing by 1 more", 1, x.yes(0, 0));
        x.weigh(0, 0, 0);
        x.weigh(0, 1, 0);
        check.due("promise 15: PASSAGE of what he does not mind", 0, x.yes(0, 1));
        AmendmentTree same = Talk.told("bill a;amend bill+a;voter a1;");
        check.due("promise 16: TRUE on what changes nothing", "0:0-1.;p:1-0+;", Talk.minutes(same, 1));
        check.due("promise 16: foreseeing on what changes nothing", "0:0-1.;p:1-0+;", Talk.minutes(same, 0));
        check.due("promise 14: what changes nothing", 0, same.adopted(1) + same.adopted(0));
        AmendmentTree lost = Talk.told("bill a;amend bill+b;voter a-9b1;");
        check.due("promise 16: TRUE on what is lost anyway", "0:1-0+;p:0-1.;", Talk.minutes(lost, 1));
        check.due("promise 16: foreseeing on what is lost anyway", "0:0-1.;p:0-1.;", Talk.minutes(lost, 0));
    }

    /** "what comes in the end": one who FORESEES comes to the FORM that he LIKES most, by any ORDER. */
    private static void oneWhoForeseesTakesTheBest() {
        AmendmentTree x = Talk.told("bill a;amend bill+b;sub c;amend sub+d;amend 2-d;voter a1b2c-3d7;");
        int[] orders = {0x2130, 0x0213, 0x2013, 0x2103};
        check.due("promise 13: by the least", 4 | 8, x.result(0));
        for (int row : orders) {
            x.order(row);
            check.due("promise 13: by " + Integer.toHexString(row), 4 | 8, x.result(0));
        }
        x.weigh(0, 2, -5);
        for (int row : orders) {
            x.order(row);
            check.due("promise 13: now by " + Integer.toHexString(row), 3, x.result(0));
        }
    }

    // ---- promise 14

    /** "Which MOTIONS are ADOPTED": by number, from none to all. */
    private static void adoptedBounds() {
        check.due("promise 14: of no MOTIONS", 0, new AmendmentTree().adopted(0));
        AmendmentTree x = Talk.told(SIX + "voter a1b1c1d1e1f1;");
        check.due("promise 14: all", 63, x.adopted(1));
        check.due("promise 14: all foreseen", 63, x.adopted(0));
        for (int m = 0; m < 6; m++) {
            x.weigh(0, m, -1);
            check.due("promise 14: not " + m, 63 ^ 1 << m, x.adopted(1));
            x.weigh(0, m, 1);
        }
        x.order(0x034512);
        x.weigh(0, 0, 0);
        check.due("promise 14: by number, not by place", 62, x.adopted(1));
        check.due("promise 13: that RESULT", 62, x.result(1));
        AmendmentTree y = Talk.told(SIX + "voter;");
        check.due("promise 14: none", 0, y.adopted(1));
    }

    /** "on the way to the RESULT": also if PASSAGE fails. */
    private static void adoptedThoughItFails() {
        AmendmentTree x = Talk.told("bill a;amend bill+b;" + KILLED);
        check.due("promise 13: it fails", 0, x.result(7));
        check.due("promise 14: though it fails", 1, x.adopted(7));
        check.due("promise 14: none of what stands", 0, x.adopted(0));
    }

    // ---- promise 15

    /** "the i-th of VOTES (from 0 on ..; the last one PASSAGE) .. NONE: none such, too." */
    private static void yesBounds() {
        for (int motions = 0; motions <= 6; motions++) {
            AmendmentTree x = Talk.told("bill h;" + SIX.substring(0, 13 * motions) + "voter a1b1c1d1e1f1h1;voter h1;voter h1;");
            for (int i = 0; i < motions; i++) {
                check.due("promise 15: vote " + i, 1, x.yes(7, i));
            }
            check.due("promise 15: PASSAGE", 3, x.yes(7, motions));
            check.due("promise 15: behind PASSAGE", -1, x.yes(7, motions + 1));
            check.due("promise 15: ahead of all", -1, x.yes(7, -1));
            for (int far : FAR) {
                check.due("promise 15: vote " + far, -1, x.yes(7, far));
            }
        }
        AmendmentTree y = Talk.told(SIX + "voter a1;".repeat(9));
        check.due("promise 15: all nine", 9, y.yes(511, 0));
    }

    /** "(from 0 on, by THE ORDER". */
    private static void yesByTheOrder() {
        AmendmentTree x = Talk.told("bill h;amend bill+a;amend bill+b;voter a1b1h9;voter b1h9;voter h9;");
        check.due("promise 15: 0 first", 12, 10 * x.yes(7, 0) + x.yes(7, 1));
        x.order(0x01);
        check.due("promise 15: 1 first", 21, 10 * x.yes(7, 0) + x.yes(7, 1));
        check.due("promise 15: PASSAGE last", 3, x.yes(7, 2));
    }

    // ---- promise 16

    /** "The i-th byte of MINUTES by T, or (i NONE) how many .. NONE: none such, too." */
    private static void minutesBounds() {
        for (int motions = 0; motions <= 6; motions++) {
            AmendmentTree x = Talk.told("bill h;" + "amend bill+a;".repeat(motions) + "voter h1;");
            int length = 7 * motions + 7;
            check.due("promise 16: how many", length, x.minutes(0, -1));
            check.due("promise 16: the first", motions == 0 ? 'p' : '0', x.minutes(0, 0));
            check.due("promise 16: the last", ';', x.minutes(0, length - 1));
            check.due("promise 16: behind it", -1, x.minutes(0, length));
            check.due("promise 16: far behind it", -1, x.minutes(0, length + 6));
            for (int far : FAR) {
                boolean is = far >= 0 && far < length;
                check.due("promise 16: byte " + far, is, x.minutes(0, far) != -1);
            }
        }
    }

    /** "the MOTION's number (PASSAGE: p), :, how many vote yes, -, how many no, + if it is ADOPTED (passes) or ., ;". */
    private static void minutesBytes() {
        AmendmentTree x = Talk.told(SIX + "voter a1b-1c1d-1e1f-1;");
        check.due("promise 16: all votes", "0:1-0+;1:0-1.;2:1-0+;3:0-1.;4:1-0+;5:0-1.;p:1-0+;", Talk.minutes(x, 1));
        x.order(0x012345);
        check.due("promise 16: by THE ORDER", "5:0-1.;4:1-0+;3:0-1.;2:1-0+;1:0-1.;0:1-0+;p:1-0+;", Talk.minutes(x, 0));
        AmendmentTree y = Talk.told("bill a;amend bill+b;" + "voter a1b1;".repeat(9));
        check.due("promise 16: nine and none", "0:9-0+;p:9-0+;", Talk.minutes(y, 511));
        AmendmentTree z = Talk.told("bill a;amend bill+b;" + "voter a-1b-1;".repeat(9));
        check.due("promise 16: none and nine", "0:0-9.;p:0-9.;", Talk.minutes(z, 0));
    }

    // ---- promise 17

    /** "NONE: no such MOTION, too." */
    private static void withoutBounds() {
        for (int motions = 0; motions <= 6; motions++) {
            AmendmentTree x = Talk.told(SIX.substring(0, 13 * motions) + "voter a1b1c1d1e1f1;");
            int all = (1 << motions) - 1;
            for (int motion = 0; motion < motions; motion++) {
                check.due("promise 17: MOTION " + motion + " of " + motions, all ^ 1 << motion, x.without(motion, 1));
            }
            check.due("promise 17: MOTION " + motions + " of so many", -1, x.without(motions, 1));
            check.due("promise 17: MOTION -1", -1, x.without(-1, 1));
            for (int far : FAR) {
                check.due("promise 17: MOTION " + far, -1, x.without(far, 0));
            }
        }
        AmendmentTree y = Talk.told("amend bill+a;voter a1;");
        check.due("promise 17: neither MOTION nor VOTER", -1, y.without(1, 2));
        check.due("promise 17: no such VOTER", -1, y.without(0, 2));
    }

    /** "there are neither that nor those of SORT 3 of it; without the SUBSTITUTE no MOTION of SORT 2". */
    private static void withoutWhatHangsOnIt() {
        AmendmentTree x = Talk.told(TREE + "voter a1b4c3d2e1f-9;");
        check.due("promise 17: with all", 2 | 4 | 8, x.result(0));
        int[] due = {1 | 16, 2, 2 | 4, 2 | 4 | 8, 2 | 4 | 8};
        for (int m = 0; m < due.length; m++) {
            check.due("promise 17: WITHOUT " + m, due[m], x.without(m, 0));
        }
        x.weigh(0, 4, 5);
        x.weigh(0, 5, 6);
        x.weigh(0, 2, -9);
        check.due("promise 17: with all, the BILL", 1 | 16 | 32, x.result(0));
        int[] then = {1 | 16 | 32, 1 | 16 | 32, 1 | 16 | 32, 2, 1 | 16};
        for (int m = 0; m < then.length; m++) {
            check.due("promise 17: then WITHOUT " + m, then[m], x.without(m, 0));
        }
        check.due("promise 8: the MOTIONS stay", 5, x.count(0));
        check.due("promise 17: none stays out", 1 | 16 | 32, x.result(0));
    }

    /** "all others are in THE ORDER as they were". */
    private static void withoutInTheOrder() {
        AmendmentTree x = Talk.told("bill a;amend bill+d;amend bill+b;sub c;voter a1b2c2;");
        check.due("promise 17: in the least", 3, x.without(0, 1));
        for (int row : new int[] {0x012, 0x102, 0x120}) {
            x.order(row);
            check.due("promise 17: 2 ahead of 1, by " + Integer.toHexString(row), 4, x.without(0, 1));
        }
        for (int row : new int[] {0x021, 0x201, 0x210}) {
            x.order(row);
            check.due("promise 17: 1 ahead of 2, by " + Integer.toHexString(row), 3, x.without(0, 1));
        }
        check.due("promise 9: THE ORDER stays", 2, x.motion(2, 4));
    }

    // ---- promise 18

    /** "KILLERS by T, as bits": each of six. */
    private static void killersBounds() {
        for (int killer = 0; killer < 6; killer++) {
            String text = "bill a;" + "amend bill+c;".repeat(killer) + "amend bill+b;" + "amend bill+c;".repeat(5 - killer);
            AmendmentTree x = Talk.told(text + KILLED);
            check.due("promise 18: " + killer + " alone", 1 << killer, x.killers(7));
            check.due("promise 18: by the foreseeing none", 0, x.killers(0));
        }
        check.due("promise 18: of no MOTIONS", 0, Talk.told("bill a;voter a-1;").killers(0));
        check.due("promise 18: of a new object", 0, new AmendmentTree().killers(0));
    }

    /** "A KILLER by T is a MOTION such that the RESULT is 0, and WITHOUT it is not." */
    private static void killersNone() {
        AmendmentTree twice = Talk.told("bill a;amend bill+b;amend bill+b;" + KILLED);
        check.due("promise 18: killed", 0, twice.result(7));
        check.due("promise 18: each kills without the other", 0, twice.killers(7));
        AmendmentTree dead = Talk.told("bill a;amend bill+b;voter a-1b-1;");
        check.due("promise 18: dead WITHOUT it", 0, dead.killers(1));
        AmendmentTree saved = Talk.told("bill a;amend bill+b;voter a-1b2;");
        check.due("promise 18: saved by it", 2, saved.result(1) - 1);
        check.due("promise 17: dead without what saves", 0, saved.without(0, 1));
        check.due("promise 18: what saves does not kill", 0, saved.killers(1));
    }

    /** Of SORT 0 and 3 together, and the SUBSTITUTE with what amends it. */
    private static void killersOfAllSorts() {
        String voters = "voter a1b-9;voter a-1b-1;voter a-1b-1;quota 1;";
        AmendmentTree x = Talk.told("bill a;amend bill+d;amend 0+b-d;" + voters);
        check.due("promise 13: it dies", 0, x.result(0));
        check.due("promise 18: SORT 0 and 3", 3, x.killers(0));
        AmendmentTree y = Talk.told("bill a;sub a;amend sub+d;amend 1+b-d;amend bill+c;" + voters);
        check.due("promise 13: by the SUBSTITUTE", 0, y.result(0));
        check.due("promise 18: SORT 1, 2 and 3", 7, y.killers(0));
        check.due("promise 18: none by the true", 0, y.killers(7));
    }

    // ---- promise 19

    /** "NONE: no such VOTER, another what, too." */
    private static void bestBounds() {
        for (int voters = 0; voters <= 9; voters++) {
            AmendmentTree x = Talk.told("bill a;" + "voter a1;".repeat(voters));
            for (int voter = 0; voter < voters; voter++) {
                check.due("promise 19: VOTER " + voter + " of " + voters, 1, x.best(voter, 0, 0));
            }
            check.due("promise 19: VOTER " + voters + " of so many", -1, x.best(voters, 0, 0));
            check.due("promise 19: VOTER -1", -1, x.best(-1, 0, 0));
            for (int far : FAR) {
                check.due("promise 19: VOTER " + far, -1, x.best(far, 0, 0));
                check.due("promise 19: what " + far, -1, x.best(0, 0, far));
            }
            check.due("promise 19: what 3", -1, x.best(0, 0, 3));
            check.due("promise 19: what -1", -1, x.best(0, 0, -1));
        }
    }

    /** "5: GOOD ORDERS (of no MOTIONS: 1)": best has that one then. */
    private static void bestWithoutMotions() {
        AmendmentTree x = Talk.told("bill a;voter a-9;voter a1;quota 1;");
        check.due("promise 19: RESULT without MOTIONS", 1, x.best(0, 0, 0));
        check.due("promise 19: ORDER without MOTIONS", 0, x.best(0, 0, 1));
        check.due("promise 19: how many without MOTIONS", 1, x.best(0, 0, 2));
    }

    /** "2: how many they are": one to all GOOD ORDERS. */
    private static void bestOfAll() {
        AmendmentTree x = Talk.told(SIX + "voter a1b1c1d1e1f1;");
        check.due("promise 19: all six", 63, x.best(0, 0, 0));
        check.due("promise 19: the least of all", 0x543210, x.best(0, 0, 1));
        check.due("promise 19: all ORDERS", 720, x.best(0, 0, 2));
        AmendmentTree y = Talk.told("sub a;amend sub+b;amend 1+c;voter a1;");
        check.due("promise 19: the one ORDER", 0x012, y.best(0, 0, 1));
        check.due("promise 19: one", 1, y.best(0, 0, 2));
        AmendmentTree z = Talk.told("bill h;sub a;amend bill+b;amend sub+c;amend 2+d;amend bill+e;amend 4+f;voter;");
        check.due("promise 19: GOOD ones alone", z.count(5), z.best(0, 0, 2));
        check.due("promise 19: the least GOOD one", 0x450231, z.best(0, 0, 1));
    }

    /** "those by whose RESULT a VOTER LIKES it most: what 0: the RESULT of the least of these, 1: that ORDER". */
    private static void bestIsTheLeast() {
        String tail = "voter a1b2c2;voter a1b2c2;voter c1;voter b1;voter a1b2c2;";
        AmendmentTree x = Talk.told("bill a;amend bill+b;sub c;" + tail);
        best(x, 2, 4, 0x01, 1);
        best(x, 3, 3, 0x10, 1);
        best(x, 0, 3, 0x10, 1);
        AmendmentTree y = Talk.told("bill a;sub c;amend bill+b;" + tail);
        best(y, 2, 4, 0x10, 1);
        best(y, 3, 3, 0x01, 1);
        y.weigh(2, 1, 1);
        best(y, 2, 4, 0x10, 2);
        AmendmentTree z = Talk.told("bill a;amend bill+d;amend bill+b;sub c;" + tail);
        best(z, 2, 4, 0x120, 3);
        best(z, 3, 3, 0x210, 3);
        check.due("promise 7: best, as order() takes it", true, z.order(z.best(2, 31, 1)));
        check.due("promise 13: leads to its RESULT", z.best(2, 31, 0), z.result(31));
    }

    private static void best(AmendmentTree x, int voter, int form, int row, int many) {
        check.due("promise 19: RESULT for " + voter, form, x.best(voter, 31, 0));
        check.due("promise 19: ORDER for " + voter, row, x.best(voter, 31, 1));
        check.due("promise 19: how many for " + voter, many, x.best(voter, 31, 2));
    }

    /** "(THE ORDER stays.)" */
    private static void bestLeavesTheOrder() {
        AmendmentTree x = Talk.told(TREE + "voter a1b4c3d2e1f-9;");
        check.due("promise 7: another ORDER", true, x.order(0x01234));
        for (int what = 0; what < 3; what++) {
            x.best(0, 1, what);
        }
        AmendmentTree y = Talk.told(TREE + "voter a1b4c3d2e1f-9;");
        y.order(0x01234);
        check.due("promise 19: all stays", Snapshot.of(y), Snapshot.of(x));
    }
}
