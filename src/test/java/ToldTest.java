/** Promises 6 to 12: weights, the order, counts, motions, likes and forms. */
public final class ToldTest {
    private static final Check check = new Check("ToldTest");
    private static final String HALL = "bill ab; amend bill + c - a; amend 0 + de - c; sub ef;"
            + "amend sub + gh - e; amend 3 + a - g; voter a3 b-2 h9; voter c1; joint 0 ab 5; joint 1 cd -4;"
            + "joint 0 abh -9;";

    public static void main(String[] args) {
        weigh();
        order();
        goodOrders();
        count();
        motion();
        weight();
        likes();
        form();
        check.end();
    }

    private static void weigh() {
        AmendmentTree x = Talk.told(HALL);
        check.due("weigh", true, x.weigh(1, 7, -9));
        check.due("weighed", -9, x.weight(1, 7));
        check.due("likes by it", -9, x.likes(1, 128));
        check.due("weigh again", true, x.weigh(1, 7, 9));
        check.due("the same weight", true, x.weigh(1, 7, 9));
        check.due("weight too high", false, x.weigh(1, 7, 10));
        check.due("weight too low", false, x.weigh(1, 7, -10));
        check.due("no such voter", false, x.weigh(2, 7, 1));
        check.due("voter below 0", false, x.weigh(-1, 7, 1));
        check.due("no such clause", false, x.weigh(1, 8, 1));
        check.due("clause below 0", false, x.weigh(1, -1, 1));
        check.due("weighed last", 9, x.weight(1, 7));
        check.due("others stay", 9, x.weight(0, 7));
        check.due("joints stay", -3, x.likes(1, 12));
        weighChangesAnswers();
    }

    private static void weighChangesAnswers() {
        AmendmentTree x = Talk.told("bill a;amend bill+b;voter a1;");
        check.due("winner ahead", -1, x.winner());
        check.due("result ahead", 1, x.result(0));
        x.weigh(0, 1, 1);
        check.due("winner behind", 3, x.winner());
        check.due("result behind", 3, x.result(0));
        x.weigh(0, 0, -9);
        check.due("winner none", 0, x.winner());
        check.due("result none", 0, x.result(0));
    }

    private static void order() {
        AmendmentTree x = Talk.told(HALL);
        int[] least = {1, 0, 4, 3, 2};
        for (int place = 0; place < least.length; place++) {
            check.due("least order at " + place, place, x.motion(least[place], 4));
        }
        check.due("it is so", false, x.order(0x23401));
        check.due("a good one", true, x.order(0x20134));
    }

    private static void goodOrders() {
        AmendmentTree x = Talk.told("amend bill+a;amend 0+b;sub c;amend sub+d;");
        check.due("good orders", 6, x.count(5));
        check.due("least", 0, x.motion(1, 4));
        check.due("least second", 1, x.motion(0, 4));
        check.due("so already", false, x.order(0x2301));
        check.due("3 ahead", true, x.order(0x0123));
        check.due("place of 3", 0, x.motion(3, 4));
        check.due("place of 0", 3, x.motion(0, 4));
        check.due("now it is so", false, x.order(0x0123));
        check.due("0 ahead of 1", false, x.order(0x2310));
        check.due("2 ahead of 3", false, x.order(0x3201));
        check.due("one twice", false, x.order(0x2331));
        check.due("one too few", false, x.order(0x0301));
        check.due("beyond", false, x.order(0x12301));
        check.due("far beyond", false, x.order(0x80002301));
        check.due("no such motion", false, x.order(0x4301));
        check.due("15", false, x.order(0xF301));
        check.due("stays", 0, x.motion(3, 4));
        check.due("back", true, x.order(0x2301));
        Talk.tell(x, "amend bill+a;amend bill+b;");
        check.due("least anew", 0, x.motion(0, 4));
        check.due("two orders", 2, x.count(5));
        check.due("six free motions", 720, Talk.told("amend bill+a;".repeat(6)).count(5));
        check.due("one behind all", 120, Talk.told("sub a;" + "amend sub+b;".repeat(5)).count(5));
        check.due("a chain", 1, Talk.told("sub a;amend sub+b;amend 1+c;").count(5));
    }

    private static void count() {
        AmendmentTree x = Talk.told(HALL);
        int[] counts = {5, 2, 3, 2, 3, 10, 0, 7};
        for (int what = 0; what < counts.length; what++) {
            check.due("count " + what, counts[what], x.count(what));
        }
        check.due("count -1", -1, x.count(-1));
        check.due("count 8", -1, x.count(8));
        Talk.feed(x, "abcde");
        check.due("bytes", 5, x.count(6));
        check.due("quota of none", 1, Talk.told("").count(3));
        check.due("quota of 3", 2, Talk.told("voter;voter;voter;").count(3));
        check.due("quota of 4", 3, Talk.told("voter;".repeat(4)).count(3));
        check.due("quota told", 9, Talk.told("quota 9;").count(3));
        check.due("open forms of most", 65, Talk.told("bill gh;amend bill+a;amend bill+b;amend bill+c;"
                + "amend bill+d;amend bill+e;amend bill+f;").count(7));
    }

    private static void motion() {
        AmendmentTree x = Talk.told(HALL);
        int[][] want = {{0, -1, 4, 1, 1}, {3, 0, 24, 4, 0}, {1, -1, 48, 0, 4}, {2, 2, 192, 16, 3}, {3, 3, 1, 64, 2}};
        for (int m = 0; m < want.length; m++) {
            for (int what = 0; what < 5; what++) {
                check.due("motion " + m + " " + what, want[m][what], x.motion(m, what));
            }
        }
        check.noSuch("motion 5", () -> x.motion(5, 0));
        check.noSuch("motion -1", () -> x.motion(-1, 0));
        check.noSuch("what 5", () -> x.motion(0, 5));
        check.noSuch("what -1", () -> x.motion(0, -1));
    }

    private static void weight() {
        AmendmentTree x = Talk.told(HALL);
        check.due("weight a", 3, x.weight(0, 0));
        check.due("weight b", -2, x.weight(0, 1));
        check.due("weight untold", 0, x.weight(0, 2));
        check.due("weight h", 9, x.weight(0, 7));
        check.due("weight c", 1, x.weight(1, 2));
        check.noSuch("voter 2", () -> x.weight(2, 0));
        check.noSuch("voter -1", () -> x.weight(-1, 0));
        check.noSuch("clause 8", () -> x.weight(0, 8));
        check.noSuch("clause -1", () -> x.weight(0, -1));
    }

    private static void likes() {
        AmendmentTree x = Talk.told(HALL);
        check.due("likes nothing", 0, x.likes(0, 0));
        check.due("likes a", 3, x.likes(0, 1));
        check.due("likes ab", 6, x.likes(0, 3));
        check.due("likes ah", 12, x.likes(0, 129));
        check.due("likes abh", 6, x.likes(0, 131));
        check.due("likes all", 6, x.likes(0, 255));
        check.due("1 likes cd", -3, x.likes(1, 12));
        check.due("1 likes all", -3, x.likes(1, 255));
        check.due("1 likes ab", 0, x.likes(1, 3));
        check.noSuch("form 256", () -> x.likes(0, 256));
        check.noSuch("form -1", () -> x.likes(0, -1));
        check.noSuch("voter 2", () -> x.likes(2, 0));
        check.noSuch("voter -1", () -> x.likes(-1, 0));
        check.due("a joint twice", 10, Talk.told("voter;joint 0 ab 5;joint 0 ba 5;").likes(0, 3));
    }

    private static void form() {
        AmendmentTree x = Talk.told(HALL);
        check.due("the bill", 3, x.form(0));
        check.due("0: c for a", 6, x.form(1));
        check.due("0 and 1: de for a", 26, x.form(3));
        check.due("1 alone", 3, x.form(2));
        check.due("the substitute", 48, x.form(4));
        check.due("it instead of 0", 48, x.form(7));
        check.due("2 and 3: fgh", 224, x.form(12));
        check.due("3 alone", 3, x.form(8));
        check.due("2, 3 and 4: fah", 161, x.form(28));
        check.due("2 and 4", 48, x.form(20));
        check.due("all", 161, x.form(31));
        check.due("beyond", -1, x.form(32));
        check.due("below", -1, x.form(-1));
        check.due("far below", -1, x.form(Integer.MIN_VALUE));
        AmendmentTree y = Talk.told("bill a;amend bill+b-a;amend bill+a-b;amend bill+c-c;amend 0+d-b;amend 0+b-d;");
        check.due("by number", 1, y.form(3));
        check.due("plus behind minus", 5, y.form(4));
        check.due("both of 0", 2, y.form(0b11001));
        check.due("one of 0", 8, y.form(0b01001));
        check.due("minus of 1 spares d", 9, y.form(0b01011));
    }
}
