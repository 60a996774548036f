/** Promises 1 to 5: a new object, the tape, texts and their faults. */
public final class TextTest {
    private static final Check check = new Check("TextTest");

    public static void main(String[] args) {
        newObject();
        tape();
        tellAnswers();
        faultsOfKindOne();
        faultsOfKindTwo();
        faultsOfKindThree();
        faultsOfKindFour();
        faultLeavesAll();
        check.end();
    }

    private static void newObject() {
        AmendmentTree x = new AmendmentTree();
        int[] counts = {0, 0, 0, 1, 0, 1, 0, 1};
        for (int what = 0; what < counts.length; what++) {
            check.due("new count " + what, counts[what], x.count(what));
        }
        check.due("new fault", 0, x.fault());
        check.due("new form", 0, x.form(0));
        check.due("new form of a motion", -1, x.form(1));
        check.due("new result", 0, x.result(0));
        check.due("new result of a voter", -1, x.result(1));
        check.due("new adopted", 0, x.adopted(0));
        check.due("new yes", 0, x.yes(0, 0));
        check.due("new yes 1", -1, x.yes(0, 1));
        check.due("new minutes", "p:0-0.;", Talk.minutes(x, 0));
        check.due("new without", -1, x.without(0, 0));
        check.due("new killers", 0, x.killers(0));
        check.due("new best", -1, x.best(0, 0, 0));
        check.due("new prefers", 0, x.prefers(255, 0));
        check.due("new open", 0, x.open(0));
        check.due("new open 1", -1, x.open(1));
        check.due("new winner", 0, x.winner());
        check.due("new top", 1, x.standing(0, 0));
        check.due("new covered", 0, x.standing(0, 1));
        check.due("new beats", 0, x.standing(0, 2));
        check.due("new order", false, x.order(0));
        check.due("new order 1", false, x.order(1));
        check.due("new weigh", false, x.weigh(0, 0, 1));
        check.noSuch("new motion", () -> x.motion(0, 0));
        check.noSuch("new weight", () -> x.weight(0, 0));
        check.noSuch("new likes", () -> x.likes(0, 0));
        check.due("NONE", -1, AmendmentTree.NONE);
    }

    private static void tape() {
        AmendmentTree x = new AmendmentTree();
        for (int i = 1; i <= 20; i++) {
            check.due("feed " + i, 20 * i, x.feed(0x20202020, 0x0A0A0A0A, 0x20202020, 0x20202020, 0x20202020));
        }
        check.due("feed beyond", -1, x.feed(0, 0, 0, 0, 0));
        check.due("full tape", 400, x.count(6));
        check.due("end below 0", false, x.end(-1));
        check.due("end beyond", false, x.end(401));
        check.due("end at all", true, x.end(400));
        check.due("end at 381", true, x.end(381));
        check.due("feed at 381", -1, x.feed(0, 0, 0, 0, 0));
        check.due("end at 380", true, x.end(380));
        check.due("end at 381 again", false, x.end(381));
        check.due("feed at 380", 400, x.feed(0x20202020, 0x20202020, 0x20202020, 0x20202020, 0x20202020));
        check.due("tell of blanks", 0, x.tell());
        check.due("tape told", 0, x.count(6));
        check.due("end at 0", true, x.end(0));
        check.due("end at 1", false, x.end(1));
        check.due("end at the least", false, x.end(Integer.MIN_VALUE));
        bytesHighestFirst();
    }

    private static void bytesHighestFirst() {
        AmendmentTree x = new AmendmentTree();
        x.feed(0x62696C6C, 0x20616368, 0x3B20FFFF, 0, 0);
        check.due("end behind a statement", true, x.end(9));
        check.due("tell by bytes", 1, x.tell());
        check.due("bill by bytes", 0b10000101, x.count(4));
        x.feed(0xFFFFFFFF, 0, 0, 0, 0);
        check.due("tell of high bytes", -1, x.tell());
        check.due("fault of high bytes", 1, x.fault());
    }

    private static void tellAnswers() {
        AmendmentTree x = new AmendmentTree();
        check.due("empty", 0, x.tell());
        check.due("one", 1, Talk.tell(x, "bill ah;"));
        check.due("bill", 0b10000001, x.count(4));
        check.due("no blanks", 7, Talk.tell(x, "bill ab;amend bill+c-a;sub d;amend sub-d;voter a3b-2;joint0ab-9;quota2;"));
        check.due("motions", 3, x.count(0));
        check.due("voters", 1, x.count(1));
        check.due("joints", 1, x.count(2));
        check.due("quota", 2, x.count(3));
        check.due("blanks", 3, Talk.tell(x, "\n voter\n a  3 b -\n2 ; joint 00 ab\n- 9 ;\nquota 009\n; \n"));
        check.due("all anew: bill", 0, x.count(4));
        check.due("all anew: motions", 0, x.count(0));
        check.due("all anew: quota", 9, x.count(3));
        check.due("a voter without weights", 2, Talk.tell(x, "voter; voter h-0;"));
        check.due("all anew: joints", 0, x.count(2));
        check.due("quota of two", 2, x.count(3));
        check.due("all anew: weight", 0, x.weight(0, 0));
        check.due("nothing", 0, Talk.tell(x, " \n"));
        check.due("nobody", 0, x.count(1));
        check.due("bill behind motions", 2, Talk.tell(x, "amend bill+a;bill b;"));
        check.due("form of it", 3, x.form(1));
    }

    private static void faultsOfKindOne() {
        fault(";", 0, 1);
        fault("bill", 4, 1);
        fault("bill  \n", 7, 1);
        fault("bill a", 6, 1);
        fault("bill a b;", 7, 1);
        fault("bill aa;", 5, 1);
        fault("bill i;", 5, 1);
        fault("bill bill;", 5, 1);
        fault("bill 3;", 5, 1);
        fault("billa;", 0, 1);
        fault("Bill a;", 0, 1);
        fault("3;", 0, 1);
        fault("bill a;;", 7, 1);
        fault("bill\ta;", 4, 1);
        fault("amend;", 5, 1);
        fault("amend bill;", 10, 1);
        fault("amend bill a;", 11, 1);
        fault("amend bill +;", 12, 1);
        fault("amend bill + a + b;", 15, 1);
        fault("amend bill - a + b;", 15, 1);
        fault("amend bill - a - b;", 15, 1);
        fault("amend bill - ;", 13, 1);
        fault("amend bill + a - i;", 17, 1);
        fault("amend quota + a;", 6, 1);
        fault("amend 0000 + a;", 6, 1);
        fault("sub;", 3, 1);
        fault("sub 1;", 4, 1);
        fault("sub abca;", 4, 1);
        fault("voter ab3;", 6, 1);
        fault("voter i3;", 6, 1);
        fault("voter a;", 7, 1);
        fault("voter a--1;", 8, 1);
        fault("voter a+1;", 7, 1);
        fault("voter 1;", 6, 1);
        fault("voter a0001;", 7, 1);
        fault("voter a-", 8, 1);
        fault("voter a1 a", 9, 3);
        fault("voter;joint ab 1;", 12, 1);
        fault("voter;joint 0 a 1;", 14, 1);
        fault("voter;joint 0 1;", 14, 1);
        fault("voter;joint 0 ab;", 16, 1);
        fault("voter;joint 0 ab -;", 18, 1);
        fault("voter;joint 0000 ab 1;", 12, 1);
        fault("quota;", 5, 1);
        fault("quota -1;", 6, 1);
        fault("quota 0001;", 6, 1);
        fault("quota 1 1;", 8, 1);
        fault("" + (char) 0, 0, 1);
        fault("bill a;" + (char) 233, 7, 1);
    }

    private static void faultsOfKindTwo() {
        fault("amend 0 + a;", 6, 2);
        fault("amend bill + a; amend 1 + a;", 22, 2);
        fault("sub a; amend 0 + a;", 13, 2);
        fault("amend bill+a;amend 0+b;amend 1+c;", 29, 2);
        fault("amend bill+a;amend 999", 19, 2);
        fault("voter a10;", 7, 2);
        fault("voter a-10;", 8, 2);
        fault("voter a999;", 7, 2);
        fault("joint 0 ab 1;", 6, 2);
        fault("voter;joint 1 a 1;", 12, 2);
        fault("voter;joint 0 ab 10;", 17, 2);
        fault("voter;joint 0 ab - 10;", 19, 2);
        fault("quota 0;", 6, 2);
        fault("quota 10;", 6, 2);
        fault("quota 000;", 6, 2);
    }

    private static void faultsOfKindThree() {
        fault("bill a; bill b;", 8, 3);
        fault("bill a;bill", 7, 3);
        fault("sub a; sub b;", 7, 3);
        fault("quota 1; quota 1;", 9, 3);
        fault("voter a1b2a3;", 10, 3);
        fault("voter a0a0;", 8, 3);
        fault("amend sub + a;", 6, 3);
        fault("amend sub + a; sub b;", 6, 3);
        String six = "amend bill+a;".repeat(5);
        fault(six + "sub a;sub b;", six.length() + 6, 3);
    }

    private static void faultsOfKindFour() {
        String six = "amend bill+a;".repeat(6);
        check.due("six motions", 6, Talk.told(six).count(0));
        fault(six + "amend bill+a;", six.length(), 4);
        fault(six + " amend ;", six.length() + 1, 4);
        fault(six + "sub a;", six.length(), 4);
        fault(six + "amend sub+a;", six.length(), 4);
        String nine = "voter;".repeat(9);
        check.due("nine voters", 9, Talk.told(nine).count(1));
        fault(nine + "voter;", nine.length(), 4);
        fault(nine + "voter x", nine.length(), 4);
        String joints = "voter;" + "joint 0 ab 1;".repeat(6);
        check.due("six joints", 6, Talk.told(joints).count(2));
        fault(joints + "joint 9 a;", joints.length(), 4);
    }

    private static void faultLeavesAll() {
        AmendmentTree x = Talk.told("bill ab;amend bill+c;amend bill+d;voter a1;quota 3;");
        check.due("other order", true, x.order(0x01));
        check.due("a fault", -1, Talk.tell(x, "bill h;amend bill+e;voter;voter;quota 4;sub;"));
        check.due("tape behind a fault", 0, x.count(6));
        check.due("fault", 8 * 43 + 1, x.fault());
        check.due("fault again", 8 * 43 + 1, x.fault());
        check.due("bill stays", 3, x.count(4));
        check.due("motions stay", 2, x.count(0));
        check.due("voters stay", 1, x.count(1));
        check.due("quota stays", 3, x.count(3));
        check.due("order stays", 0, x.motion(1, 4));
        check.due("form stays", 15, x.form(3));
        check.due("told again", 1, Talk.tell(x, "bill h;"));
        check.due("no fault", 0, x.fault());
    }

    private static void fault(String text, int place, int kind) {
        AmendmentTree x = new AmendmentTree();
        check.due("tell " + text, -1, Talk.tell(x, text));
        check.due("fault of " + text, 8 * place + kind, x.fault());
    }
}
