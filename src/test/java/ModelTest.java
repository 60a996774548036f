import java.util.Random;

/** Long runs of drawn calls (always the same ones), each answer held against the Model's. */
public final class ModelTest {
    private static final int RUNS = 300;
    /** A last text takes up to 25 calls more, and no object is used for more than 512. */
    private static final int CALLS = 480;
    private static final String[] WORDS = {"bill", "sub", "amend", "voter", "joint", "quota", "a", "h", "ab", "i", "0",
        "1", "9", "10", "999", "0000", "+", "-", ";", ";", " ", "\n", "x", "\u00e9"};
    private static final int[] ODD = {-1, -2, 8, 9, 255, 256, 512, 1 << 24, Integer.MAX_VALUE, Integer.MIN_VALUE};

    private static final Check check = new Check("ModelTest");
    private static Random random;
    private static AmendmentTree tree;
    private static Model model;
    private static int calls;

    public static void main(String[] args) {
        for (int run = 0; run < RUNS && check.wrong() < 20; run++) {
            random = new Random(run);
            tree = new AmendmentTree();
            model = new Model();
            calls = 0;
            while (calls < CALLS) {
                say(drawText());
                int some = random.nextInt(120);
                for (int i = 0; i < some && calls < CALLS; i++) {
                    call();
                }
            }
        }
        check.end();
    }

    private static int below(int bound) {
        return random.nextInt(bound);
    }

    // ---- texts

    private static void say(String text) {
        for (int i = 0; i < text.length(); i += 20) {
            int[] numbers = new int[5];
            for (int k = 0; k < 20; k++) {
                int sign = i + k < text.length() ? text.charAt(i + k) : ';';
                numbers[k / 4] = numbers[k / 4] << 8 | sign;
            }
            due("feed", model.feed(numbers), tree.feed(numbers[0], numbers[1], numbers[2], numbers[3], numbers[4]));
        }
        int cut = below(40) == 0 ? text.length() / 2 : text.length();
        due("end " + cut, model.end(cut), tree.end(cut));
        due("bytes", model.count(6), tree.count(6));
        due("tell " + text, model.tell(), tree.tell());
        due("fault of " + text, model.fault(), tree.fault());
    }

    private static String drawText() {
        StringBuilder text = new StringBuilder();
        // A seventh motion is a FAULT that hides what stands behind it, so six are drawn most and seven seldom.
        int motions = below(12) == 0 ? 7 : below(3) == 0 ? 6 : below(6);
        int voters = below(10);
        int sort = below(3);
        if (below(8) != 0) {
            text.append("bill ").append(set(1)).append(';');
        }
        for (int v = 0; v < voters; v++) {
            text.append(voter());
        }
        int sub = sort == 0 ? -1 : below(Math.max(1, motions));
        int amendable = 0;
        for (int m = 0; m < motions; m++) {
            String of = m == sub ? "" : target(m, sub, amendable);
            text.append(m == sub ? "sub " + set(1) + ";" : amendment(of));
            amendable |= of.equals("bill") || of.equals("sub") ? 1 << m : 0;
        }
        for (int joints = voters == 0 ? 0 : below(8); joints > 0; joints--) {
            text.append("joint ").append(below(voters)).append(set(2)).append(weight()).append(';');
        }
        if (below(4) == 0) {
            text.append("quota ").append(1 + below(5)).append(';');
        }
        if (below(5) == 0) {
            spoil(text);
        }
        return text.length() > 400 ? text.substring(0, 1 + text.lastIndexOf(";", 399)) : text.toString();
    }

    private static String set(int least) {
        StringBuilder letters = new StringBuilder();
        for (int left = 1 << 8; letters.length() < least || below(3) == 0; ) {
            int clause = below(8);
            if ((left >> clause & 1) == 0) {
                letters.append((char) ('a' + clause));
                left |= 1 << clause;
            }
        }
        return letters.toString();
    }

    private static String weight() {
        return (below(2) == 0 ? "-" : "") + below(10);
    }

    private static String voter() {
        StringBuilder text = new StringBuilder("voter ");
        for (int c = 0; c < 8; c++) {
            if (below(2) != 0) {
                text.append((char) ('a' + c)).append(weight());
            }
        }
        return text.append(';').toString();
    }

    /** What a motion amends: most often what it may, and any of those that may be amended alike. */
    private static String target(int motion, int sub, int amendable) {
        if (below(40) == 0) {
            return Integer.toString(below(motion + 2));
        }
        if (amendable != 0 && below(3) == 0) {
            int other = below(motion);
            while ((amendable >> other & 1) == 0) {
                other = (other + 1) % motion;
            }
            return Integer.toString(other);
        }
        return sub >= 0 && sub < motion && below(2) == 0 ? "sub" : "bill";
    }

    private static String amendment(String of) {
        int kind = below(3);
        return "amend " + of + (kind != 0 ? "+" + set(1) : "") + (kind != 1 ? "-" + set(1) : "") + ";";
    }

    private static void spoil(StringBuilder text) {
        for (int i = 1 + below(3); i > 0; i--) {
            int at = below(text.length() + 1);
            switch (below(3)) {
                case 0:
                    text.insert(at, WORDS[below(WORDS.length)]);
                    break;
                case 1:
                    text.delete(at, Math.min(text.length(), at + 1 + below(3)));
                    break;
                default:
                    int end = text.indexOf(";", at);
                    text.insert(end < 0 ? text.length() : end + 1, WORDS[below(6)] + " " + WORDS[below(WORDS.length)]);
                    break;
            }
        }
    }

    // ---- calls

    private static int draw(int bound) {
        return below(25) == 0 ? ODD[below(ODD.length)] : below(Math.max(1, bound));
    }

    private static int drawForm() {
        return below(3) == 0 ? draw(256) : model.open(below(model.count(7)));
    }

    private static int drawRow() {
        int motions = model.count(0);
        int voters = model.count(1);
        if (below(3) == 0 && voters > 0) {
            calls++;
            return tree.best(below(voters), below(1 << voters), 1);
        }
        int row = 0;
        int[] left = random.ints(0, 1000).distinct().limit(motions).toArray();
        for (int m = 0; m < motions; m++) {
            int place = 0;
            for (int other : left) {
                place += other < left[m] ? 1 : 0;
            }
            row |= m << 4 * place;
        }
        return below(20) == 0 ? row ^ 1 << below(32) : row;
    }

    private static void call() {
        int motions = model.count(0);
        int voters = model.count(1);
        int t = below(3) == 0 ? 0 : draw(1 << voters);
        int voter = draw(voters);
        int motion = draw(motions);
        switch (below(17)) {
            case 0:
                int clause = draw(8);
                int w = below(20) == 0 ? draw(12) : below(19) - 9;
                due("weigh", model.weigh(voter, clause, w), tree.weigh(voter, clause, w));
                break;
            case 1:
                int row = drawRow();
                due("order " + row, model.order(row), tree.order(row));
                break;
            case 2:
                int what = draw(9);
                due("count " + what, model.count(what), tree.count(what));
                break;
            case 3:
                int of = draw(5);
                due("motion", Check.answerOf(() -> model.motion(motion, of)), Check.answerOf(() -> tree.motion(motion, of)));
                break;
            case 4:
                int c = draw(8);
                due("weight", Check.answerOf(() -> model.weight(voter, c)), Check.answerOf(() -> tree.weight(voter, c)));
                break;
            case 5:
                int f = drawForm();
                due("likes", Check.answerOf(() -> model.likes(voter, f)), Check.answerOf(() -> tree.likes(voter, f)));
                break;
            case 6:
                int set = draw(1 << motions);
                due("form " + set, model.form(set), tree.form(set));
                break;
            case 7:
                due("result " + t, model.result(t), tree.result(t));
                break;
            case 8:
                due("adopted " + t, model.adopted(t), tree.adopted(t));
                break;
            case 9:
                int i = draw(motions + 1);
                due("yes " + t, model.yes(t, i), tree.yes(t, i));
                break;
            case 10:
                int at = draw(7 * motions + 7);
                due("minutes " + t, model.minutes(t, at), tree.minutes(t, at));
                break;
            case 11:
                due("without", model.without(motion, t), tree.without(motion, t));
                break;
            case 12:
                due("killers " + t, model.killers(t), tree.killers(t));
                break;
            case 13:
                int best = draw(3);
                // The model tries up to 720 orders one by one, so it is asked less often where there are many.
                boolean dear = motions > 4 && below(motions == 5 ? 4 : 12) != 0;
                if (!dear) {
                    due("best", model.best(voter, t, best), tree.best(voter, t, best));
                }
                break;
            default:
                callOnForms();
                break;
        }
    }

    private static void callOnForms() {
        int form = drawForm();
        int other = drawForm();
        int what = draw(3);
        int i = draw(model.count(7) + 1);
        switch (below(4)) {
            case 0:
                due("prefers", model.prefers(form, other), tree.prefers(form, other));
                break;
            case 1:
                due("open " + i, model.open(i), tree.open(i));
                break;
            case 2:
                due("winner", model.winner(), tree.winner());
                break;
            default:
                due("standing " + form + " " + what, model.standing(form, what), tree.standing(form, what));
                break;
        }
    }

    private static void due(String call, long want, long got) {
        calls++;
        check.due(call, want, got);
    }

    private static void due(String call, boolean want, boolean got) {
        calls++;
        check.due(call, want, got);
    }
}
