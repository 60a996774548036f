import java.util.ArrayList;
import java.util.List;
import java.util.NoSuchElementException;
import java.util.TreeSet;
import java.util.regex.Matcher;
import java.util.regex.Pattern;

/** The document once more, as slowly and as literally as it can be said, to be held against the class. */
final class Model {
    private static final Pattern TOKEN = Pattern.compile("[a-z]+|[0-9]+|[^ \n]", Pattern.DOTALL);

    private record Token(String text, int place) {
        boolean isNumber() {
            return text.matches("[0-9]{1,3}");
        }

        boolean isSet(int least) {
            return text.matches("[a-h]+") && text.length() >= least && text.chars().distinct().count() == text.length();
        }

        int number() {
            return Integer.parseInt(text);
        }

        int set() {
            return text.chars().map(letter -> 1 << letter - 'a').sum();
        }
    }

    private record Motion(int sort, int of, int plus, int minus) {
    }

    private record Joint(int voter, int set, int weight) {
    }

    private static final class Fault extends Exception {
        private static final long serialVersionUID = 1L;
        final int told;

        Fault(int kind, int place) {
            told = kind + 8 * place;
        }
    }

    private static final class State {
        Integer bill;
        Integer quota;
        final List<Motion> motions = new ArrayList<>();
        final List<int[]> voters = new ArrayList<>();
        final List<Joint> joints = new ArrayList<>();
        List<Integer> order = new ArrayList<>();

        int substitute() {
            for (int m = 0; m < motions.size(); m++) {
                if (motions.get(m).sort() == 1) {
                    return m;
                }
            }
            return -1;
        }
    }

    private State state = new State();
    private String tape = "";
    private int fault;

    // ---- texts

    int feed(int[] numbers) {
        if (tape.length() + 20 > 400) {
            return -1;
        }
        for (int number : numbers) {
            for (int i = 3; i >= 0; i--) {
                tape += (char) (number >> 8 * i & 0xFF);
            }
        }
        return tape.length();
    }

    boolean end(int n) {
        if (n < 0 || n > tape.length()) {
            return false;
        }
        tape = tape.substring(0, n);
        return true;
    }

    int tell() {
        String text = tape;
        tape = "";
        try {
            State next = new State();
            int statements = read(text, next);
            next.order = goodOrders(next).get(0);
            state = next;
            fault = 0;
            return statements;
        } catch (Fault found) {
            fault = found.told;
            return -1;
        }
    }

    int fault() {
        return fault;
    }

    private static List<Token> tokens(String text) {
        List<Token> all = new ArrayList<>();
        Matcher matcher = TOKEN.matcher(text);
        while (matcher.find()) {
            all.add(new Token(matcher.group(), matcher.start()));
        }
        // Blanks never make a token, so this one stands for the end and fits nowhere.
        all.add(new Token(" ", text.length()));
        return all;
    }

    private static int read(String text, State s) throws Fault {
        List<Token> tokens = tokens(text);
        int at = 0;
        int statements = 0;
        while (at < tokens.size() - 1) {
            at = statement(tokens, at, s);
            Token last = tokens.get(at);
            need(last.text().equals(";"), 1, last);
            at++;
            statements++;
        }
        return statements;
    }

    private static void need(boolean right, int kind, Token token) throws Fault {
        if (!right) {
            throw new Fault(kind, token.place());
        }
    }

    private static int statement(List<Token> tokens, int at, State s) throws Fault {
        Token head = tokens.get(at);
        Token next = at + 1 < tokens.size() ? tokens.get(at + 1) : head;
        switch (head.text()) {
            case "bill":
                need(s.bill == null, 3, head);
                need(next.isSet(1), 1, next);
                s.bill = next.set();
                return at + 2;
            case "sub":
                need(s.substitute() < 0, 3, head);
                need(s.motions.size() < 6, 4, head);
                need(next.isSet(1), 1, next);
                s.motions.add(new Motion(1, -1, next.set(), 0));
                return at + 2;
            case "quota":
                need(s.quota == null, 3, head);
                need(next.isNumber(), 1, next);
                need(next.number() >= 1 && next.number() <= 9, 2, next);
                s.quota = next.number();
                return at + 2;
            case "amend":
                need(s.motions.size() < 6, 4, head);
                return amend(tokens, at + 1, s);
            case "voter":
                need(s.voters.size() < 9, 4, head);
                return voter(tokens, at + 1, s);
            case "joint":
                need(s.joints.size() < 6, 4, head);
                return joint(tokens, at + 1, s);
            default:
                throw new Fault(1, head.place());
        }
    }

    private static int amend(List<Token> tokens, int from, State s) throws Fault {
        int at = from;
        Token of = tokens.get(at++);
        need(of.text().equals("bill") || of.text().equals("sub") || of.isNumber(), 1, of);
        int sort = of.text().equals("bill") ? 0 : of.text().equals("sub") ? 2 : 3;
        int parent = -1;
        if (sort == 2) {
            parent = s.substitute();
            need(parent >= 0, 3, of);
        } else if (sort == 3) {
            parent = of.number();
            need(parent < s.motions.size(), 2, of);
            need(s.motions.get(parent).sort() % 2 == 0, 2, of);
        }
        int[] sets = new int[2];
        for (int i = 0; i < 2; i++) {
            if (tokens.get(at).text().equals(i == 0 ? "+" : "-")) {
                Token set = tokens.get(at + 1);
                need(set.isSet(1), 1, set);
                sets[i] = set.set();
                at += 2;
            }
        }
        need(at > from + 1, 1, tokens.get(at));
        s.motions.add(new Motion(sort, parent, sets[0], sets[1]));
        return at;
    }

    private static int weightEnd(List<Token> tokens, int at, int[] weight) throws Fault {
        boolean below = tokens.get(at).text().equals("-");
        Token number = tokens.get(below ? at + 1 : at);
        need(number.isNumber(), 1, number);
        need(number.number() <= 9, 2, number);
        weight[0] = below ? -number.number() : number.number();
        return below ? at + 2 : at + 1;
    }

    private static int voter(List<Token> tokens, int from, State s) throws Fault {
        int at = from;
        Integer[] weights = new Integer[8];
        while (!tokens.get(at).text().equals(";")) {
            Token letter = tokens.get(at);
            need(letter.text().matches("[a-h]"), 1, letter);
            int clause = letter.text().charAt(0) - 'a';
            need(weights[clause] == null, 3, letter);
            int[] weight = new int[1];
            at = weightEnd(tokens, at + 1, weight);
            weights[clause] = weight[0];
        }
        int[] row = new int[8];
        for (int c = 0; c < 8; c++) {
            row[c] = weights[c] == null ? 0 : weights[c];
        }
        s.voters.add(row);
        return at;
    }

    private static int joint(List<Token> tokens, int from, State s) throws Fault {
        Token voter = tokens.get(from);
        need(voter.isNumber(), 1, voter);
        need(voter.number() < s.voters.size(), 2, voter);
        Token set = tokens.get(from + 1);
        need(set.isSet(2), 1, set);
        int[] weight = new int[1];
        int at = weightEnd(tokens, from + 2, weight);
        s.joints.add(new Joint(voter.number(), set.set(), weight[0]));
        return at;
    }

    // ---- what is told

    boolean weigh(int voter, int clause, int w) {
        if (voter < 0 || voter >= state.voters.size() || clause < 0 || clause > 7 || w < -9 || w > 9) {
            return false;
        }
        state.voters.get(voter)[clause] = w;
        return true;
    }

    boolean order(int row) {
        for (List<Integer> good : goodOrders(state)) {
            if (rowOf(good) == row && !good.equals(state.order)) {
                state.order = good;
                return true;
            }
        }
        return false;
    }

    private static int rowOf(List<Integer> order) {
        int row = 0;
        for (int i = 0; i < order.size(); i++) {
            row += order.get(i) << 4 * i;
        }
        return row;
    }

    int count(int what) {
        int[] all = {state.motions.size(), state.voters.size(), state.joints.size(), quota(), bill(),
            what == 5 ? goodOrders(state).size() : 0, tape.length(), openForms().size()};
        return what < 0 || what >= all.length ? -1 : all[what];
    }

    private int quota() {
        return state.quota != null ? state.quota : state.voters.size() / 2 + 1;
    }

    private int bill() {
        return state.bill == null ? 0 : state.bill;
    }

    int motion(int motion, int what) {
        if (motion < 0 || motion >= state.motions.size() || what < 0 || what > 4) {
            throw new NoSuchElementException();
        }
        Motion m = state.motions.get(motion);
        return new int[] {m.sort(), m.of(), m.plus(), m.minus(), state.order.indexOf(motion)}[what];
    }

    int weight(int voter, int clause) {
        if (voter < 0 || voter >= state.voters.size() || clause < 0 || clause > 7) {
            throw new NoSuchElementException();
        }
        return state.voters.get(voter)[clause];
    }

    int likes(int voter, int form) {
        if (voter < 0 || voter >= state.voters.size() || form < 0 || form > 255) {
            throw new NoSuchElementException();
        }
        int sum = 0;
        for (int c = 0; c < 8; c++) {
            sum += (form >> c & 1) * state.voters.get(voter)[c];
        }
        for (Joint joint : state.joints) {
            if (joint.voter() == voter && (joint.set() & ~form) == 0) {
                sum += joint.weight();
            }
        }
        return sum;
    }

    private boolean likesMore(int voter, int form, int other) {
        return likes(voter, form) > likes(voter, other);
    }

    int form(int adopted) {
        if (adopted < 0 || adopted >> state.motions.size() != 0) {
            return -1;
        }
        int sub = state.substitute();
        if (sub >= 0 && has(adopted, sub)) {
            return amended(state.motions.get(sub).plus(), 2, -1, adopted);
        }
        return amended(bill(), 0, -1, adopted);
    }

    private int amended(int from, int sort, int of, int adopted) {
        int form = from;
        for (int m = 0; m < state.motions.size(); m++) {
            Motion one = state.motions.get(m);
            if (has(adopted, m) && one.sort() == sort && (sort != 3 || one.of() == of)) {
                form &= ~one.minus();
                form |= sort == 3 ? one.plus() : amended(one.plus(), 3, m, adopted);
            }
        }
        return form;
    }

    private static boolean has(int set, int member) {
        return (set & 1 << member) != 0;
    }

    /** All good orders, the least first. */
    private static List<List<Integer>> goodOrders(State s) {
        List<List<Integer>> all = new ArrayList<>();
        extend(s, new ArrayList<>(), all);
        return all;
    }

    private static void extend(State s, List<Integer> order, List<List<Integer>> all) {
        if (order.size() == s.motions.size()) {
            if (isGood(s, order)) {
                all.add(new ArrayList<>(order));
            }
            return;
        }
        for (int m = 0; m < s.motions.size(); m++) {
            if (!order.contains(m)) {
                order.add(m);
                extend(s, order, all);
                order.remove(order.size() - 1);
            }
        }
    }

    private static boolean isGood(State s, List<Integer> order) {
        for (int m = 0; m < order.size(); m++) {
            Motion one = s.motions.get(m);
            if (one.sort() == 3 && order.indexOf(m) > order.indexOf(one.of())) {
                return false;
            }
            if (one.sort() == 2 && order.indexOf(m) > order.indexOf(s.substitute())) {
                return false;
            }
        }
        return true;
    }

    // ---- votes

    private boolean wrongVoters(int t) {
        return t < 0 || t >> state.voters.size() != 0;
    }

    private int allVoters() {
        return state.voters.size();
    }

    private int yesOn(List<Integer> order, int place, int adopted, int t) {
        int with = adopted | 1 << order.get(place);
        int found = 0;
        Integer endWith = null;
        Integer endWithout = null;
        for (int v = 0; v < state.voters.size(); v++) {
            if (has(t, v)) {
                found += likesMore(v, form(with), form(adopted)) ? 1 : 0;
            } else {
                if (endWith == null) {
                    endWith = endFrom(order, place + 1, with, t);
                    endWithout = endFrom(order, place + 1, adopted, t);
                }
                found += likesMore(v, endWith, endWithout) ? 1 : 0;
            }
        }
        return found;
    }

    private int endFrom(List<Integer> order, int place, int adopted, int t) {
        if (place == order.size()) {
            return prefers(form(adopted), 0) >= quota() ? form(adopted) : 0;
        }
        boolean carried = yesOn(order, place, adopted, t) * 2 > allVoters();
        return endFrom(order, place + 1, carried ? adopted | 1 << order.get(place) : adopted, t);
    }

    int result(int t) {
        return wrongVoters(t) ? -1 : endFrom(state.order, 0, 0, t);
    }

    int adopted(int t) {
        if (wrongVoters(t)) {
            return -1;
        }
        int adopted = 0;
        for (int place = 0; place < state.order.size(); place++) {
            if (yesOn(state.order, place, adopted, t) * 2 > allVoters()) {
                adopted |= 1 << state.order.get(place);
            }
        }
        return adopted;
    }

    private String allMinutes(int t) {
        String all = "";
        int adopted = 0;
        for (int place = 0; place < state.order.size(); place++) {
            int yes = yesOn(state.order, place, adopted, t);
            boolean carried = yes * 2 > allVoters();
            all += state.order.get(place) + ":" + yes + "-" + (allVoters() - yes) + (carried ? "+" : ".") + ";";
            adopted |= carried ? 1 << state.order.get(place) : 0;
        }
        int yes = prefers(form(adopted), 0);
        return all + "p:" + yes + "-" + (allVoters() - yes) + (yes >= quota() ? "+" : ".") + ";";
    }

    int yes(int t, int i) {
        if (wrongVoters(t) || i < 0 || i > state.motions.size()) {
            return -1;
        }
        return Integer.parseInt(allMinutes(t).split(";")[i].replaceAll(".*:|-.*", ""));
    }

    int minutes(int t, int i) {
        if (wrongVoters(t)) {
            return -1;
        }
        String all = allMinutes(t);
        if (i == -1) {
            return all.length();
        }
        return i < 0 || i >= all.length() ? -1 : all.charAt(i);
    }

    int without(int motion, int t) {
        if (motion < 0 || motion >= state.motions.size() || wrongVoters(t)) {
            return -1;
        }
        List<Integer> left = new ArrayList<>();
        for (int m : state.order) {
            if (!isGone(m, motion)) {
                left.add(m);
            }
        }
        return endFrom(left, 0, 0, t);
    }

    private boolean isGone(int m, int motion) {
        Motion one = state.motions.get(m);
        return m == motion || one.sort() >= 2 && isGone(one.of(), motion);
    }

    int killers(int t) {
        if (wrongVoters(t)) {
            return -1;
        }
        int all = 0;
        for (int m = 0; m < state.motions.size(); m++) {
            if (result(t) == 0 && without(m, t) != 0) {
                all |= 1 << m;
            }
        }
        return all;
    }

    int best(int voter, int t, int what) {
        if (voter < 0 || voter >= state.voters.size() || wrongVoters(t) || what < 0 || what > 2) {
            return -1;
        }
        List<List<Integer>> orders = goodOrders(state);
        List<Integer> ends = new ArrayList<>();
        int most = Integer.MIN_VALUE;
        for (List<Integer> order : orders) {
            int end = endFrom(order, 0, 0, t);
            ends.add(end);
            most = Math.max(most, likes(voter, end));
        }
        int first = -1;
        int found = 0;
        for (int i = 0; i < orders.size(); i++) {
            if (likes(voter, ends.get(i)) == most) {
                first = first < 0 ? i : first;
                found++;
            }
        }
        return what == 0 ? ends.get(first) : what == 1 ? rowOf(orders.get(first)) : found;
    }

    // ---- forms

    int prefers(int form, int other) {
        if (form < 0 || form > 255 || other < 0 || other > 255) {
            return -1;
        }
        int found = 0;
        for (int v = 0; v < state.voters.size(); v++) {
            found += likesMore(v, form, other) ? 1 : 0;
        }
        return found;
    }

    private List<Integer> openForms() {
        TreeSet<Integer> all = new TreeSet<>();
        all.add(0);
        for (int set = 0; set < 1 << state.motions.size(); set++) {
            all.add(form(set));
        }
        return new ArrayList<>(all);
    }

    int open(int i) {
        List<Integer> all = openForms();
        return i < 0 || i >= all.size() ? -1 : all.get(i);
    }

    private boolean beats(int form, int other) {
        return prefers(form, other) > prefers(other, form);
    }

    int winner() {
        for (int form : openForms()) {
            if (beaten(form) == openForms().size() - 1) {
                return form;
            }
        }
        return -1;
    }

    private int beaten(int form) {
        int found = 0;
        for (int other : openForms()) {
            found += beats(form, other) ? 1 : 0;
        }
        return found;
    }

    /** The least dominant set is the least of those that grow out of one form each. */
    private TreeSet<Integer> top() {
        TreeSet<Integer> least = null;
        List<Integer> all = openForms();
        for (int seed : all) {
            TreeSet<Integer> grown = new TreeSet<>(List.of(seed));
            boolean grows = true;
            while (grows) {
                grows = false;
                for (int other : all) {
                    if (!grown.contains(other) && grown.stream().anyMatch(one -> !beats(one, other))) {
                        grown.add(other);
                        grows = true;
                    }
                }
            }
            if (least == null || grown.size() < least.size()) {
                least = grown;
            }
        }
        return least;
    }

    private boolean isCovered(int form) {
        for (int by : openForms()) {
            boolean covers = beats(by, form);
            for (int other : openForms()) {
                covers &= !beats(form, other) || beats(by, other);
            }
            if (covers) {
                return true;
            }
        }
        return false;
    }

    int standing(int form, int what) {
        if (!openForms().contains(form) || what < 0 || what > 2) {
            return -1;
        }
        if (what == 0) {
            return top().contains(form) ? 1 : 0;
        }
        return what == 1 ? (isCovered(form) ? 1 : 0) : beaten(form);
    }
}
