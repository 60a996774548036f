import java.util.Arrays;
import java.util.NoSuchElementException;

/** A hall that votes by pairs on a bill, its amendments and its substitute. */
public final class AmendmentTree {
    public static final int NONE = -1;

    private static final int CLAUSES = 8;
    private static final int FORMS = 256;
    private static final int MOST_MOTIONS = 6;
    private static final int MOST_VOTERS = 9;
    private static final int MOST_JOINTS = 6;
    private static final int MOST_WEIGHT = 9;
    private static final int MOST_QUOTA = 9;
    private static final int SETS = 64;
    private static final int MOST_OPEN = SETS + 1;
    private static final int TAPE_BYTES = 400;
    private static final int FEED_BYTES = 20;
    private static final int MINUTE_BYTES = 7;

    private static final int OF_BILL = 0;
    private static final int SUBSTITUTE = 1;
    private static final int OF_SUBSTITUTE = 2;
    private static final int OF_MOTION = 3;

    private final int[] tape = new int[TAPE_BYTES];
    private int tapeLength;
    private int latestFault;
    private final Hall told = new Hall();
    private final Hall draft = new Hall();
    private final Reader reader = new Reader(tape, draft);
    private final Agenda agenda = new Agenda(told);
    private final Tastes tastes = new Tastes(told);
    private final Votes votes = new Votes(told, agenda, tastes);
    private final Search search = new Search(told, tastes, votes);
    private final Contest contest = new Contest(told, tastes, votes);

    public AmendmentTree() {
        takeTold();
    }

    // ---- what is told

    public int feed(int a, int b, int c, int d, int e) {
        if (tapeLength > TAPE_BYTES - FEED_BYTES) {
            return NONE;
        }
        putBytes(a);
        putBytes(b);
        putBytes(c);
        putBytes(d);
        putBytes(e);
        return tapeLength;
    }

    public boolean end(int n) {
        if (n < 0 || n > tapeLength) {
            return false;
        }
        tapeLength = n;
        return true;
    }

    public int tell() {
        int statements = reader.readText(tapeLength);
        tapeLength = 0;
        latestFault = reader.foundFault;
        if (statements != NONE) {
            told.copyFrom(draft);
            takeTold();
        }
        return statements;
    }

    public int fault() {
        return latestFault;
    }

    public boolean weigh(int voter, int clause, int w) {
        if (!told.hasVoter(voter) || !isClause(clause) || w < -MOST_WEIGHT || w > MOST_WEIGHT) {
            return false;
        }
        told.weights[voter * CLAUSES + clause] = w;
        tastes.takeVoter(voter);
        contest.forgetBeaten();
        return true;
    }

    public boolean order(int row) {
        return agenda.takeRow(row);
    }

    public int count(int what) {
        switch (what) {
            case 0:
                return told.motions;
            case 1:
                return told.voters;
            case 2:
                return told.joints;
            case 3:
                return told.quotaInForce();
            case 4:
                return told.bill;
            case 5:
                return agenda.countGood();
            case 6:
                return tapeLength;
            case 7:
                return contest.size;
            default:
                return NONE;
        }
    }

    public int motion(int motion, int what) throws NoSuchElementException {
        if (!told.hasMotion(motion)) {
            throw new NoSuchElementException("no such motion");
        }
        switch (what) {
            case 0:
                return told.sorts[motion];
            case 1:
                return told.parents[motion];
            case 2:
                return told.pluses[motion];
            case 3:
                return told.minuses[motion];
            case 4:
                return agenda.placeOf(motion);
            default:
                throw new NoSuchElementException("no such thing of a motion");
        }
    }

    public int weight(int voter, int clause) throws NoSuchElementException {
        if (!told.hasVoter(voter) || !isClause(clause)) {
            throw new NoSuchElementException("no such voter or clause");
        }
        return told.weights[voter * CLAUSES + clause];
    }

    public int likes(int voter, int form) throws NoSuchElementException {
        if (!told.hasVoter(voter) || !isForm(form)) {
            throw new NoSuchElementException("no such voter or form");
        }
        return tastes.likingOf(voter, form);
    }

    public int form(int adopted) {
        return isSubset(adopted, told.motions) ? votes.made[adopted] : NONE;
    }

    // ---- votes (T: bits of VOTERS; NONE: others among these)

    public int result(int t) {
        return areVoters(t) ? votes.outcome(t, 0) : NONE;
    }

    public int adopted(int t) {
        if (!areVoters(t)) {
            return NONE;
        }
        votes.walk(t);
        return votes.adoptedOnWay;
    }

    public int yes(int t, int i) {
        if (!areVoters(t) || i < 0 || i > told.motions) {
            return NONE;
        }
        votes.walk(t);
        return votes.yesOnWay[i];
    }

    public int minutes(int t, int i) {
        int length = (told.motions + 1) * MINUTE_BYTES;
        if (!areVoters(t) || i < NONE || i >= length) {
            return NONE;
        }
        if (i == NONE) {
            return length;
        }
        votes.walk(t);
        return votes.minuteByte(i / MINUTE_BYTES, i % MINUTE_BYTES);
    }

    public int without(int motion, int t) {
        if (!told.hasMotion(motion) || !areVoters(t)) {
            return NONE;
        }
        return votes.outcome(t, told.goneWith(motion));
    }

    public int killers(int t) {
        if (!areVoters(t)) {
            return NONE;
        }
        int found = 0;
        if (votes.outcome(t, 0) == 0) {
            for (int m = 0; m < told.motions; m++) {
                if (votes.outcome(t, told.goneWith(m)) != 0) {
                    found |= 1 << m;
                }
            }
        }
        return found;
    }

    public int best(int voter, int t, int what) {
        if (!told.hasVoter(voter) || !areVoters(t) || what < 0 || what > 2) {
            return NONE;
        }
        search.tryAll(voter, t);
        if (what == 0) {
            return search.bestForm;
        }
        return what == 1 ? search.bestRow() : search.bestCount;
    }

    // ---- forms against one another

    public int prefers(int form, int other) {
        return isForm(form) && isForm(other) ? tastes.countPreferring(form, other) : NONE;
    }

    public int open(int i) {
        return i >= 0 && i < contest.size ? contest.openForms[i] : NONE;
    }

    public int winner() {
        contest.learnBeaten();
        return contest.findWinner();
    }

    public int standing(int form, int what) {
        int index = contest.indexOf(form);
        if (index == NONE) {
            return NONE;
        }
        contest.learnBeaten();
        switch (what) {
            case 0:
                return contest.isOfTop(index) ? 1 : 0;
            case 1:
                return contest.isCovered(index) ? 1 : 0;
            case 2:
                return contest.countBeaten(index);
            default:
                return NONE;
        }
    }

    private void takeTold() {
        agenda.takeLeast();
        tastes.takeAll();
        votes.takeForms();
        contest.takeOpen();
    }

    private void putBytes(int number) {
        for (int shift = 24; shift >= 0 && tapeLength < TAPE_BYTES; shift -= 8) {
            tape[tapeLength] = number >>> shift & 255;
            tapeLength++;
        }
    }

    private boolean areVoters(int t) {
        return isSubset(t, told.voters);
    }

    private static boolean isClause(int clause) {
        return clause >= 0 && clause < CLAUSES;
    }

    private static boolean isForm(int form) {
        return form >= 0 && form < FORMS;
    }

    private static boolean isSubset(int bits, int size) {
        return bits >= 0 && bits < 1 << size;
    }

    private static boolean isIn(int member, int set) {
        return (set >> member & 1) == 1;
    }

    /** What a TEXT tells; a draft of it is filled first, so that a FAULT leaves what stands alone. */
    private static final class Hall {
        private int bill;
        private int toldQuota;
        private int substitute = NONE;
        private int motions;
        private int voters;
        private int joints;
        private final int[] sorts = new int[MOST_MOTIONS];
        private final int[] parents = new int[MOST_MOTIONS];
        private final int[] pluses = new int[MOST_MOTIONS];
        private final int[] minuses = new int[MOST_MOTIONS];
        private final int[] weights = new int[MOST_VOTERS * CLAUSES];
        private final int[] jointVoters = new int[MOST_JOINTS];
        private final int[] jointSets = new int[MOST_JOINTS];
        private final int[] jointWeights = new int[MOST_JOINTS];

        private void clear() {
            bill = 0;
            toldQuota = 0;
            substitute = NONE;
            motions = 0;
            voters = 0;
            joints = 0;
            Arrays.fill(weights, 0);
        }

        private void copyFrom(Hall other) {
            bill = other.bill;
            toldQuota = other.toldQuota;
            substitute = other.substitute;
            motions = other.motions;
            voters = other.voters;
            joints = other.joints;
            System.arraycopy(other.sorts, 0, sorts, 0, MOST_MOTIONS);
            System.arraycopy(other.parents, 0, parents, 0, MOST_MOTIONS);
            System.arraycopy(other.pluses, 0, pluses, 0, MOST_MOTIONS);
            System.arraycopy(other.minuses, 0, minuses, 0, MOST_MOTIONS);
            System.arraycopy(other.weights, 0, weights, 0, MOST_VOTERS * CLAUSES);
            System.arraycopy(other.jointVoters, 0, jointVoters, 0, MOST_JOINTS);
            System.arraycopy(other.jointSets, 0, jointSets, 0, MOST_JOINTS);
            System.arraycopy(other.jointWeights, 0, jointWeights, 0, MOST_JOINTS);
        }

        private boolean hasMotion(int motion) {
            return motion >= 0 && motion < motions;
        }

        private boolean hasVoter(int voter) {
            return voter >= 0 && voter < voters;
        }

        private int quotaInForce() {
            return toldQuota > 0 ? toldQuota : voters / 2 + 1;
        }

        private void addMotion(int sort, int parent, int plus, int minus) {
            if (motions < MOST_MOTIONS) {
                sorts[motions] = sort;
                parents[motions] = parent;
                pluses[motions] = plus;
                minuses[motions] = minus;
                motions++;
            }
        }

        private void addJoint(int voter, int set, int weight) {
            if (joints < MOST_JOINTS) {
                jointVoters[joints] = voter;
                jointSets[joints] = set;
                jointWeights[joints] = weight;
                joints++;
            }
        }

        private int formOf(int set) {
            boolean replaced = substitute >= 0 && substitute < motions && isIn(substitute, set);
            int made = replaced ? pluses[substitute] : bill;
            int sort = replaced ? OF_SUBSTITUTE : OF_BILL;
            for (int m = 0; m < motions; m++) {
                if (sorts[m] == sort && isIn(m, set)) {
                    made = made & ~minuses[m] | plusOf(m, set);
                }
            }
            return made;
        }

        private int plusOf(int motion, int set) {
            int plus = pluses[motion];
            for (int m = 0; m < motions; m++) {
                if (sorts[m] == OF_MOTION && parents[m] == motion && isIn(m, set)) {
                    plus = plus & ~minuses[m] | pluses[m];
                }
            }
            return plus;
        }

        /** One pass is enough, as a motion always comes behind the one of which it is. */
        private int goneWith(int motion) {
            int gone = 1 << motion;
            for (int m = motion + 1; m < motions; m++) {
                if (parents[m] != NONE && isIn(parents[m], gone)) {
                    gone |= 1 << m;
                }
            }
            return gone;
        }
    }

    /** Reads a TEXT into a Hall; its reading methods answer false once a FAULT is found. */
    private static final class Reader {
        private static final int END = 0;
        private static final int WORD = 1;
        private static final int NUMBER = 2;
        private static final int SIGN = 3;
        private static final int TOO_LONG = 4;

        private static final int MISPLACED = 1;
        private static final int IMPOSSIBLE = 2;
        private static final int REPEATED = 3;
        private static final int TOO_MANY = 4;

        private static final int MOST_DIGITS = 3;

        private final int[] text;
        private final Hall hall;
        private int length;
        private boolean billTold;
        private int foundFault;
        /** The token that stands next: its kind, where it starts and stops, and its number or sign. */
        private int kind;
        private int start;
        private int stop;
        private int value;
        /** What clauseSet, signedWeight and target have read of late. */
        private int readSet;
        private int readWeight;
        private int readSort;
        private int readParent;

        private Reader(int[] text, Hall hall) {
            this.text = text;
            this.hall = hall;
        }

        /** How many STATEMENTS the first bytes of the text are; NONE if there is a FAULT. */
        private int readText(int size) {
            length = Math.max(0, Math.min(size, text.length));
            hall.clear();
            billTold = false;
            foundFault = 0;
            stop = 0;
            step();
            for (int statements = 0; statements <= length; statements++) {
                if (kind == END) {
                    return statements;
                }
                if (!statement()) {
                    return NONE;
                }
            }
            return NONE;
        }

        private boolean statement() {
            boolean read;
            if (isWord("bill")) {
                read = bill();
            } else if (isWord("amend")) {
                read = amendment();
            } else if (isWord("sub")) {
                read = substitute();
            } else if (isWord("voter")) {
                read = voter();
            } else if (isWord("joint")) {
                read = joint();
            } else if (isWord("quota")) {
                read = quota();
            } else {
                read = refuse(MISPLACED);
            }
            return read && semicolon();
        }

        private boolean semicolon() {
            if (!isSign(';')) {
                return refuse(MISPLACED);
            }
            step();
            return true;
        }

        private boolean bill() {
            if (billTold) {
                return refuse(REPEATED);
            }
            step();
            if (!clauseSet(1)) {
                return false;
            }
            billTold = true;
            hall.bill = readSet;
            return true;
        }

        private boolean amendment() {
            if (hall.motions >= MOST_MOTIONS) {
                return refuse(TOO_MANY);
            }
            step();
            if (!target()) {
                return false;
            }
            if (!isSign('+') && !isSign('-')) {
                return refuse(MISPLACED);
            }
            int plus = 0;
            if (isSign('+')) {
                step();
                if (!clauseSet(1)) {
                    return false;
                }
                plus = readSet;
            }
            int minus = 0;
            if (isSign('-')) {
                step();
                if (!clauseSet(1)) {
                    return false;
                }
                minus = readSet;
            }
            hall.addMotion(readSort, readParent, plus, minus);
            return true;
        }

        private boolean target() {
            if (isWord("bill")) {
                readSort = OF_BILL;
                readParent = NONE;
            } else if (isWord("sub")) {
                if (hall.substitute == NONE) {
                    return refuse(REPEATED);
                }
                readSort = OF_SUBSTITUTE;
                readParent = hall.substitute;
            } else if (kind == NUMBER) {
                if (!canBeAmended(value)) {
                    return refuse(IMPOSSIBLE);
                }
                readSort = OF_MOTION;
                readParent = value;
            } else {
                return refuse(MISPLACED);
            }
            step();
            return true;
        }

        private boolean canBeAmended(int motion) {
            return hall.hasMotion(motion)
                    && (hall.sorts[motion] == OF_BILL || hall.sorts[motion] == OF_SUBSTITUTE);
        }

        private boolean substitute() {
            if (hall.substitute != NONE) {
                return refuse(REPEATED);
            }
            if (hall.motions >= MOST_MOTIONS) {
                return refuse(TOO_MANY);
            }
            step();
            if (!clauseSet(1)) {
                return false;
            }
            hall.substitute = hall.motions;
            hall.addMotion(SUBSTITUTE, NONE, readSet, 0);
            return true;
        }

        private boolean voter() {
            if (hall.voters >= MOST_VOTERS) {
                return refuse(TOO_MANY);
            }
            step();
            int row = hall.voters * CLAUSES;
            int seen = 0;
            // A ninth word can only be a fault, so eight rounds and one are enough.
            for (int i = 0; i <= CLAUSES && kind == WORD; i++) {
                int clause = text[start] - 'a';
                if (stop - start != 1 || !isClause(clause)) {
                    return refuse(MISPLACED);
                }
                if (isIn(clause, seen)) {
                    return refuse(REPEATED);
                }
                seen |= 1 << clause;
                step();
                if (!signedWeight()) {
                    return false;
                }
                hall.weights[row + clause] = readWeight;
            }
            hall.voters++;
            return true;
        }

        private boolean joint() {
            if (hall.joints >= MOST_JOINTS) {
                return refuse(TOO_MANY);
            }
            step();
            if (kind != NUMBER) {
                return refuse(MISPLACED);
            }
            int voter = value;
            if (!hall.hasVoter(voter)) {
                return refuse(IMPOSSIBLE);
            }
            step();
            if (!clauseSet(2) || !signedWeight()) {
                return false;
            }
            hall.addJoint(voter, readSet, readWeight);
            return true;
        }

        private boolean quota() {
            if (hall.toldQuota != 0) {
                return refuse(REPEATED);
            }
            step();
            if (kind != NUMBER) {
                return refuse(MISPLACED);
            }
            if (value < 1 || value > MOST_QUOTA) {
                return refuse(IMPOSSIBLE);
            }
            hall.toldQuota = value;
            step();
            return true;
        }

        private boolean clauseSet(int least) {
            int set = 0;
            if (kind != WORD || stop - start < least) {
                return refuse(MISPLACED);
            }
            for (int i = start; i < stop; i++) {
                int clause = text[i] - 'a';
                if (!isClause(clause) || isIn(clause, set)) {
                    return refuse(MISPLACED);
                }
                set |= 1 << clause;
            }
            readSet = set;
            step();
            return true;
        }

        private boolean signedWeight() {
            boolean below = isSign('-');
            if (below) {
                step();
            }
            if (kind != NUMBER) {
                return refuse(MISPLACED);
            }
            if (value > MOST_WEIGHT) {
                return refuse(IMPOSSIBLE);
            }
            readWeight = below ? -value : value;
            step();
            return true;
        }

        private boolean refuse(int faultKind) {
            foundFault = faultKind + 8 * start;
            return false;
        }

        private boolean isSign(char sign) {
            return kind == SIGN && value == sign;
        }

        private boolean isWord(String word) {
            if (kind != WORD || stop - start != word.length()) {
                return false;
            }
            for (int i = 0; i < word.length(); i++) {
                if (text[start + i] != word.charAt(i)) {
                    return false;
                }
            }
            return true;
        }

        private void step() {
            start = stop;
            while (start < length && (text[start] == ' ' || text[start] == '\n')) {
                start++;
            }
            if (start >= length) {
                kind = END;
                stop = start;
                return;
            }
            stop = endOfRun('a', 'z');
            if (stop > start) {
                kind = WORD;
                return;
            }
            stop = endOfRun('0', '9');
            if (stop > start) {
                takeNumber();
                return;
            }
            kind = SIGN;
            value = text[start];
            stop = start + 1;
        }

        private int endOfRun(char least, char most) {
            int at = start;
            while (at < length && text[at] >= least && text[at] <= most) {
                at++;
            }
            return at;
        }

        private void takeNumber() {
            value = 0;
            kind = stop - start > MOST_DIGITS ? TOO_LONG : NUMBER;
            for (int i = start; i < stop && kind == NUMBER; i++) {
                value = value * 10 + text[i] - '0';
            }
        }
    }

    /** THE ORDER, and the GOOD ones: in these each motion stands ahead of its parent, if it has one. */
    private static final class Agenda {
        private final Hall hall;
        private final int[] sequence = new int[MOST_MOTIONS];
        private final int[] goodOrders = new int[SETS];

        private Agenda(Hall hall) {
            this.hall = hall;
        }

        private void takeLeast() {
            int placed = 0;
            for (int place = 0; place < hall.motions; place++) {
                int next = leastNext(placed);
                sequence[place] = next;
                placed |= 1 << next;
            }
        }

        private int leastNext(int placed) {
            for (int m = 0; m < hall.motions; m++) {
                if (!isIn(m, placed) && areChildrenIn(m, placed)) {
                    return m;
                }
            }
            return 0;
        }

        private boolean areChildrenIn(int motion, int placed) {
            for (int m = 0; m < hall.motions; m++) {
                if (hall.parents[m] == motion && !isIn(m, placed)) {
                    return false;
                }
            }
            return true;
        }

        private boolean takeRow(int row) {
            if (row == rowOfSequence() || !isGood(row)) {
                return false;
            }
            for (int place = 0; place < hall.motions; place++) {
                sequence[place] = row >> 4 * place & 15;
            }
            return true;
        }

        private int rowOfSequence() {
            int row = 0;
            for (int place = 0; place < hall.motions; place++) {
                row |= sequence[place] << 4 * place;
            }
            return row;
        }

        private boolean isGood(int row) {
            if (row >>> 4 * hall.motions != 0) {
                return false;
            }
            int placed = 0;
            for (int place = 0; place < hall.motions; place++) {
                int m = row >> 4 * place & 15;
                if (!hall.hasMotion(m) || isIn(m, placed) || !areChildrenIn(m, placed)) {
                    return false;
                }
                placed |= 1 << m;
            }
            return true;
        }

        private int placeOf(int motion) {
            for (int place = 0; place < hall.motions; place++) {
                if (sequence[place] == motion) {
                    return place;
                }
            }
            return NONE;
        }

        private int countGood() {
            int sets = 1 << hall.motions;
            goodOrders[0] = 1;
            for (int set = 1; set < sets; set++) {
                goodOrders[set] = 0;
                for (int m = 0; m < hall.motions; m++) {
                    if (canBeLast(m, set)) {
                        goodOrders[set] += goodOrders[set & ~(1 << m)];
                    }
                }
            }
            return goodOrders[sets - 1];
        }

        private boolean canBeLast(int motion, int set) {
            int parent = hall.parents[motion];
            return isIn(motion, set) && (parent == NONE || !isIn(parent, set));
        }
    }

    /** How much each voter LIKES each FORM. */
    private static final class Tastes {
        private final Hall hall;
        private final int[] liking = new int[MOST_VOTERS * FORMS];

        private Tastes(Hall hall) {
            this.hall = hall;
        }

        private void takeAll() {
            for (int v = 0; v < hall.voters; v++) {
                takeVoter(v);
            }
        }

        private void takeVoter(int voter) {
            int row = voter * FORMS;
            liking[row] = 0;
            for (int c = 0; c < CLAUSES; c++) {
                int bit = 1 << c;
                int weight = hall.weights[voter * CLAUSES + c];
                for (int lower = 0; lower < bit; lower++) {
                    liking[row + bit + lower] = liking[row + lower] + weight;
                }
            }
            for (int j = 0; j < hall.joints; j++) {
                if (hall.jointVoters[j] == voter) {
                    takeJoint(row, hall.jointSets[j], hall.jointWeights[j]);
                }
            }
        }

        private void takeJoint(int row, int set, int weight) {
            for (int f = set; f < FORMS; f++) {
                if ((f & set) == set) {
                    liking[row + f] += weight;
                }
            }
        }

        private int likingOf(int voter, int form) {
            return liking[voter * FORMS + form];
        }

        private boolean isPreferred(int voter, int form, int other) {
            int row = voter * FORMS;
            return liking[row + form] > liking[row + other];
        }

        private int countPreferring(int form, int other) {
            int found = 0;
            for (int v = 0; form != other && v < hall.voters; v++) {
                if (isPreferred(v, form, other)) {
                    found++;
                }
            }
            return found;
        }
    }

    /** What VOTES lead to. A place is a number of votes taken, a set what is ADOPTED by then. */
    private static final class Votes {
        private final Hall hall;
        private final Agenda agenda;
        private final Tastes tastes;
        /** The FORM that each set makes. */
        private final int[] made = new int[SETS];
        /** What comes in the end, by place and set. */
        private final int[] ends = new int[(MOST_MOTIONS + 1) * SETS];
        private final int[] steps = new int[MOST_MOTIONS];
        private final int[] yesOnWay = new int[MOST_MOTIONS + 1];
        private int adoptedOnWay;
        private int trueVoters;

        private Votes(Hall hall, Agenda agenda, Tastes tastes) {
            this.hall = hall;
            this.agenda = agenda;
            this.tastes = tastes;
        }

        private void takeForms() {
            int sets = 1 << hall.motions;
            for (int set = 0; set < sets; set++) {
                made[set] = hall.formOf(set);
            }
        }

        /** The RESULT, the motions in the set gone being left out. */
        private int outcome(int t, int gone) {
            int places = 0;
            int left = 0;
            for (int place = 0; place < hall.motions; place++) {
                int m = agenda.sequence[place];
                if (!isIn(m, gone)) {
                    steps[places] = m;
                    places++;
                    left |= 1 << m;
                }
            }
            startBack(t, places, left);
            for (int place = places - 1; place >= 0; place--) {
                left &= ~(1 << steps[place]);
                stepBack(place, steps[place], left);
            }
            return ends[0];
        }

        /** What comes in the end, when only PASSAGE is still to be voted on. */
        private void startBack(int t, int place, int all) {
            trueVoters = t;
            int row = place * SETS;
            for (int set = 0; set <= all; set++) {
                if ((set & ~all) == 0) {
                    ends[row + set] = passes(yesOnPassage(set)) ? made[set] : 0;
                }
            }
        }

        /** What comes in the end from a place where the motion is voted on, the set ahead having been. */
        private void stepBack(int place, int motion, int ahead) {
            int row = place * SETS;
            int set = ahead;
            for (int left = 1 << Integer.bitCount(ahead); left > 0; left--) {
                boolean carried = carries(yesOnMotion(place, motion, set));
                int then = carried ? set | 1 << motion : set;
                ends[row + set] = ends[row + SETS + then];
                set = set - 1 & ahead;
            }
        }

        private int yesOnMotion(int place, int motion, int set) {
            int with = set | 1 << motion;
            int next = (place + 1) * SETS;
            int formWith = made[with];
            int formBefore = made[set];
            int endWith = ends[next + with];
            int endWithout = ends[next + set];
            if (formWith == formBefore && endWith == endWithout) {
                return 0;
            }
            int found = 0;
            for (int v = 0; v < hall.voters; v++) {
                boolean yes = isIn(v, trueVoters)
                        ? tastes.isPreferred(v, formWith, formBefore)
                        : tastes.isPreferred(v, endWith, endWithout);
                if (yes) {
                    found++;
                }
            }
            return found;
        }

        private int yesOnPassage(int set) {
            return tastes.countPreferring(made[set], 0);
        }

        private boolean carries(int yes) {
            return 2 * yes > hall.voters;
        }

        private boolean passes(int yes) {
            return yes >= hall.quotaInForce();
        }

        private void walk(int t) {
            outcome(t, 0);
            adoptedOnWay = 0;
            for (int place = 0; place < hall.motions; place++) {
                int m = steps[place];
                yesOnWay[place] = yesOnMotion(place, m, adoptedOnWay);
                if (carries(yesOnWay[place])) {
                    adoptedOnWay |= 1 << m;
                }
            }
            yesOnWay[hall.motions] = yesOnPassage(adoptedOnWay);
        }

        /** Of the vote at a place of the way, one of the seven bytes of its minute. */
        private int minuteByte(int place, int column) {
            boolean passage = place == hall.motions;
            int found = yesOnWay[place];
            switch (column) {
                case 0:
                    return passage ? 'p' : '0' + steps[place];
                case 1:
                    return ':';
                case 2:
                    return '0' + found;
                case 3:
                    return '-';
                case 4:
                    return '0' + hall.voters - found;
                case 5:
                    return (passage ? passes(found) : carries(found)) ? '+' : '.';
                default:
                    return ';';
            }
        }
    }

    /** Tries all GOOD ORDERS, the last motion first, as orders that end alike share what comes in the end. */
    private static final class Search {
        private final Hall hall;
        private final Tastes tastes;
        private final Votes votes;
        private final Agenda agenda;
        private int mover;
        private int bestForm;
        private int bestCount;
        /** The least of the best orders, the first motion highest: so the lesser number is the lesser order. */
        private int bestKey;

        private Search(Hall hall, Tastes tastes, Votes votes) {
            this.hall = hall;
            this.tastes = tastes;
            this.votes = votes;
            this.agenda = votes.agenda;
        }

        private void tryAll(int voter, int t) {
            mover = voter;
            bestForm = 0;
            bestCount = 0;
            bestKey = 0;
            int all = (1 << hall.motions) - 1;
            votes.startBack(t, hall.motions, all);
            tryLast(hall.motions - 1, all, 0);
        }

        private void tryLast(int place, int left, int key) {
            if (place < 0) {
                judge(votes.ends[0], key);
                return;
            }
            for (int m = 0; m < hall.motions; m++) {
                if (agenda.canBeLast(m, left)) {
                    int rest = left & ~(1 << m);
                    votes.stepBack(place, m, rest);
                    tryLast(place - 1, rest, key | m << shiftOf(place));
                }
            }
        }

        private void judge(int form, int key) {
            int gain = tastes.likingOf(mover, form) - tastes.likingOf(mover, bestForm);
            if (bestCount == 0 || gain > 0) {
                bestCount = 0;
            } else if (gain < 0) {
                return;
            }
            if (bestCount == 0 || key < bestKey) {
                bestForm = form;
                bestKey = key;
            }
            bestCount++;
        }

        private int bestRow() {
            int row = 0;
            for (int place = 0; place < hall.motions; place++) {
                row |= (bestKey >> shiftOf(place) & 15) << 4 * place;
            }
            return row;
        }

        private static int shiftOf(int place) {
            return 4 * (MOST_MOTIONS - 1 - place);
        }
    }

    /** OPEN FORMS against one another. A row of BEATEN ones is kept as bits, by index, in three numbers. */
    private static final class Contest {
        private static final int WORDS = 3;
        private static final int WORD_BITS = 32;

        private final Hall hall;
        private final Tastes tastes;
        private final Votes votes;
        private final int[] openForms = new int[MOST_OPEN];
        private int size;
        private final int[] marks = new int[FORMS / WORD_BITS];
        private final int[] beaten = new int[MOST_OPEN * WORDS];
        private boolean beatenKnown;
        private final int[] top = new int[MOST_OPEN];
        private int topSize;

        private Contest(Hall hall, Tastes tastes, Votes votes) {
            this.hall = hall;
            this.tastes = tastes;
            this.votes = votes;
        }

        private void takeOpen() {
            Arrays.fill(marks, 0);
            marks[0] = 1;
            int sets = 1 << hall.motions;
            for (int set = 0; set < sets; set++) {
                int f = votes.made[set];
                marks[f / WORD_BITS] |= 1 << f % WORD_BITS;
            }
            size = 0;
            for (int f = 0; f < FORMS && size < MOST_OPEN; f++) {
                if (isIn(f % WORD_BITS, marks[f / WORD_BITS])) {
                    openForms[size] = f;
                    size++;
                }
            }
            forgetBeaten();
        }

        private void forgetBeaten() {
            beatenKnown = false;
        }

        private int indexOf(int form) {
            for (int i = 0; i < size; i++) {
                if (openForms[i] == form) {
                    return i;
                }
            }
            return NONE;
        }

        /** Must stand ahead of every question about who beats whom; only the first one after a change pays. */
        private void learnBeaten() {
            if (beatenKnown) {
                return;
            }
            Arrays.fill(beaten, 0);
            for (int i = 0; i < size; i++) {
                for (int j = 0; j < i; j++) {
                    learnPair(i, j);
                }
            }
            learnTop();
            beatenKnown = true;
        }

        private void learnPair(int i, int j) {
            int margin = tastes.countPreferring(openForms[i], openForms[j])
                    - tastes.countPreferring(openForms[j], openForms[i]);
            if (margin > 0) {
                markBeaten(i, j);
            } else if (margin < 0) {
                markBeaten(j, i);
            }
        }

        private void markBeaten(int by, int index) {
            beaten[by * WORDS + index / WORD_BITS] |= 1 << index % WORD_BITS;
        }

        private boolean isBeaten(int by, int index) {
            return isIn(index % WORD_BITS, beaten[by * WORDS + index / WORD_BITS]);
        }

        private int countBeaten(int by) {
            int found = 0;
            for (int w = 0; w < WORDS; w++) {
                found += Integer.bitCount(beaten[by * WORDS + w]);
            }
            return found;
        }

        private int findWinner() {
            for (int i = 0; i < size; i++) {
                if (countBeaten(i) == size - 1) {
                    return openForms[i];
                }
            }
            return NONE;
        }

        private boolean isCovered(int index) {
            for (int by = 0; by < size; by++) {
                if (isBeaten(by, index) && beatsAllOf(by, index)) {
                    return true;
                }
            }
            return false;
        }

        private boolean beatsAllOf(int by, int index) {
            for (int w = 0; w < WORDS; w++) {
                if ((beaten[index * WORDS + w] & ~beaten[by * WORDS + w]) != 0) {
                    return false;
                }
            }
            return true;
        }

        /**
         * Who is of TOP BEATS all that are not, so who BEATS most is of it, and so is whom one of it does not beat.
         */
        private void learnTop() {
            top[0] = indexOfMostBeating();
            topSize = 1;
            for (int done = 0; done < topSize && done < MOST_OPEN; done++) {
                for (int i = 0; i < size && topSize < MOST_OPEN; i++) {
                    if (!isBeaten(top[done], i) && !isOfTop(i)) {
                        top[topSize] = i;
                        topSize++;
                    }
                }
            }
        }

        private int indexOfMostBeating() {
            int most = 0;
            for (int i = 1; i < size; i++) {
                if (countBeaten(i) > countBeaten(most)) {
                    most = i;
                }
            }
            return most;
        }

        private boolean isOfTop(int index) {
            for (int i = 0; i < topSize; i++) {
                if (top[i] == index) {
                    return true;
                }
            }
            return false;
        }
    }
}
