/** Promises 1 to 5 at their bounds, a sentence of the document each. */
public final class BoundsTextTest {
    private static final Check check = new Check("BoundsTextTest");
    private static final int BLANKS = 0x20202020;
    private static final int[] FAR = {Integer.MIN_VALUE, Integer.MIN_VALUE + 1, -400, -2, -1};
    private static final String MOST_MOTIONS = "amend bill+a;".repeat(6);
    private static final String MOST_VOTERS = "voter;".repeat(9);
    private static final String MOST_JOINTS = "voter;voter;" + "joint 0ab1;joint 1ab1;".repeat(3);
    private static final String STANDING = "bill ab;amend bill+c-a;sub de;amend sub-d;voter a1b2;voter c-3;"
            + "joint 1bc4;quota 1;";

    public static void main(String[] args) {
        newObject();
        feedUpTo400();
        feedAt380And381();
        feedRefusedAddsNothing();
        feedHighestFirst();
        feedHighBytes();
        endBounds();
        endRefusedChangesNothing();
        endCutsForGood();
        tellEmptiesTheTape();
        tellOfAnEmptyTape();
        tellOf400Bytes();
        tellCountsStatements();
        tellTellsAllAnew();
        tellRefusedChangesNothing();
        faultAheadAndBehind();
        faultPlaces();
        faultOfTheEnd();
        faultFirstAlongTheText();
        faultLeastOfOnePlace();
        sets();
        words();
        numbers();
        blanks();
        eachByteAlone();
        eachByteBehindASet();
        eachByteBehindANumber();
        signs();
        amendParts();
        voterParts();
        jointParts();
        motionsBehindAmend();
        votersBehindJoint();
        quotas();
        weights();
        toldAgain();
        substituteBehindAmend();
        sixMotions();
        nineVoters();
        sixJoints();
        check.end();
    }

    // ---- promise 1

    /** "BILL 0, no MOTIONS, no VOTERS." */
    private static void newObject() {
        AmendmentTree x = new AmendmentTree();
        check.due("promise 1: the BILL", 0, x.count(4));
        check.due("promise 1: MOTIONS", 0, x.count(0));
        check.due("promise 1: VOTERS", 0, x.count(1));
        check.due("promise 1: JOINTS", 0, x.count(2));
        check.due("promise 1: bytes of the TAPE", 0, x.count(6));
        check.due("promise 1: as an empty text told", Snapshot.of(Talk.told("")), Snapshot.of(new AmendmentTree()));
        AmendmentTree other = Talk.told(STANDING);
        check.due("promise 1: one object is not another", 0, x.count(0) + x.count(1) + x.count(4));
        check.due("promise 1: nor that this one", 3, other.count(0));
    }

    // ---- promise 2

    /** "how many it has. NONE, and none come: more than 400." */
    private static void feedUpTo400() {
        AmendmentTree x = new AmendmentTree();
        for (int i = 1; i <= 20; i++) {
            check.due("promise 2: feed " + i, 20 * i, blank(x));
            check.due("promise 2: bytes behind feed " + i, 20 * i, x.count(6));
        }
        check.due("promise 2: a 21st feed", -1, blank(x));
        check.due("promise 2: a 22nd feed", -1, blank(x));
        check.due("promise 2: none came", 400, x.count(6));
        x.tell();
        check.due("promise 2: feed behind tell", 20, blank(x));
    }

    /** "NONE, and none come: more than 400": the last TAPE that takes twenty more, and the first that does not. */
    private static void feedAt380And381() {
        for (int bytes = 361; bytes < 400; bytes++) {
            AmendmentTree x = filled(400);
            x.end(bytes);
            check.due("promise 2: feed at " + bytes, bytes <= 380 ? bytes + 20 : -1, blank(x));
            check.due("promise 2: bytes at " + bytes, bytes <= 380 ? bytes + 20 : bytes, x.count(6));
        }
        for (int bytes = 0; bytes < 20; bytes++) {
            AmendmentTree x = filled(20);
            x.end(bytes);
            check.due("promise 2: feed at " + bytes, bytes + 20, blank(x));
        }
    }

    /** "NONE, and none come". */
    private static void feedRefusedAddsNothing() {
        String text = "bill a;" + " ".repeat(374);
        AmendmentTree x = new AmendmentTree();
        Talk.feed(x, text + " ".repeat(19));
        x.end(381);
        check.due("promise 2: refused", -1, x.feed(0x3B3B3B3B, 0x3B3B3B3B, 0x3B3B3B3B, 0x3B3B3B3B, 0x3B3B3B3B));
        check.due("promise 2: what stood is told", 1, x.tell());
        check.due("promise 2: as it stood", 1, x.count(4));
    }

    /** "of each number the highest first": a text of twenty bytes, each of which is needed where it stands. */
    private static void feedHighestFirst() {
        AmendmentTree x = new AmendmentTree();
        // bill ,hgfe,dcb;,sub ,ach;
        check.due("promise 2: twenty bytes", 20, x.feed(0x62696C6C, 0x20686766, 0x6564633B, 0x73756220, 0x6163683B));
        check.due("promise 2: told in their order", 2, x.tell());
        check.due("promise 2: the BILL of them", 0b11111100, x.count(4));
        check.due("promise 2: the SUBSTITUTE of them", 0b10000101, x.motion(0, 2));
    }

    /** Bytes are 0 to 255, whatever sign a number has: a letter and 128 is no letter, 10 and 128 no blank. */
    private static void feedHighBytes() {
        int[] bytes = {0x80, 0x8A, 0xA0, 0xBB, 0xE2, 0xFF, 0x00, 0x7F};
        for (int odd : bytes) {
            for (int place = 0; place < 4; place++) {
                AmendmentTree x = new AmendmentTree();
                int shift = 24 - 8 * place;
                x.feed(BLANKS & ~(255 << shift) | odd << shift, BLANKS, BLANKS, BLANKS, BLANKS);
                check.due("promise 2: tell of byte " + odd, -1, x.tell());
                check.due("promise 2: byte " + odd + " at " + place, 8 * place + 1, x.fault());
            }
        }
    }

    // ---- promise 3

    /** "The TAPE has its first n bytes alone: true. false: it has not so many, n is below 0." */
    private static void endBounds() {
        AmendmentTree x = new AmendmentTree();
        check.due("promise 3: 0 of 0", true, x.end(0));
        check.due("promise 3: 1 of 0", false, x.end(1));
        check.due("promise 3: -1 of 0", false, x.end(-1));
        blank(x);
        check.due("promise 3: 21 of 20", false, x.end(21));
        check.due("promise 3: the most of 20", false, x.end(Integer.MAX_VALUE));
        for (int n : FAR) {
            check.due("promise 3: " + n + " of 20", false, x.end(n));
        }
        check.due("promise 3: 20 of 20", true, x.end(20));
        check.due("promise 3: 20 stay", 20, x.count(6));
        check.due("promise 3: 19 of 20", true, x.end(19));
        check.due("promise 3: 19 left", 19, x.count(6));
        check.due("promise 3: 20 of 19", false, x.end(20));
        check.due("promise 3: 1 of 19", true, x.end(1));
        check.due("promise 3: 0 of 1", true, x.end(0));
        check.due("promise 3: none left", 0, x.count(6));
        AmendmentTree full = filled(400);
        check.due("promise 3: 401 of 400", false, full.end(401));
        check.due("promise 3: 400 of 400", true, full.end(400));
        check.due("promise 3: 400 left", 400, full.count(6));
    }

    /** "false: it has not so many, n is below 0": the TAPE is what it was. */
    private static void endRefusedChangesNothing() {
        AmendmentTree x = new AmendmentTree();
        Talk.feed(x, "bill a;quota 3;bill");
        x.end(-1);
        x.end(20);
        check.due("promise 3: refused, bytes stay", 19, x.count(6));
        check.due("promise 3: refused, the text stays", -1, x.tell());
        check.due("promise 3: refused, its FAULT", 8 * 15 + 3, x.fault());
    }

    /** "its first n bytes alone": what is cut off does not come back. */
    private static void endCutsForGood() {
        AmendmentTree x = new AmendmentTree();
        Talk.feed(x, "bill a;bill b;");
        check.due("promise 3: cut", true, x.end(7));
        Talk.feed(x, "sub c;");
        check.due("promise 3: what comes behind", 13, x.count(6));
        check.due("promise 3: stands behind the cut", 2, x.tell());
        check.due("promise 3: the first bytes stay", 1, x.count(4));
        Talk.feed(x, "bill b;bill c;");
        x.end(0);
        check.due("promise 3: cut to nothing", 0, x.tell());
        check.due("promise 3: nothing told", 0, x.count(4));
    }

    // ---- promise 4

    /** "The TAPE (empty then)": with a FAULT and without. */
    private static void tellEmptiesTheTape() {
        AmendmentTree x = new AmendmentTree();
        Talk.tell(x, "bill a;");
        check.due("promise 4: the TAPE, told", 0, x.count(6));
        check.due("promise 4: empty, told", false, x.end(1));
        Talk.tell(x, "bill");
        check.due("promise 4: the TAPE, a FAULT", 0, x.count(6));
        check.due("promise 4: empty, a FAULT", false, x.end(1));
        check.due("promise 4: the next text alone", 1, Talk.tell(x, "bill b;"));
        check.due("promise 4: its BILL", 2, x.count(4));
    }

    /** "The TAPE .. is told: how many STATEMENTS": none of no bytes, and all is told anew. */
    private static void tellOfAnEmptyTape() {
        AmendmentTree x = Talk.told(STANDING);
        check.due("promise 4: no STATEMENTS", 0, x.tell());
        check.due("promise 4: no FAULT of none", 0, x.fault());
        check.due("promise 4: none tell all anew", Snapshot.of(new AmendmentTree()), Snapshot.of(x));
    }

    /** "TEXTS, at most 400 bytes": the last byte counts. */
    private static void tellOf400Bytes() {
        String text = "bill" + " ".repeat(394) + "a;";
        AmendmentTree x = new AmendmentTree();
        Talk.feed(x, text);
        check.due("promise 4: 400 bytes", 400, x.count(6));
        check.due("promise 4: told", 1, x.tell());
        check.due("promise 4: their BILL", 1, x.count(4));
        check.due("promise 4: 399 bytes", 8 * 399 + 1, Talk.fault(text.substring(0, 399)));
        check.due("promise 4: byte 399", 8 * 399 + 1, Talk.fault("bill a;" + " ".repeat(392) + "x"));
        check.due("promise 4: a NUMBER at the end", 8 * 397 + 2, Talk.fault("quota" + " ".repeat(392) + "999"));
        check.due("promise 4: 400 blanks", 0, Talk.tell(x, "\n".repeat(400)));
        check.due("promise 4: a word of 400", 1, Talk.fault("a".repeat(400)));
        check.due("promise 4: a NUMBER of 400", 1, Talk.fault("9".repeat(400)));
        check.due("promise 4: a SET of 395", 8 * 5 + 1, Talk.fault("bill " + "a".repeat(395)));
    }

    /** "how many STATEMENTS": from none to as many as there can be. */
    private static void tellCountsStatements() {
        String most = "bill a;quota1;" + MOST_VOTERS + "sub a;" + "amend sub+a;".repeat(5) + "joint8ab1;".repeat(6);
        AmendmentTree x = new AmendmentTree();
        check.due("promise 4: all STATEMENTS", 23, Talk.tell(x, most));
        check.due("promise 4: all MOTIONS", 6, x.count(0));
        check.due("promise 4: all VOTERS", 9, x.count(1));
        check.due("promise 4: all JOINTS", 6, x.count(2));
        check.due("promise 4: one", 1, Talk.tell(x, "voter;"));
        check.due("promise 4: none", 0, Talk.tell(x, "\n"));
    }

    /** "A TEXT tells all anew (BILL 0, no MOTIONS, no VOTERS, no QUOTA ahead of it)." */
    private static void tellTellsAllAnew() {
        AmendmentTree x = Talk.told(STANDING);
        x.weigh(0, 7, 9);
        x.order(0x102);
        Talk.tell(x, "voter;voter;amend bill+c;amend bill+d;");
        AmendmentTree fresh = Talk.told("voter;voter;amend bill+c;amend bill+d;");
        check.due("promise 4: all anew", Snapshot.of(fresh), Snapshot.of(x));
        AmendmentTree y = Talk.told(STANDING);
        check.due("promise 4: another ORDER", true, y.order(0x102));
        y.weigh(1, 2, 0);
        Talk.tell(y, STANDING);
        check.due("promise 4: the same text again", Snapshot.of(Talk.told(STANDING)), Snapshot.of(y));
        AmendmentTree z = Talk.told("sub a;voter;joint 0ab9;quota 3;bill a;");
        check.due("promise 4: sub, bill, quota may come again", 3, Talk.tell(z, "sub a;bill b;quota 2;"));
        check.due("promise 4: sub is not there ahead of it", -1, Talk.tell(z, "amend sub+a;"));
        check.due("promise 4: nor VOTERS", -1, Talk.tell(z, "joint 0ab1;"));
        check.due("promise 4: nor MOTIONS", -1, Talk.tell(z, "amend 0+a;"));
        check.due("promise 4: nor JOINTS", 1, Talk.tell(z, "voter;"));
        check.due("promise 4: none LIKES by them", 0, z.likes(0, 3));
    }

    /** "NONE: a FAULT (all else stays as it was)." A fault of each kind, as late in the text as can be. */
    private static void tellRefusedChangesNothing() {
        String ahead = "bill h;sub gh;amend sub+a;amend 1-b;voter h9;voter g-9;joint 0gh9;quota 7;";
        String[] faults = {"", "x", "bill", ahead + "quota 1;", ahead + "voter a10;", ahead + "voter", ahead + "sub",
            ahead + "amend bill+a;".repeat(4), ahead + "joint 0ab1;".repeat(6), ahead + "voter;".repeat(8)};
        String before = Snapshot.of(standing());
        for (String text : faults) {
            AmendmentTree x = standing();
            if (!text.isEmpty()) {
                check.due("promise 4: FAULT of " + text, -1, Talk.tell(x, text));
            }
            check.due("promise 4: all stays behind " + text, before, Snapshot.of(x));
        }
        AmendmentTree x = standing();
        Talk.tell(x, ahead + "x");
        check.due("promise 4: THE ORDER stays", false, x.order(0x102));
        check.due("promise 4: a WEIGHT stays", -9, x.weight(1, 7));
        check.due("promise 4: yes stays", standing().yes(3, 0), x.yes(3, 0));
        check.due("promise 4: prefers stays", standing().prefers(3, 0), x.prefers(3, 0));
    }

    private static AmendmentTree standing() {
        AmendmentTree x = Talk.told(STANDING);
        check.due("promise 7: another ORDER", true, x.order(0x102));
        check.due("promise 6: another WEIGHT", true, x.weigh(1, 7, -9));
        return x;
    }

    // ---- promise 5

    /** "FAULT of the latest tell(); 0 without, and ahead of any." */
    private static void faultAheadAndBehind() {
        AmendmentTree x = new AmendmentTree();
        check.due("promise 5: ahead of any tell", 0, x.fault());
        Talk.feed(x, "x");
        check.due("promise 5: a wrong text, not told yet", 0, x.fault());
        x.tell();
        check.due("promise 5: told", 1, x.fault());
        Talk.feed(x, "bill a;voter;");
        x.end(13);
        check.due("promise 5: of the latest tell, not of the TAPE", 1, x.fault());
        x.tell();
        check.due("promise 5: 0 without", 0, x.fault());
        Talk.tell(x, "bill 1");
        check.due("promise 5: a later one", 8 * 5 + 1, x.fault());
        x.weigh(0, 0, 1);
        x.order(1);
        x.result(0);
        x.fault();
        check.due("promise 5: stays", 8 * 5 + 1, x.fault());
        Talk.tell(x, "quota 0");
        check.due("promise 5: the latest one", 8 * 6 + 2, x.fault());
        x.tell();
        check.due("promise 5: 0 by an empty text", 0, x.fault());
    }

    /** "kind and 8 times the place (a TOKEN's first byte ..)". */
    private static void faultPlaces() {
        fault("x", 0, 1);
        fault(" x", 1, 1);
        fault("\n\n;", 2, 1);
        fault("bill  abx;", 6, 1);
        fault("bill a;   quota   0999;", 18, 1);
        fault("bill a;   quota   099;", 18, 2);
        fault("voter a1 b2 c3 a;", 15, 3);
        fault("voter a - 10;", 10, 2);
        fault("  bill a;  bill b;", 11, 3);
    }

    /** "the end's: the text's length": behind all blanks. */
    private static void faultOfTheEnd() {
        fault("bill", 4, 1);
        fault("bill ", 5, 1);
        fault("bill a", 6, 1);
        fault("bill a \n \n", 10, 1);
        fault("bill" + " ".repeat(396), 400, 1);
        fault("amend", 5, 1);
        fault("amend bill", 10, 1);
        fault("amend bill+", 11, 1);
        fault("amend bill+a", 12, 1);
        fault("amend bill+a-", 13, 1);
        fault("amend bill+a-b", 14, 1);
        fault("sub", 3, 1);
        fault("sub a", 5, 1);
        fault("voter", 5, 1);
        fault("voter a", 7, 1);
        fault("voter a-", 8, 1);
        fault("voter a1", 8, 1);
        fault("voter;joint", 11, 1);
        fault("voter;joint 0", 13, 1);
        fault("voter;joint 0ab", 15, 1);
        fault("voter;joint 0ab-", 16, 1);
        fault("voter;joint 0ab1", 16, 1);
        fault("quota", 5, 1);
        fault("quota 1", 7, 1);
    }

    /** "the first along the text". */
    private static void faultFirstAlongTheText() {
        fault("quota 0; bill a; bill b;", 6, 2);
        fault("bill a; bill i; quota 0;", 8, 3);
        fault("bill i; bill a; quota 0;", 5, 1);
        fault("voter a10 a1;", 7, 2);
        fault("voter a1 a10;", 9, 3);
        fault("joint 0 a 10;", 6, 2);
        fault("voter;joint 0 a 10;", 14, 1);
        fault("amend sub + i;", 6, 3);
        fault("amend 7 + i;", 6, 2);
        fault("bill a;bill 5", 7, 3);
        fault("sub a;sub;", 6, 3);
        fault("quota 1;quota 0;", 8, 3);
        fault(MOST_MOTIONS + "amend 9 i", MOST_MOTIONS.length(), 4);
        fault(MOST_MOTIONS + "sub", MOST_MOTIONS.length(), 4);
        fault(MOST_VOTERS + "voter a10;", MOST_VOTERS.length(), 4);
        fault(MOST_JOINTS + "joint 9 i", MOST_JOINTS.length(), 4);
    }

    /** "of one place the least": a second SUBSTITUTE as a 7th MOTION is 3 and 4. */
    private static void faultLeastOfOnePlace() {
        String five = "sub a;" + "amend bill+a;".repeat(4);
        fault(five + "sub b;", five.length(), 3);
        String six = "sub a;" + "amend bill+a;".repeat(5);
        fault(six + "sub b;", six.length(), 3);
        fault(six + "amend sub+b;", six.length(), 4);
        fault(MOST_MOTIONS + "sub b;", MOST_MOTIONS.length(), 4);
    }

    // ---- promises 4 and 5: terms 4

    /** "SET: a word of letters a to h, each once." "1 .. a word that is no SET, where one must be". */
    private static void sets() {
        String[] heads = {"bill ", "sub ", "amend bill+", "amend bill-", "amend bill+a-"};
        for (String head : heads) {
            int at = head.length();
            for (String set : new String[] {"a", "h", "ah", "ha", "abcdefgh", "hgfedcba"}) {
                taken(head + set + ";", 1);
            }
            for (String set : new String[] {"i", "z", "ai", "ia", "aa", "hh", "aba", "abcdefghi", "abcdefgha", "bill", "A",
                "`", "{", "1", "+", "-", ";", "@"}) {
                fault(head + set + ";", at, 1);
            }
            fault(head + ";", at, 1);
        }
        AmendmentTree x = new AmendmentTree();
        for (int c = 0; c < 8; c++) {
            Talk.tell(x, "bill " + (char) ('a' + c) + ";");
            check.due("promise 4: CLAUSE " + c + " as a bit", 1 << c, x.count(4));
        }
        Talk.tell(x, "bill hgfedcba;");
        check.due("promise 4: all CLAUSES", 255, x.count(4));
    }

    /** "words (letters a to z, as many as stand there)". */
    private static void words() {
        taken("bill a;", 1);
        for (String word : new String[] {"bill a", "amend bill+a", "sub a", "voter", "joint 0ab1", "quota 1"}) {
            // Each letter of the word in turn is another one.
            for (int i = 0; i < word.length() && Character.isLetter(word.charAt(i)); i++) {
                fault("voter;" + word.substring(0, i) + "z" + word.substring(i + 1) + ";", 6, 1);
            }
        }
        fault("amend zill+a;", 6, 1);
        fault("amend bilz+a;", 6, 1);
        fault("sub a;amend zub+a;", 12, 1);
        fault("sub a;amend suz+a;", 12, 1);
        fault("billa;", 0, 1);
        fault("bil a;", 0, 1);
        fault("bills a;", 0, 1);
        fault("bi ll a;", 0, 1);
        fault("amendbill+a;", 0, 1);
        fault("amend bills+a;", 6, 1);
        fault("amend billa+a;", 6, 1);
        fault("sub a;amend su+a;", 12, 1);
        fault("sub a;amend subs+a;", 12, 1);
        fault("subs a;", 0, 1);
        fault("su a;", 0, 1);
        fault("amends bill+a;", 0, 1);
        fault("voters;", 0, 1);
        fault("vote;", 0, 1);
        fault("quotas 1;", 0, 1);
        fault("quot 1;", 0, 1);
        fault("voter;joints 0ab1;", 6, 1);
        fault("voter;join 0ab1;", 6, 1);
        fault("BILL a;", 0, 1);
        fault("bilL a;", 0, 1);
        fault("zzz;", 0, 1);
        fault("a;", 0, 1);
        fault("bill a bill b;", 7, 1);
        fault("bill a b;", 7, 1);
    }

    /** "NUMBERS (1 to 3 digits, as many as stand there)". "1 .. (a NUMBER of more than 3 digits, too". */
    private static void numbers() {
        taken("quota 1;", 1);
        taken("quota 01;", 1);
        taken("quota 001;", 1);
        fault("quota 0001;", 6, 1);
        fault("quota 1000;", 6, 1);
        fault("quota 999;", 6, 2);
        fault("quota 00 1;", 6, 2);
        fault("quota 1 00;", 8, 1);
        taken("voter a1;", 1);
        taken("voter a009;", 1);
        fault("voter a0009;", 7, 1);
        fault("voter a-0000;", 8, 1);
        taken("voter;joint 000ab009;", 2);
        fault("voter;joint 0000ab1;", 12, 1);
        fault("voter;joint 0ab0001;", 15, 1);
        taken("amend bill+a;amend 000+a;", 2);
        fault("amend bill+a;amend 0000+a;", 19, 1);
        fault("amend bill+a;amend 999+a;", 19, 2);
        fault("quota 4294967297;", 6, 1);
        fault("bill 1234;", 5, 1);
        fault("1234;", 0, 1);
        fault("quota 1 1;", 8, 1);
        fault("quota /;", 6, 1);
        fault("quota :;", 6, 1);
        fault("quota 1:;", 7, 1);
        fault("quota 1/;", 7, 1);
        AmendmentTree x = Talk.told("voter a009b0c00d000;quota 009;");
        check.due("promise 4: 009", 9, x.weight(0, 0));
        check.due("promise 4: 000", 0, x.weight(0, 3));
        check.due("promise 4: QUOTA 009", 9, x.count(3));
    }

    /** "blanks (32, 10) between or not". */
    private static void blanks() {
        taken("bill ab;amend bill+c-a;amend 0+d;sub e;amend sub-e;voter a1b-2;joint 0ab-9;quota 2;", 8);
        taken("amend bill+a;amend0+b;voter a1;joint0ab1;quota9;", 5);
        taken("\n\n bill \n ab ; amend bill + c - a ;\nvoter a - 1\nb 2 ; joint 0 ab - 9 ; quota\n2\n;\n ", 5);
        for (int odd : new int[] {0, 9, 11, 12, 13, 31, 33, 127, 128, 138, 160, 255}) {
            fault("bill" + (char) odd + "a;", 4, 1);
            fault((char) odd + "bill a;", 0, 1);
            fault("bill a;" + (char) odd, 7, 1);
        }
        taken("bill" + (char) 10 + "a;", 1);
        taken("bill" + (char) 32 + "a;", 1);
    }

    /** "single bytes; blanks (32, 10)": all 256, none of which but a blank is a text. */
    private static void eachByteAlone() {
        for (int sign = 0; sign < 256; sign++) {
            String text = String.valueOf((char) sign);
            if (sign == 10 || sign == 32) {
                taken(text, 0);
            } else {
                fault(text, 0, 1);
            }
        }
    }

    /** Letters are of the word, whether it is a SET then or not; blanks end it; only ; can stand there. */
    private static void eachByteBehindASet() {
        for (int sign = 0; sign < 256; sign++) {
            String text = "bill a" + (char) sign;
            if (sign == ';') {
                taken(text, 1);
            } else if (sign == 10 || sign == 32 || sign >= 'b' && sign <= 'h') {
                fault(text, 7, 1);
            } else {
                fault(text, sign >= 'a' && sign <= 'z' ? 5 : 6, 1);
            }
        }
    }

    /** Digits are of the NUMBER, which can't be then. */
    private static void eachByteBehindANumber() {
        for (int sign = 0; sign < 256; sign++) {
            String text = "quota 1" + (char) sign + ";";
            if (sign == 10 || sign == 32) {
                taken(text, 1);
            } else if (sign >= '0' && sign <= '9') {
                fault(text, 6, 2);
            } else {
                fault(text, sign == ';' ? 8 : 7, 1);
            }
        }
    }

    /** "1 what can't stand there": each sign in turn at each place of a STATEMENT. */
    private static void signs() {
        String[] text = {"voter", "a", "-", "1", ";", "joint", "0", "ab", "-", "1", ";", "amend", "bill", "+", "a", "-", "b",
            ";", "quota", "1", ";", "bill", "a", ";", "sub", "a", ";"};
        taken(String.join(" ", text), 6);
        int place = 0;
        for (int at = 0; at < text.length; at++) {
            for (String odd : new String[] {"*", "ij", "0000", "="}) {
                String[] spoilt = text.clone();
                spoilt[at] = odd;
                fault(String.join(" ", spoilt), place, 1);
            }
            place += text[at].length() + 1;
        }
        fault("bill a;;", 7, 1);
        fault(";bill a;", 0, 1);
        fault("bill a,", 6, 1);
        fault("bill a:", 6, 1);
        fault("bill a<", 6, 1);
    }

    /** "amend OF [ + SET ] [ - SET ] (one of both at least". */
    private static void amendParts() {
        taken("amend bill+a;", 1);
        taken("amend bill-a;", 1);
        taken("amend bill+a-a;", 1);
        fault("amend bill;", 10, 1);
        fault("amend bill-a+b;", 12, 1);
        fault("amend bill+a+b;", 12, 1);
        fault("amend bill-a-b;", 12, 1);
        fault("amend bill+a-b-c;", 14, 1);
        fault("amend bill+a-b+c;", 14, 1);
        fault("amend bill+-a;", 11, 1);
        fault("amend bill a;", 11, 1);
        fault("amend +a;", 6, 1);
        fault("amend amend+a;", 6, 1);
        fault("amend -1+a;", 6, 1);
        AmendmentTree x = Talk.told("amend bill+a;amend bill-h;");
        check.due("promise 4: MINUS of none", 0, x.motion(0, 3));
        check.due("promise 4: PLUS of none", 0, x.motion(1, 2));
    }

    /** "voter { LETTER [ - ] NUMBER } (each CLAUSE once)": none to eight. */
    private static void voterParts() {
        taken("voter;", 1);
        taken("voter a1;", 1);
        taken("voter h-1;", 1);
        taken("voter h1g2f3e4d5c6b7a8;", 1);
        fault("voter h1g2f3e4d5c6b7a8h1;", 22, 3);
        fault("voter h1g2f3e4d5c6b7a8i1;", 22, 1);
        fault("voter h1g2f3e4d5c6b7a8 8;", 23, 1);
        fault("voter i1;", 6, 1);
        fault("voter `1;", 6, 1);
        fault("voter A1;", 6, 1);
        fault("voter ab1;", 6, 1);
        fault("voter aa1;", 6, 1);
        fault("voter a1aa1;", 8, 1);
        fault("voter a;", 7, 1);
        fault("voter a b1;", 8, 1);
        fault("voter a1 1;", 9, 1);
        fault("voter a--1;", 8, 1);
        fault("voter a+1;", 7, 1);
        fault("voter -1;", 6, 1);
        AmendmentTree x = Talk.told("voter h1g-2f3e-4d5c-6b7a-8;");
        for (int c = 0; c < 8; c++) {
            check.due("promise 4: WEIGHT of CLAUSE " + c, c % 2 == 0 ? c - 8 : 8 - c, x.weight(0, c));
        }
    }

    /** "1 .. behind joint one of fewer than two". */
    private static void jointParts() {
        taken("voter;joint 0ab1;", 2);
        taken("voter;joint 0abcdefgh1;", 2);
        taken("voter;joint 0ha-1;", 2);
        fault("voter;joint 0a1;", 13, 1);
        fault("voter;joint 0h1;", 13, 1);
        fault("voter;joint 0 1;", 14, 1);
        fault("voter;joint 0aa1;", 13, 1);
        fault("voter;joint 0ai1;", 13, 1);
        fault("voter;joint 0hi1;", 13, 1);
        fault("voter;joint 0abcdefghi1;", 13, 1);
        fault("voter;joint ab1;", 12, 1);
        fault("voter;joint -0ab1;", 12, 1);
        fault("voter;joint 0ab--1;", 16, 1);
        fault("voter;joint 0ab+1;", 15, 1);
        fault("voter;joint 0ab;", 15, 1);
        fault("voter;joint 0ab1-1;", 16, 1);
        fault("voter;joint 0ab1ab1;", 16, 1);
    }

    /** "2 .. (a MOTION .. that there is not yet, too; a MOTION of SORT 1, 3 behind amend)". */
    private static void motionsBehindAmend() {
        fault("amend 0+a;", 6, 2);
        fault("amend 0+a;amend bill+a;", 6, 2);
        taken("amend bill+a;amend 0+a;", 2);
        fault("amend bill+a;amend 1+a;", 19, 2);
        taken("amend bill+a;amend bill+a;amend 1+a;", 3);
        fault("amend bill+a;amend bill+a;amend 2+a;", 32, 2);
        taken("sub a;amend sub+a;amend 1+a;", 3);
        fault("sub a;amend 0+a;", 12, 2);
        fault("amend bill+a;sub a;amend 1+a;", 25, 2);
        fault("amend bill+a;amend 0+a;amend 1+a;", 29, 2);
        fault("sub a;amend sub+a;amend 1+a;amend 2+a;", 34, 2);
        String five = "amend bill+a;".repeat(5);
        taken(five + "amend 4+a;", 6);
        fault(five + "amend 5+a;", five.length() + 6, 2);
        fault(five + "amend 6+a;", five.length() + 6, 2);
    }

    /** "2 .. (a .. VOTER that there is not yet, too". */
    private static void votersBehindJoint() {
        fault("joint 0ab1;", 6, 2);
        fault("joint 0ab1;voter;", 6, 2);
        taken("voter;joint 0ab1;", 2);
        fault("voter;joint 1ab1;", 12, 2);
        fault("voter;joint 1ab1;voter;", 12, 2);
        taken(MOST_VOTERS + "joint 8ab1;", 10);
        fault(MOST_VOTERS + "joint 9ab1;", MOST_VOTERS.length() + 6, 2);
        fault(MOST_VOTERS + "joint 999ab1;", MOST_VOTERS.length() + 6, 2);
    }

    /** "QUOTA: 1 to 9". */
    private static void quotas() {
        for (int quota = 0; quota <= 12; quota++) {
            if (quota >= 1 && quota <= 9) {
                taken("quota " + quota + ";", 1);
                check.due("promise 8: QUOTA " + quota, quota, Talk.told("quota " + quota + ";").count(3));
            } else {
                fault("quota " + quota + ";", 6, 2);
            }
        }
        fault("quota 000;", 6, 2);
        fault("quota -1;", 6, 1);
    }

    /** "a WEIGHT for each CLAUSE (-9 to 9", and of JOINTS likewise. */
    private static void weights() {
        for (int w = 0; w <= 12; w++) {
            if (w <= 9) {
                AmendmentTree x = Talk.told("voter a" + w + "b-" + w + ";voter;joint 0ab" + w + ";joint 1ab-" + w + ";");
                check.due("promise 4: WEIGHT " + w, w, x.weight(0, 0));
                check.due("promise 4: WEIGHT -" + w, -w, x.weight(0, 1));
                check.due("promise 4: a JOINT of " + w, w, x.likes(0, 3));
                check.due("promise 4: a JOINT of -" + w, -w, x.likes(1, 3));
            } else {
                fault("voter a" + w + ";", 7, 2);
                fault("voter a-" + w + ";", 8, 2);
                fault("voter;joint 0ab" + w + ";", 15, 2);
                fault("voter;joint 0ab-" + w + ";", 16, 2);
            }
        }
    }

    /** "3 what is told again: bill, sub, quota, at the word, a LETTER of a VOTER". */
    private static void toldAgain() {
        fault("bill a;bill a;", 7, 3);
        fault("sub a;sub a;", 6, 3);
        fault("quota 1;quota 1;", 8, 3);
        fault("voter a1a1;", 8, 3);
        fault("voter h0b1h0;", 10, 3);
        taken("voter a1;voter a1;", 2);
        taken("voter;joint 0ab1;joint 0ab1;", 3);
        taken("amend bill+a;amend bill+a;", 2);
        taken("bill a;sub a;quota 1;", 3);
    }

    /** "3 .. sub behind amend, if there is none yet." */
    private static void substituteBehindAmend() {
        fault("amend sub+a;", 6, 3);
        fault("amend sub+a;sub a;", 6, 3);
        fault("amend bill+a;amend sub+a;", 19, 3);
        taken("sub a;amend sub+a;", 2);
    }

    /** "4 one too many: a 7th MOTION .. at the STATEMENT's word." */
    private static void sixMotions() {
        taken(MOST_MOTIONS, 6);
        taken("amend bill+a;".repeat(5) + "sub a;", 6);
        taken("sub a;" + "amend sub+a;".repeat(5), 6);
        taken("amend bill+a;" + "amend 0+a;".repeat(5), 6);
        fault(MOST_MOTIONS + " amend bill+a;", MOST_MOTIONS.length() + 1, 4);
        fault(MOST_MOTIONS + " amend 0+a;", MOST_MOTIONS.length() + 1, 4);
        fault(MOST_MOTIONS + "\nsub a;", MOST_MOTIONS.length() + 1, 4);
        fault("sub a;" + "amend sub+a;".repeat(6), 6 + 5 * 12, 4);
        taken(MOST_MOTIONS + "bill a;quota 1;voter;joint 0ab1;", 10);
    }

    /** "4 one too many: .. 10th VOTER". */
    private static void nineVoters() {
        taken(MOST_VOTERS, 9);
        fault(MOST_VOTERS + "voter;", MOST_VOTERS.length(), 4);
        fault(MOST_VOTERS + " voter a1;", MOST_VOTERS.length() + 1, 4);
        taken(MOST_VOTERS + "bill a;quota 1;sub a;amend bill+a;joint 0ab1;", 14);
        String weighed = "voter a9b9;".repeat(9);
        AmendmentTree x = Talk.told(weighed);
        check.due("promise 4: the ninth VOTER", 9, x.weight(8, 1));
    }

    /** "4 one too many: .. 7th JOINT": "of all VOTERS together 6 at most". */
    private static void sixJoints() {
        taken(MOST_JOINTS, 8);
        taken("voter;" + "joint 0ab1;".repeat(6), 7);
        fault("voter;" + "joint 0ab1;".repeat(7), 6 + 6 * 11, 4);
        fault(MOST_JOINTS + " joint 0ab1;", MOST_JOINTS.length() + 1, 4);
        fault(MOST_JOINTS + "voter;joint 2ab1;", MOST_JOINTS.length() + 6, 4);
        taken(MOST_JOINTS + "bill a;quota 1;sub a;amend bill+a;voter;", 13);
    }

    // ---- helpers

    private static int blank(AmendmentTree x) {
        return x.feed(BLANKS, BLANKS, BLANKS, BLANKS, BLANKS);
    }

    private static AmendmentTree filled(int bytes) {
        AmendmentTree x = new AmendmentTree();
        for (int i = 0; i < bytes; i += 20) {
            blank(x);
        }
        return x;
    }

    private static void taken(String text, int statements) {
        AmendmentTree x = new AmendmentTree();
        check.due("promise 4: tell " + text, statements, Talk.tell(x, text));
        check.due("promise 5: no FAULT of " + text, 0, x.fault());
    }

    private static void fault(String text, int place, int kind) {
        AmendmentTree x = new AmendmentTree();
        check.due("promise 4: tell " + text, -1, Talk.tell(x, text));
        check.due("promise 5: FAULT of " + text, 8 * place + kind, x.fault());
    }
}
