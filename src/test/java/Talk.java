/** Puts texts on the tape and reads minutes off, twenty bytes and one byte a call. */
final class Talk {
    private Talk() {
    }

    static void feed(AmendmentTree tree, String text) {
        int before = tree.count(6);
        for (int i = 0; i < text.length(); i += 20) {
            tree.feed(number(text, i), number(text, i + 4), number(text, i + 8), number(text, i + 12),
                    number(text, i + 16));
        }
        tree.end(before + text.length());
    }

    static int tell(AmendmentTree tree, String text) {
        feed(tree, text);
        return tree.tell();
    }

    static AmendmentTree told(String text) {
        AmendmentTree tree = new AmendmentTree();
        if (tell(tree, text) < 0) {
            throw new IllegalArgumentException("fault " + tree.fault() + " in " + text);
        }
        return tree;
    }

    /** The fault of a text told to a new object. */
    static int fault(String text) {
        AmendmentTree tree = new AmendmentTree();
        tell(tree, text);
        return tree.fault();
    }

    static String minutes(AmendmentTree tree, int t) {
        StringBuilder all = new StringBuilder();
        int length = tree.minutes(t, AmendmentTree.NONE);
        for (int i = 0; i < length; i++) {
            all.append((char) tree.minutes(t, i));
        }
        return all.toString();
    }

    private static int number(String text, int from) {
        int number = 0;
        for (int i = from; i < from + 4; i++) {
            number = number << 8 | (i < text.length() ? text.charAt(i) & 255 : '#');
        }
        return number;
    }
}
