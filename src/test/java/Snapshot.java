/** All that can be asked of an object, as one text: two objects that answer alike have the same. */
final class Snapshot {
    /** With up to four motions and three voters a snapshot takes some 200 of an object's 512 calls. */
    private static final int MOST_VOTERS = 3;

    private Snapshot() {
    }

    static String of(AmendmentTree x) {
        StringBuilder all = new StringBuilder();
        told(x, all);
        votes(x, all);
        forms(x, all);
        return all.toString();
    }

    private static void told(AmendmentTree x, StringBuilder all) {
        all.append("counts");
        for (int what = 0; what < 8; what++) {
            all.append(' ').append(x.count(what));
        }
        all.append(" motions");
        for (int m = 0; m < x.count(0); m++) {
            for (int what = 0; what < 5; what++) {
                all.append(' ').append(x.motion(m, what));
            }
        }
        all.append(" weights");
        int voters = x.count(1);
        for (int v = 0; v < voters; v++) {
            for (int c = 0; c < 8; c++) {
                all.append(' ').append(x.weight(v, c));
            }
            all.append(" likes ").append(x.likes(v, 255)).append(' ').append(x.likes(v, 15));
        }
        all.append(" forms");
        int sets = 1 << x.count(0);
        for (int set = 0; set < sets; set++) {
            all.append(' ').append(x.form(set));
        }
    }

    private static void votes(AmendmentTree x, StringBuilder all) {
        int voters = x.count(1);
        if (voters > MOST_VOTERS) {
            throw new IllegalArgumentException("too many voters for a snapshot");
        }
        all.append(" votes");
        for (int t = 0; t < 1 << voters; t++) {
            all.append(' ').append(x.result(t)).append(' ').append(x.adopted(t)).append(' ').append(x.killers(t));
        }
    }

    private static void forms(AmendmentTree x, StringBuilder all) {
        all.append(" winner ").append(x.winner()).append(" open");
        int open = x.count(7);
        for (int i = 0; i < open; i++) {
            int form = x.open(i);
            all.append(' ').append(form).append(x.standing(form, 0)).append(x.standing(form, 1));
        }
    }
}
