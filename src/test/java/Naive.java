/** The three ways of choosing, word by word from the document, however slow that is. */
final class Naive {
    private final byte[] bytes;
    private final int dictionary;
    private final int[] backs = {1, 1, 1, 1};
    private int state;
    private int longest;
    private int nearest;

    Naive(byte[] bytes, int dictionary) {
        this.bytes = bytes;
        this.dictionary = dictionary;
    }

    /** All choices of form 0 without an END MARK, as Due.steps() writes them. */
    String steps(int level) {
        StringBuilder s = new StringBuilder();
        for (int place = 0; place < bytes.length;) {
            int[] choice = level == 0 ? greedy(place) : level == 1 ? lazy(place) : cheapest(place);
            s.append(place == 0 ? "" : " ").append(choice[0]).append(',').append(place);
            s.append(',').append(choice[1]).append(',').append(choice[2]);
            follow(choice[0], choice[2]);
            place += choice[1];
        }
        return s.toString();
    }

    int state() {
        return state;
    }

    private int equal(int place, int away) {
        int n = 0;
        while (away <= place && n < 273 && place + n < bytes.length && bytes[place + n] == bytes[place + n - away]) {
            n++;
        }
        return n;
    }

    private void look(int place) {
        longest = 0;
        nearest = 0;
        for (int away = 1; away <= Math.min(place, dictionary); away++) {
            if (equal(place, away) > longest) {
                longest = equal(place, away);
                nearest = away;
            }
        }
    }

    private int[] greedy(int place) {
        look(place);
        int best = 0;
        for (int i = 1; i < 4; i++) {
            best = equal(place, backs[i]) > equal(place, backs[best]) ? i : best;
        }
        int most = equal(place, backs[best]);
        if (most >= 2 && most >= longest - 1) {
            return new int[] {2 + best, most, backs[best]};
        }
        if (longest >= 3 || longest == 2 && nearest <= 128) {
            return new int[] {1, longest, nearest};
        }
        return equal(place, backs[0]) == 1 ? new int[] {6, 1, backs[0]} : new int[] {0, 1, 0};
    }

    private int[] lazy(int place) {
        int[] here = greedy(place);
        if (here[0] == 0 || here[0] == 6 || here[1] >= 32 || place + 1 == bytes.length) {
            return here;
        }
        return greedy(place + 1)[1] >= here[1] + 2 ? new int[] {0, 1, 0} : here;
    }

    private int[] cheapest(int place) {
        int[] costs = new int[bytes.length + 1];
        int first = 1;
        for (int i = bytes.length - 1; i >= place; i--) {
            look(i);
            costs[i] = 9 + costs[i + 1];
            first = 1;
            for (int n = 2; n <= longest; n++) {
                int cost = 7 + (n > 9 ? 3 : 0) + (n > 17 ? 5 : 0) + Integer.toBinaryString(nearest).length() + costs[i + n];
                if (cost <= costs[i]) {
                    costs[i] = cost;
                    first = n;
                }
            }
        }
        if (first == 1) {
            boolean again = equal(place, backs[0]) >= 1 && state >= 7;
            return again ? new int[] {6, 1, backs[0]} : new int[] {0, 1, 0};
        }
        look(place);
        for (int i = 0; i < 4; i++) {
            if (backs[i] == nearest) {
                return new int[] {2 + i, first, nearest};
            }
        }
        return new int[] {1, first, nearest};
    }

    private void follow(int kind, int away) {
        int[] behindLiteral = {0, 0, 0, 0, 1, 2, 3, 4, 5, 6, 4, 5};
        boolean low = state < 7;
        if (kind == 0) {
            state = behindLiteral[state];
        } else if (kind == 6) {
            state = low ? 9 : 11;
        } else {
            int from = kind == 1 ? 3 : kind - 2;
            System.arraycopy(backs, 0, backs, 1, from);
            backs[0] = away;
            state = kind == 1 ? low ? 7 : 10 : low ? 8 : 11;
        }
    }
}
