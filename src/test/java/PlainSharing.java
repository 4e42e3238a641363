/** The BEST SHARING by trying them all, in the order in which the document prefers them. */
final class PlainSharing {
    int way = 40;
    int things = 0;
    int convoys = 0;
    final int[][] thing = new int[10][];
    final int[][] convoy = new int[4][];
    private final int[] tried = new int[10];
    private int[] best;
    private int bestCost;

    void thing(int last, int first, int load, int cost) {
        thing[things++] = new int[] {last, first, load, cost};
    }

    void convoy(int leaves, int room, int limit) {
        convoy[convoys++] = new int[] {leaves, room, limit};
    }

    int costOf(int[] sharing) {
        int cost = 0;
        for (int i = 0; i < things; i++) {
            cost += sharing[i] == -1 ? thing[i][3] : 0;
        }
        return cost;
    }

    int[] best() {
        best = null;
        bestCost = Integer.MAX_VALUE;
        attempt(0, new int[4], new int[4], 0);
        return best;
    }

    /** The first of the cheapest ones stays: they come in the order of preference. */
    private void attempt(int i, int[] number, int[] load, int cost) {
        if (cost >= bestCost) {
            return;
        }
        if (i == things) {
            bestCost = cost;
            best = java.util.Arrays.copyOf(tried, things);
            return;
        }
        int[] t = thing[i];
        for (int c = 0; c < convoys; c++) {
            boolean can = convoy[c][0] >= t[0] && convoy[c][0] + way <= t[1];
            if (can && number[c] < convoy[c][1] && load[c] + t[2] <= convoy[c][2]) {
                number[c]++;
                load[c] += t[2];
                tried[i] = c;
                attempt(i + 1, number, load, cost);
                number[c]--;
                load[c] -= t[2];
            }
        }
        tried[i] = -1;
        attempt(i + 1, number, load, cost + t[3]);
    }
}
