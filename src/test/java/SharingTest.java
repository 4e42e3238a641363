import java.util.Random;

/** Promises 2 to 7: thing, convoy, set, least, share, settle. */
public final class SharingTest {
    public static void main(String[] args) {
        thingBounds();
        convoyBounds();
        setBounds();
        whoCanGo();
        roomAndLimit();
        alikeSharings();
        settlingFixes();
        bestOfAll();
        fullHouse();
        Check.finish();
    }

    private static void thingBounds() {
        NightMove x = new NightMove();
        int[][] wrong = {
            {-1, 0, 1, 0}, {0, -1, 1, 0}, {2001, 2001, 1, 0}, {0, 2001, 1, 0}, {5, 4, 1, 0}, {0, 0, 0, 0},
            {0, 0, 41, 0}, {0, 0, 1, -1}, {0, 0, 1, 1001}, {Integer.MIN_VALUE, Integer.MAX_VALUE, 1, 1},
            {0, 0, Integer.MIN_VALUE, 0}, {0, 0, 1, Integer.MAX_VALUE},
        };
        for (int[] w : wrong) {
            Check.due("thing out of bounds", x.thing(w[0], w[1], w[2], w[3]), -1);
        }
        Check.due("count(1)", x.count(1), 0);
        Check.due("thing(0, 0, 1, 0)", x.thing(0, 0, 1, 0), 0);
        Check.due("thing(2000, 2000, 40, 1000)", x.thing(2000, 2000, 40, 1000), 1);
        for (int i = 2; i < 10; i++) {
            Check.due("thing", x.thing(3, 3, 1, 1), i);
        }
        Check.due("an eleventh thing", x.thing(3, 3, 1, 1), -1);
        Check.due("count(1)", x.count(1), 10);
        Check.due("least", x.least(), 1008);
        Check.due("share(9)", x.share(9), -1);
        Check.due("share(10)", x.share(10), -2);
        Check.due("share(-1)", x.share(-1), -2);
        Check.due("share(MIN)", x.share(Integer.MIN_VALUE), -2);
    }

    private static void convoyBounds() {
        NightMove x = new NightMove();
        int[][] wrong = {
            {-1, 1, 1}, {2001, 1, 1}, {0, 0, 1}, {0, 11, 1}, {0, 1, 0}, {0, 1, 201},
            {Integer.MAX_VALUE, 1, 1}, {0, Integer.MIN_VALUE, 1}, {0, 1, Integer.MAX_VALUE},
        };
        for (int[] w : wrong) {
            Check.due("convoy out of bounds", x.convoy(w[0], w[1], w[2]), -1);
        }
        Check.due("convoy(0, 1, 1)", x.convoy(0, 1, 1), 0);
        Check.due("convoy(2000, 10, 200)", x.convoy(2000, 10, 200), 1);
        Check.due("convoy", x.convoy(5, 5, 5), 2);
        Check.due("convoy", x.convoy(5, 5, 5), 3);
        Check.due("a fifth convoy", x.convoy(5, 5, 5), -1);
        Check.due("count(2)", x.count(2), 4);
    }

    private static void setBounds() {
        NightMove x = new NightMove();
        x.thing(0, 40, 1, 9);
        x.convoy(0, 1, 1);
        int[][] wrong = {
            {1, 3, 480}, {121, 3, 480}, {50, -1, 480}, {50, 31, 480}, {50, 3, -1}, {50, 3, 2001},
            {Integer.MIN_VALUE, 3, 480}, {50, Integer.MAX_VALUE, 480}, {50, 3, Integer.MIN_VALUE},
        };
        for (int[] w : wrong) {
            Check.due("set out of bounds", x.set(w[0], w[1], w[2]), false);
        }
        Check.due("what was refused changed nothing", x.least(), 0);
        Check.due("set(41, 0, 0)", x.set(41, 0, 0), true);
        Check.due("the way is too long now", x.least(), 9);
        Check.due("set(120, 30, 2000)", x.set(120, 30, 2000), true);
        Check.due("set(2, 0, 2000)", x.set(2, 0, 2000), true);
        Check.due("least", x.least(), 0);
        Check.feed(x, "l=2000");
        x.rule();
        Check.due("the end is told", x.go(), 1);
    }

    private static void whoCanGo() {
        int[][] rows = { // last, first, leaves, can go
            {20, 60, 20, 1}, {21, 61, 20, 0}, {20, 59, 20, 0}, {19, 60, 20, 1}, {20, 61, 21, 1}, {20, 60, 21, 0},
            {0, 2000, 1960, 1}, {0, 2000, 1961, 0}, {20, 20, 20, 0},
        };
        for (int[] row : rows) {
            NightMove x = new NightMove();
            x.thing(row[0], row[1], 1, 5);
            x.convoy(row[2], 1, 1);
            Check.due("share(0)", x.share(0), row[3] == 1 ? 0 : -1);
            Check.due("least()", x.least(), row[3] == 1 ? 0 : 5);
        }
    }

    private static void roomAndLimit() {
        NightMove x = new NightMove();
        x.thing(0, 100, 10, 5);
        x.thing(0, 100, 10, 6);
        x.thing(0, 100, 10, 7);
        x.convoy(10, 2, 200);
        Check.due("room for two", x.least(), 5);
        Check.due("share(0)", x.share(0), -1);
        NightMove y = new NightMove();
        y.thing(0, 100, 10, 5);
        y.thing(0, 100, 10, 6);
        y.thing(0, 100, 10, 7);
        y.convoy(10, 10, 29);
        Check.due("a limit of 29", y.least(), 5);
        y.convoy(10, 10, 9);
        Check.due("a convoy for less than any load", y.least(), 5);
        y.convoy(10, 10, 10);
        Check.due("one more load", y.least(), 0);
        Check.due("share(2) goes on, the first two together", y.share(2), 2);
        Check.due("share(0)", y.share(0), 0);
    }

    private static void alikeSharings() {
        NightMove x = new NightMove();
        for (int i = 0; i < 4; i++) {
            x.thing(0, 100, 10, 0);
        }
        x.convoy(10, 1, 200);
        x.convoy(10, 1, 200);
        Check.due("nothing is lost", x.least(), 0);
        Check.due("a convoy rather than doubled", x.share(0), 0);
        Check.due("then the next", x.share(1), 1);
        Check.due("then none", x.share(2), -1);
        Check.due("then none", x.share(3), -1);
        NightMove y = new NightMove();
        y.thing(0, 100, 10, 0);
        y.thing(10, 50, 10, 0);
        y.convoy(10, 1, 200);
        y.convoy(20, 1, 200);
        Check.due("the first difference decides", y.share(0), 0);
        Check.due("even if one is doubled by it", y.share(1), -1);
        NightMove z = new NightMove();
        z.thing(0, 100, 10, 0);
        z.thing(10, 50, 10, 1);
        z.convoy(10, 1, 200);
        z.convoy(20, 1, 200);
        Check.due("but cost comes first", z.share(0), 1);
        Check.due("but cost comes first", z.share(1), 0);
    }

    private static void settlingFixes() {
        NightMove x = new NightMove();
        x.thing(0, 100, 10, 5);
        x.thing(0, 39, 10, 7);
        x.convoy(10, 2, 200);
        Check.due("count(3)", x.count(3), 0);
        Check.due("settle", x.settle(), 7);
        Check.due("count(3)", x.count(3), 1);
        Check.due("settle again", x.settle(), -1);
        Check.due("thing", x.thing(0, 100, 10, 5), -1);
        Check.due("convoy", x.convoy(10, 2, 200), -1);
        Check.due("set", x.set(2, 3, 480), false);
        Check.due("least", x.least(), 7);
        Check.due("share(0)", x.share(0), 0);
        Check.due("share(1)", x.share(1), -1);
        Check.due("share(2)", x.share(2), -2);
        x.late(0, 200);
        Check.due("least with a late convoy", x.least(), 7);
        Check.due("share(0) with a late convoy", x.share(0), 0);
        NightMove y = new NightMove();
        y.thing(0, 0, 1, 4);
        Check.due("settle without convoys", y.settle(), 4);
    }

    /** Small houses against all sharings there are. */
    private static void bestOfAll() {
        Random random = new Random(11);
        for (int round = 0; round < 3000; round++) {
            NightMove x = new NightMove();
            PlainSharing plain = new PlainSharing();
            int way = 2 + random.nextInt(30);
            x.set(way, 3, 480);
            plain.way = way;
            int things = random.nextInt(7);
            int convoys = random.nextInt(5);
            int costs = 1 + random.nextInt(6);
            for (int i = 0; i < things; i++) {
                int last = random.nextInt(40);
                int first = last + random.nextInt(120);
                int load = 1 + random.nextInt(40);
                int cost = random.nextInt(costs);
                x.thing(last, first, load, cost);
                plain.thing(last, first, load, cost);
                compare(x, plain, i % 3 == 0);
            }
            for (int i = 0; i < convoys; i++) {
                int leaves = random.nextInt(80);
                int room = 1 + random.nextInt(4);
                int limit = 1 + random.nextInt(90);
                x.convoy(leaves, room, limit);
                plain.convoy(leaves, room, limit);
                compare(x, plain, i % 2 == 0);
            }
            compare(x, plain, true);
        }
    }

    private static void compare(NightMove x, PlainSharing plain, boolean now) {
        if (!now) {
            return;
        }
        int[] best = plain.best();
        Check.due("least", x.least(), plain.costOf(best));
        for (int i = 0; i < best.length; i++) {
            Check.due("share(" + i + ")", x.share(i), best[i]);
        }
    }

    /** Ten things and four convoys that any can go with, against all sharings there are. */
    private static void fullHouse() {
        Random random = new Random(12);
        for (int round = 0; round < 4; round++) {
            NightMove x = new NightMove();
            PlainSharing plain = new PlainSharing();
            plain.way = 40;
            for (int i = 0; i < 10; i++) {
                int load = 10 + random.nextInt(31);
                int cost = random.nextInt(4);
                x.thing(0, 2000, load, cost);
                plain.thing(0, 2000, load, cost);
            }
            for (int i = 0; i < 4; i++) {
                int room = 1 + random.nextInt(3);
                int limit = 30 + random.nextInt(60);
                x.convoy(i, room, limit);
                plain.convoy(i, room, limit);
            }
            compare(x, plain, true);
        }
    }
}
