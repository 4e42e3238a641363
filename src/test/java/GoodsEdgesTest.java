/** The edges that the document names for promises 1 to 7, a test for each sentence (it stands above the test). */
public final class GoodsEdgesTest {
    private static final int[] NUMBER_3 = {3, Edge.NONE};
    private static final int[] NUMBER_2 = {2, Edge.NONE};
    private static final int[] TRUE = {1, 0};

    public static void main(String[] args) {
        newObject();
        endIs480AtFirst();
        tenThings();
        lastBounds();
        firstBounds();
        firstIsLastOrBehind();
        loadBounds();
        costBounds();
        fourConvoys();
        leavesBounds();
        roomBounds();
        limitBounds();
        wayBounds();
        wayToldAgain();
        headwayBounds();
        endBounds();
        refusedSetKeepsAll();
        wayIs40AtFirst();
        headwayIs3AtFirst();
        leavesAtLastOrBehind();
        thereByFirst();
        neverMoreThanRoom();
        neverMoreThanLimit();
        leastOfNoneAndOfAll();
        convoyRatherThanDoubled();
        thenTheLowerConvoy();
        shareOfNoSuchThing();
        settledRefuses();
        settledOnce();
        settledWithNothing();
        settlingFixesWhatIsBestThen();
        Check.finish();
    }

    /** "MINUTE 0": all is empty, and every question about what is not there is refused. */
    private static void newObject() {
        NightMove x = new NightMove();
        for (int what = 0; what <= 9; what++) {
            Check.due("count(" + what + ")", x.count(what), 0);
        }
        Check.due("no thing", x.share(0), -2);
        Check.due("no stage", x.told(0, 0), Edge.NONE);
        Check.due("no stage to begin", x.begin(0), false);
        Check.due("no stage to fail", x.fail(0), false);
        Check.due("no fault", x.close(0), false);
        Check.due("nothing goes back", x.back(), Edge.NONE);
        Check.due("whole at 0", x.whole(), 0);
        Check.due("ready at 0", x.ready(), 0);
        Check.due("an empty tape", x.fault(), 0);
        Check.due("without a rule", x.go(), 1);
    }

    /** "The END is 480." */
    private static void endIs480AtFirst() {
        NightMove x = new NightMove();
        Check.feed(x, "l=480");
        x.rule();
        Check.due("480 minutes", x.go(), 1);
        Check.feed(x, "l=1");
        x.rule();
        x.tick(479);
        Check.due("a minute ahead of it", x.go(), 1);
        Check.feed(x, "l=0");
        x.rule();
        Check.due("not over yet", x.go(), 0);
        x.tick(1);
        Check.due("at the end", x.go(), 1);
    }

    /** "THINGS (10 at most)"; "NONE: there are ten". */
    private static void tenThings() {
        Edge.taken("a tenth", () -> Nights.withThings(9), x -> x.thing(0, 2000, 40, 1000), 9);
        Edge.refused("an eleventh", () -> Nights.withThings(10), x -> x.thing(0, 2000, 40, 1000), Edge.NONE);
        Edge.refused("an eleventh, out of bounds", () -> Nights.withThings(10), x -> x.thing(0, 0, 0, 0), Edge.NONE);
        NightMove x = Nights.withThings(10);
        int before = x.least();
        x.thing(0, 2000, 40, 1000);
        Check.due("its cost is not counted", x.least(), before);
        Check.due("ten", x.count(1), 10);
        Check.due("share(10)", x.share(10), -2);
    }

    /** "LAST .. 0 .. 2,000". */
    private static void lastBounds() {
        Edge.bounds("last", Nights::young, (x, n) -> x.thing(n, 2000, 1, 1), new int[] {0, 2000}, NUMBER_3);
        Edge.refused("last 2001 with first", Nights::young, x -> x.thing(2001, 2001, 1, 1), Edge.NONE);
        Edge.refused("last and first -1", Nights::young, x -> x.thing(-1, -1, 1, 1), Edge.NONE);
    }

    /** "FIRST .. 0 .. 2,000". */
    private static void firstBounds() {
        Edge.bounds("first", Nights::young, (x, n) -> x.thing(0, n, 1, 1), new int[] {0, 2000}, NUMBER_3);
    }

    /** "FIRST, LAST or behind it". */
    private static void firstIsLastOrBehind() {
        Edge.bounds("first of 700", Nights::young, (x, n) -> x.thing(700, n, 1, 1), new int[] {700, 2000}, NUMBER_3);
        Edge.refused("first ahead at the end", Nights::young, x -> x.thing(2000, 1999, 1, 1), Edge.NONE);
        Edge.refused("last at the end of int", Nights::young, x -> x.thing(Edge.HIGHEST, 0, 1, 1), Edge.NONE);
        Edge.refused("both at the ends", Nights::young, x -> x.thing(Edge.LOWEST, Edge.HIGHEST, 1, 1), Edge.NONE);
    }

    /** "a LOAD (1 .. 40)". */
    private static void loadBounds() {
        Edge.bounds("load", Nights::young, (x, n) -> x.thing(0, 2000, n, 1), new int[] {1, 40}, NUMBER_3);
        for (int load : new int[] {1, 40}) {
            NightMove x = new NightMove();
            x.thing(0, 2000, load, 1);
            x.convoy(0, 1, 200);
            x.settle();
            Check.due("a load of " + load, x.road(0, 0, 4), load);
        }
    }

    /** "a COST to double it (0 .. 1,000)". */
    private static void costBounds() {
        Edge.bounds("cost", Nights::young, (x, n) -> x.thing(0, 2000, 1, n), new int[] {0, 1000}, NUMBER_3);
        for (int cost : new int[] {0, 1, 999, 1000}) {
            NightMove x = new NightMove();
            x.thing(0, 2000, 1, cost);
            Check.due("a cost of " + cost, x.least(), cost);
        }
    }

    /** "CONVOYS (4 at most)"; "NONE: there are four". */
    private static void fourConvoys() {
        Edge.taken("a fourth", () -> Nights.withConvoys(3), x -> x.convoy(9, 1, 1), 3);
        Edge.refused("a fifth", () -> Nights.withConvoys(4), x -> x.convoy(9, 10, 200), Edge.NONE);
        NightMove x = Nights.withConvoys(4);
        x.convoy(9, 10, 200);
        Check.due("four", x.count(2), 4);
        x.settle();
        Check.due("the fourth runs", x.road(3, 0, 0), 53);
        Check.due("no fifth does", x.road(4, 0, 0), Edge.NONE);
    }

    /** "leave at a MINUTE (0 .. 2,000)". */
    private static void leavesBounds() {
        Edge.bounds("leaves", Nights::young, (x, n) -> x.convoy(n, 1, 1), new int[] {0, 2000}, NUMBER_2);
        for (int leaves : new int[] {0, 2000}) {
            NightMove x = new NightMove();
            x.convoy(leaves, 1, 1);
            x.settle();
            Check.due("leaves at " + leaves, x.road(0, 0, 0), leaves);
        }
    }

    /** "ROOM for so many THINGS (1 .. 10)". */
    private static void roomBounds() {
        Edge.bounds("room", Nights::young, (x, n) -> x.convoy(9, n, 1), new int[] {1, 10}, NUMBER_2);
    }

    /** "a LIMIT of LOAD together (1 .. 200)". */
    private static void limitBounds() {
        Edge.bounds("limit", Nights::young, (x, n) -> x.convoy(9, 1, n), new int[] {1, 200}, NUMBER_2);
    }

    /** "take WAY minutes (2 .. 120, told for all)". */
    private static void wayBounds() {
        Edge.bounds("way", Nights::young, (x, n) -> Edge.yes(x.set(n, 3, 480)), new int[] {2, 120}, TRUE);
        for (int way : new int[] {2, 3, 119, 120}) {
            NightMove x = new NightMove();
            x.convoy(10, 1, 1);
            x.set(way, 3, 480);
            x.settle();
            Check.due("there behind " + way, x.road(0, 0, 2), 10 + way);
        }
    }

    /** "told for all": what is best follows the way, as often as it is told. */
    private static void wayToldAgain() {
        NightMove x = new NightMove();
        x.thing(0, 40, 1, 7);
        x.convoy(0, 1, 1);
        int[][] rows = {{40, 0}, {41, 7}, {2, 0}, {120, 7}, {39, 0}};
        for (int[] row : rows) {
            Check.due("set", x.set(row[0], 3, 480), true);
            Check.due("with a way of " + row[0], x.least(), row[1]);
            Check.due("out of bounds", x.set(row[0] == 2 ? 121 : 1, 3, 480), false);
            Check.due("the way stays", x.least(), row[1]);
        }
    }

    /** "HEADWAY (0 .. 30)". */
    private static void headwayBounds() {
        Edge.bounds("headway", Nights::young, (x, n) -> Edge.yes(x.set(40, n, 480)), new int[] {0, 30}, TRUE);
        for (int headway : new int[] {0, 1, 29, 30}) {
            NightMove x = new NightMove();
            x.convoy(10, 1, 1);
            x.convoy(10, 1, 1);
            x.set(40, headway, 480);
            x.settle();
            Check.due("behind the one ahead", x.road(1, 0, 1) - x.road(0, 0, 1), headway);
        }
    }

    /** "the END (0 .. 2,000)". */
    private static void endBounds() {
        Edge.bounds("end", Nights::young, (x, n) -> Edge.yes(x.set(40, 3, n)), new int[] {0, 2000}, TRUE);
        for (int end : new int[] {0, 1, 2000}) {
            NightMove x = new NightMove();
            x.set(40, 3, end);
            Check.feed(x, "l=" + end);
            x.rule();
            Check.due("an end of " + end, x.go(), 1);
        }
    }

    /** "False: out of bounds": not even those numbers are kept that are within them. */
    private static void refusedSetKeepsAll() {
        int[][] wrong = {{1, 9, 90}, {50, 31, 90}, {50, 9, 2001}, {121, -1, -1}};
        for (int[] w : wrong) {
            NightMove x = new NightMove();
            x.convoy(10, 1, 1);
            x.convoy(10, 1, 1);
            Check.due("set", x.set(w[0], w[1], w[2]), false);
            Check.feed(x, "l=480");
            x.rule();
            Check.due("the end stays", x.go(), 1);
            x.settle();
            Check.due("the way stays", x.road(0, 0, 2), 50);
            Check.due("the headway stays", x.road(1, 0, 1), 33);
        }
    }

    /** "40 at first". */
    private static void wayIs40AtFirst() {
        for (int first : new int[] {39, 40}) {
            NightMove x = new NightMove();
            x.thing(0, first, 1, 1);
            x.convoy(0, 1, 1);
            Check.due("there by " + first, x.share(0), first == 40 ? 0 : Edge.NONE);
        }
    }

    /** "3 at first". */
    private static void headwayIs3AtFirst() {
        for (int leaves = 10; leaves <= 15; leaves++) {
            NightMove x = new NightMove();
            x.convoy(10, 1, 1);
            x.convoy(leaves, 1, 1);
            x.settle();
            Check.due("at the bridge", x.road(1, 0, 1), Math.max(33, leaves + 20));
        }
    }

    private static int shareOf(int last, int first, int leaves, int way) {
        NightMove x = new NightMove();
        x.set(way, 3, 480);
        x.thing(last, first, 1, 1);
        x.convoy(leaves, 1, 1);
        return x.share(0);
    }

    /** "A THING can go with a CONVOY that leaves at LAST or behind it". */
    private static void leavesAtLastOrBehind() {
        Check.due("a minute ahead", shareOf(100, 2000, 99, 40), Edge.NONE);
        Check.due("at last", shareOf(100, 2000, 100, 40), 0);
        Check.due("a minute behind", shareOf(100, 2000, 101, 40), 0);
        Check.due("both 0", shareOf(0, 2000, 0, 40), 0);
        Check.due("both 2,000", shareOf(2000, 2000, 2000, 2), Edge.NONE);
    }

    /** "and with WAY minutes more is there by FIRST". */
    private static void thereByFirst() {
        Check.due("a minute too late", shareOf(0, 139, 100, 40), Edge.NONE);
        Check.due("at first", shareOf(0, 140, 100, 40), 0);
        Check.due("a minute ahead", shareOf(0, 141, 100, 40), 0);
        Check.due("the least way", shareOf(1998, 2000, 1998, 2), 0);
        Check.due("the least way, too late", shareOf(1998, 2000, 1999, 2), Edge.NONE);
        Check.due("the greatest way", shareOf(0, 120, 0, 120), 0);
        Check.due("the greatest way, too late", shareOf(0, 119, 0, 120), Edge.NONE);
        Check.due("last is first", shareOf(50, 50, 50, 2), Edge.NONE);
    }

    /** "no CONVOY has more than its ROOM". */
    private static void neverMoreThanRoom() {
        for (int room = 1; room <= 10; room++) {
            NightMove x = new NightMove();
            for (int i = 0; i < 10; i++) {
                x.thing(0, 2000, 1, 1);
            }
            x.convoy(0, room, 200);
            Check.due("room for " + room, x.settle(), 10 - room);
            Check.due("it has " + room, x.road(0, 0, 3), room);
        }
    }

    /** "or its LIMIT". */
    private static void neverMoreThanLimit() {
        int[][] rows = {{199, 4}, {200, 5}, {160, 4}, {159, 3}, {40, 1}, {39, 0}, {1, 0}};
        for (int[] row : rows) {
            NightMove x = new NightMove();
            for (int i = 0; i < 6; i++) {
                x.thing(0, 2000, 40, 1);
            }
            x.convoy(0, 10, row[0]);
            Check.due("a limit of " + row[0], x.settle(), 6 - row[1]);
            Check.due("loads", x.road(0, 0, 4), 40 * row[1]);
        }
        NightMove y = new NightMove();
        y.thing(0, 2000, 1, 1);
        y.convoy(0, 1, 1);
        Check.due("the least load and limit", y.least(), 0);
    }

    /** "COST of the BEST SHARING": nothing at all, all doubled, none doubled. */
    private static void leastOfNoneAndOfAll() {
        NightMove x = new NightMove();
        Check.due("no things", x.least(), 0);
        x.convoy(0, 10, 200);
        Check.due("a convoy and no things", x.least(), 0);
        NightMove y = new NightMove();
        for (int i = 0; i < 10; i++) {
            y.thing(0, 2000, 20, 1000);
            Check.due("all doubled", y.least(), 1000 * (i + 1));
        }
        y.convoy(0, 10, 200);
        Check.due("all ten in one convoy, to its limit", y.least(), 0);
        Check.due("all ten", y.share(9), 0);
    }

    /** "of several .. the one that has a CONVOY rather than DOUBLED": with a cost of 0 too, the first THING first. */
    private static void convoyRatherThanDoubled() {
        NightMove x = new NightMove();
        x.thing(0, 2000, 1, 0);
        Check.due("no convoy", x.share(0), Edge.NONE);
        x.convoy(0, 1, 1);
        Check.due("a convoy", x.share(0), 0);
        x.thing(0, 2000, 1, 0);
        Check.due("the first one", x.share(0), 0);
        Check.due("not the second", x.share(1), Edge.NONE);
        NightMove y = new NightMove();
        y.thing(0, 2000, 3, 4);
        y.thing(0, 2000, 2, 2);
        y.thing(0, 2000, 1, 2);
        y.convoy(0, 2, 3);
        Check.due("one or two, alike in cost", y.least(), 4);
        Check.due("where they first differ", y.share(0), 0);
        Check.due("share(1)", y.share(1), Edge.NONE);
        Check.due("share(2)", y.share(2), Edge.NONE);
    }

    /** "then the lower CONVOY": by number, not by minute; the last thing alone may differ. */
    private static void thenTheLowerConvoy() {
        NightMove x = new NightMove();
        x.thing(0, 2000, 1, 5);
        for (int i = 0; i < 4; i++) {
            x.convoy(40 - 10 * i, 1, 1);
        }
        Check.due("the lowest of four", x.share(0), 0);
        for (int i = 1; i < 4; i++) {
            x.thing(0, 2000, 1, 5);
            Check.due("the next", x.share(i), i);
        }
        x.thing(0, 2000, 1, 5);
        Check.due("a fifth is doubled", x.share(4), Edge.NONE);
        NightMove y = new NightMove();
        for (int i = 0; i < 10; i++) {
            y.thing(0, 2000, 1, 5);
        }
        y.convoy(0, 9, 9);
        y.convoy(0, 10, 200);
        Check.due("nine in the lower", y.share(8), 0);
        Check.due("the tenth", y.share(9), 1);
    }

    /** "-2: no such THING." */
    private static void shareOfNoSuchThing() {
        for (int thing : new int[] {-1, -2, 3, 10, 32, Edge.LOWEST, Edge.HIGHEST}) {
            Edge.refused("share(" + thing + ")", Nights::young, x -> x.share(thing), -2);
            Edge.refused("settled, share(" + thing + ")", Nights::settled, x -> x.share(thing), -2);
        }
        NightMove x = Nights.young();
        Check.due("the first", x.share(0), 1);
        Check.due("the last, doubled", x.share(2), Edge.NONE);
    }

    /** "SETTLED" refuses thing, convoy and set with numbers that were good. */
    private static void settledRefuses() {
        Edge.taken("thing", Nights::young, x -> x.thing(0, 2000, 1, 1), 3);
        Edge.refused("thing", Nights::settled, x -> x.thing(0, 2000, 1, 1), Edge.NONE);
        Edge.taken("convoy", Nights::young, x -> x.convoy(9, 1, 1), 2);
        Edge.refused("convoy", Nights::settled, x -> x.convoy(9, 1, 1), Edge.NONE);
        Edge.taken("set", Nights::young, x -> Edge.yes(x.set(2, 0, 0)), 1);
        Edge.refused("set", Nights::settled, x -> Edge.yes(x.set(2, 0, 0)), 0);
        Edge.refused("set to what it is", Nights::settled, x -> Edge.yes(x.set(30, 5, 300)), 0);
    }

    /** "NONE: it was done." */
    private static void settledOnce() {
        Edge.taken("settle", Nights::young, NightMove::settle, 9);
        Edge.refused("settle again", Nights::settled, NightMove::settle, Edge.NONE);
        NightMove x = Nights.young();
        Check.due("not yet", x.count(3), 0);
        x.settle();
        Check.due("settled", x.count(3), 1);
        x.settle();
        Check.due("still settled", x.count(3), 1);
        Check.due("its cost", x.least(), 9);
    }

    /** "SETTLING: COST": with no things, no convoys, at the last minute. */
    private static void settledWithNothing() {
        NightMove x = new NightMove();
        Check.due("nothing", x.settle(), 0);
        Check.due("again", x.settle(), Edge.NONE);
        NightMove y = Nights.at(2000);
        y.thing(0, 2000, 1, 6);
        Check.due("no convoy", y.settle(), 6);
        NightMove z = Nights.at(2000);
        z.thing(0, 2000, 1, 6);
        z.convoy(5, 1, 1);
        Check.due("a convoy that would have left", z.settle(), 0);
    }

    /** "SETTLING fixes what is BEST then". */
    private static void settlingFixesWhatIsBestThen() {
        NightMove x = new NightMove();
        x.thing(0, 50, 1, 6);
        x.convoy(10, 1, 1);
        x.settle();
        for (int i = 0; i < 60; i++) {
            x.late(0, 200);
        }
        x.thing(0, 2000, 1, 1);
        x.convoy(0, 1, 1);
        x.set(120, 0, 0);
        Check.due("least", x.least(), 0);
        Check.due("share", x.share(0), 0);
        x.tick(500);
        Check.due("least later", x.least(), 0);
        Check.due("share later", x.share(0), 0);
    }
}
