/** The edges that the document names for promises 8 to 12, a test for each sentence (it stands above the test). */
public final class RoadEdgesTest {
    private static final int[] NOT_THERE = {-1, Edge.LOWEST, Edge.HIGHEST};

    public static void main(String[] args) {
        notSettled();
        lateMinutes();
        lateOfNoSuchConvoy();
        onlyAsItLeavesBehindNow();
        sixtyLatesInAll();
        refusedLatesAreNotCounted();
        roadOfNoSuchConvoy();
        roadOfNoSuchWhat();
        knownFromZeroToNow();
        knownOnTheMinuteItIsTold();
        orderAsToldAtFirst();
        everyOrder();
        halfOfWayCut();
        headwayOrMore();
        hereRoadThere();
        minutesAskedFor();
        thereBehindAllMinutes();
        shortOfAThing();
        placeOfNoSuch();
        lacksOfNoSuch();
        manyOfNoSuch();
        manyOfNone();
        Check.finish();
    }

    /** Minute 9 of Nights.settled: thing 0 and 1 go with convoy 1, thing 2 is doubled. */
    private static NightMove night() {
        return Nights.settled();
    }

    /** "not SETTLED". */
    private static void notSettled() {
        Edge.refused("late", Nights::young, x -> Edge.yes(x.late(0, 5)), 0);
        Edge.taken("late", Nights::settled, x -> Edge.yes(x.late(0, 5)), 1);
        for (int what = 0; what <= 4; what++) {
            int asked = what;
            Edge.refused("road " + what, Nights::young, x -> x.road(0, 0, asked), Edge.NONE);
        }
        Edge.refused("place", Nights::young, x -> x.place(0, 0, 0), Edge.NONE);
        Edge.refused("place of a doubled one", Nights::young, x -> x.place(2, 0, 0), Edge.NONE);
        Edge.refused("lacks", Nights::young, x -> x.lacks(0, 0), Edge.NONE);
        Edge.refused("lacks of a doubled one", Nights::young, x -> x.lacks(2, 0), Edge.NONE);
        Edge.refused("many", Nights::young, x -> x.many(3, 0, 0), Edge.NONE);
        Edge.taken("road", Nights::settled, x -> x.road(0, 0, 0), 40);
        Edge.taken("place", Nights::settled, x -> x.place(0, 0, 0), 0);
        Edge.taken("lacks", Nights::settled, x -> x.lacks(0, 0), 0);
        Edge.taken("many", Nights::settled, x -> x.many(3, 0, 0), 1);
    }

    /** "by minutes more, 1 .. 200". */
    private static void lateMinutes() {
        Edge.bounds("late", RoadEdgesTest::night, (x, n) -> Edge.yes(x.late(0, n)), new int[] {1, 200},
            new int[] {1, 0});
        for (int minutes : new int[] {1, 200}) {
            NightMove x = night();
            x.late(0, minutes);
            Check.due("late by " + minutes, x.road(0, 9, 0), 44 + minutes);
        }
    }

    /** "no such CONVOY". */
    private static void lateOfNoSuchConvoy() {
        for (int convoy : new int[] {-1, 2, 4, 32, Edge.LOWEST, Edge.HIGHEST}) {
            Edge.refused("late(" + convoy + ", 1)", RoadEdgesTest::night, x -> Edge.yes(x.late(convoy, 1)), 0);
        }
        Edge.taken("late(0, 1)", RoadEdgesTest::night, x -> Edge.yes(x.late(0, 1)), 1);
        Edge.taken("late(1, 1)", RoadEdgesTest::night, x -> Edge.yes(x.late(1, 1)), 1);
        NightMove none = new NightMove();
        none.settle();
        Check.due("without convoys", none.late(0, 1), false);
    }

    private static NightMove nightAt(int minute) {
        NightMove x = night();
        x.tick(minute - 9);
        return x;
    }

    /** "only as it LEAVES behind NOW (as known NOW)"; "it has left". */
    private static void onlyAsItLeavesBehindNow() {
        Edge.taken("a minute ahead", () -> nightAt(30), x -> Edge.yes(x.late(1, 1)), 1);
        Edge.refused("now it leaves", () -> nightAt(31), x -> Edge.yes(x.late(1, 1)), 0);
        Edge.refused("it has left", () -> nightAt(32), x -> Edge.yes(x.late(1, 1)), 0);
        Edge.taken("the other has not", () -> nightAt(43), x -> Edge.yes(x.late(0, 1)), 1);
        Edge.refused("the other neither", () -> nightAt(44), x -> Edge.yes(x.late(0, 1)), 0);
        NightMove x = new NightMove();
        x.convoy(0, 1, 1);
        x.convoy(1, 1, 1);
        x.settle();
        Check.due("one of minute 0", x.late(0, 1), false);
        Check.due("one of minute 1", x.late(1, 1), true);
        NightMove y = Nights.at(2000);
        y.convoy(2000, 1, 1);
        y.settle();
        Check.due("one of minute 2,000 at its end", y.late(0, 1), false);
        NightMove z = Nights.at(1999);
        z.convoy(2000, 1, 1);
        z.settle();
        Check.due("ahead of it", z.late(0, 1), true);
        z.tick(1);
        Check.due("it is late", z.late(0, 200), true);
        Check.due("at the last minute", z.road(0, 2000, 0), 2201);
    }

    /** "60 times in all"; "there were 60". */
    private static void sixtyLatesInAll() {
        Edge.taken("the 60th", () -> Nights.withLates(59), x -> Edge.yes(x.late(1, 200)), 1);
        Edge.refused("a 61st", () -> Nights.withLates(60), x -> Edge.yes(x.late(0, 1)), 0);
        Edge.refused("a 61st of another", () -> Nights.withLates(60), x -> Edge.yes(x.late(1, 1)), 0);
        NightMove x = Nights.withLates(60);
        Check.due("all sixty count", x.road(0, 0, 0), 2059);
        NightMove y = new NightMove();
        y.convoy(2000, 1, 1);
        y.settle();
        for (int i = 1; i <= 60; i++) {
            Check.due("late", y.late(0, 200), true);
            Check.due("leaves", y.road(0, 0, 0), 2000 + 200 * i);
        }
        Check.due("a 61st", y.late(0, 200), false);
        Check.due("the latest there is", y.road(0, 0, 2), 14040);
    }

    /** "60 times in all": those that are told, not those that are refused. */
    private static void refusedLatesAreNotCounted() {
        NightMove x = new NightMove();
        x.convoy(0, 1, 1);
        x.convoy(100, 1, 1);
        Check.due("not settled", x.late(1, 1), false);
        x.settle();
        for (int i = 0; i < 60; i++) {
            Check.due("it has left", x.late(0, 1), false);
            Check.due("minutes", x.late(1, 0), false);
            Check.due("no such convoy", x.late(2, 1), false);
        }
        for (int i = 0; i < 60; i++) {
            Check.due("late", x.late(1, 1), true);
        }
        Check.due("a 61st", x.late(1, 1), false);
        Check.due("leaves", x.road(1, 0, 0), 160);
    }

    /** "NONE: .. no such CONVOY". */
    private static void roadOfNoSuchConvoy() {
        for (int convoy : new int[] {-1, 2, 4, 32, Edge.LOWEST, Edge.HIGHEST}) {
            for (int what = 0; what <= 4; what++) {
                int asked = what;
                Edge.refused("road of " + convoy, RoadEdgesTest::night, x -> x.road(convoy, 0, asked), Edge.NONE);
            }
        }
        int[] last = {31, 46, 61, 2, 40};
        int[] first = {44, 59, 74, 0, 0};
        NightMove x = night();
        for (int what = 0; what <= 4; what++) {
            Check.due("road of the last, " + what, x.road(1, 9, what), last[what]);
            Check.due("road of the first, " + what, x.road(0, 9, what), first[what]);
        }
    }

    /** "0 when it LEAVES .. 4 their LOAD. NONE: .. what". */
    private static void roadOfNoSuchWhat() {
        for (int what : new int[] {-1, 5, 32, Edge.LOWEST, Edge.HIGHEST}) {
            Edge.refused("road, what " + what, RoadEdgesTest::night, x -> x.road(0, 0, what), Edge.NONE);
        }
    }

    /** "As known in q (0 .. NOW)". */
    private static void knownFromZeroToNow() {
        for (int q : new int[] {-1, 10, 2000, Edge.LOWEST, Edge.HIGHEST}) {
            for (int what = 0; what <= 4; what++) {
                int asked = what;
                Edge.refused("road in " + q, RoadEdgesTest::night, x -> x.road(0, q, asked), Edge.NONE);
            }
            Edge.refused("place in " + q, RoadEdgesTest::night, x -> x.place(0, 0, q), Edge.NONE);
            Edge.refused("place of a doubled one", RoadEdgesTest::night, x -> x.place(2, 0, q), Edge.NONE);
            Edge.refused("lacks in " + q, RoadEdgesTest::night, x -> x.lacks(0, q), Edge.NONE);
            Edge.refused("lacks of a doubled one", RoadEdgesTest::night, x -> x.lacks(2, q), Edge.NONE);
            Edge.refused("many in " + q, RoadEdgesTest::night, x -> x.many(0, 0, q), Edge.NONE);
        }
        for (int q : new int[] {0, 9}) {
            Edge.taken("place in " + q, RoadEdgesTest::night, x -> x.place(0, 0, q), 0);
            Edge.taken("lacks in " + q, RoadEdgesTest::night, x -> x.lacks(0, q), 0);
            Edge.taken("many in " + q, RoadEdgesTest::night, x -> x.many(0, 0, q), 2);
        }
        NightMove x = Nights.at(2000);
        x.convoy(5, 1, 1);
        x.settle();
        Check.due("in 2,000", x.road(0, 2000, 0), 5);
        Check.due("in 2,001", x.road(0, 2001, 0), Edge.NONE);
        NightMove y = new NightMove();
        y.convoy(5, 1, 1);
        y.settle();
        Check.due("in 0 of minute 0", y.road(0, 0, 0), 5);
        Check.due("in 1 of minute 0", y.road(0, 1, 0), Edge.NONE);
    }

    /** "what was told on MINUTES up to q". */
    private static void knownOnTheMinuteItIsTold() {
        NightMove x = night();
        Check.due("told in 7, known in 6", x.road(0, 6, 0), 40);
        Check.due("told in 7, known in 7", x.road(0, 7, 0), 44);
        Check.due("told in 9, known in 8", x.road(1, 8, 0), 25);
        Check.due("told in 9, known in 9", x.road(1, 9, 0), 31);
        Check.due("there, known in 8", x.road(1, 8, 2), 55);
        Check.due("there, known in 9", x.road(1, 9, 2), 61);
        Check.due("place, known in 8", x.place(0, 30, 8), 1);
        Check.due("place, known in 9", x.place(0, 30, 9), 0);
        Check.due("lacks, known in 8", x.lacks(1, 8), 0);
        Check.due("lacks, known in 9", x.lacks(1, 9), 1);
        Check.due("many, known in 8", x.many(2, 60, 8), 2);
        Check.due("many, known in 9", x.many(2, 60, 9), 0);
        Check.due("things are known ahead", x.road(1, 0, 3), 2);
        Check.due("loads are known ahead", x.road(1, 0, 4), 40);
    }

    /** "in the order of their MINUTES as told at first (of alike ones by number)". */
    private static void orderAsToldAtFirst() {
        NightMove x = new NightMove();
        for (int i = 0; i < 4; i++) {
            x.convoy(2000, 1, 1);
        }
        x.settle();
        for (int i = 0; i < 4; i++) {
            Check.due("alike ones by number", x.road(i, 0, 1), 2020 + 3 * i);
        }
        x.late(0, 200);
        for (int i = 0; i < 4; i++) {
            Check.due("late ones keep their turn", x.road(i, 0, 1), 2220 + 3 * i);
        }
        x.late(3, 199);
        Check.due("the last is late enough already", x.road(3, 0, 1), 2229);
        NightMove y = new NightMove();
        for (int i = 0; i < 4; i++) {
            y.convoy(13 - i, 1, 1);
        }
        y.settle();
        for (int i = 0; i < 4; i++) {
            Check.due("the last told is the first", y.road(i, 0, 1), 30 + 3 * (3 - i));
            Check.due("each leaves when told", y.road(i, 0, 0), 13 - i);
        }
    }

    /** "in the order of their MINUTES as told at first": every order, with alike ones too, in which four can be told. */
    private static void everyOrder() {
        for (int code = 0; code < 256; code++) {
            int[] leaves = {code & 3, code >> 2 & 3, code >> 4 & 3, code >> 6 & 3};
            NightMove x = new NightMove();
            x.set(40, 5, 480);
            for (int minute : leaves) {
                x.convoy(minute, 1, 1);
            }
            x.settle();
            int least = Math.min(Math.min(leaves[0], leaves[1]), Math.min(leaves[2], leaves[3]));
            for (int c = 0; c < 4; c++) {
                int ahead = 0;
                for (int other = 0; other < 4; other++) {
                    ahead += leaves[other] < leaves[c] || leaves[other] == leaves[c] && other < c ? 1 : 0;
                }
                Check.due("at the bridge, " + ahead + " ahead", x.road(c, 0, 1), least + 20 + 5 * ahead);
            }
        }
    }

    /** "half of WAY (cut) behind leaving"; "the rest of WAY behind that they are there". */
    private static void halfOfWayCut() {
        int[][] rows = {{2, 1}, {3, 1}, {4, 2}, {5, 2}, {119, 59}, {120, 60}};
        for (int[] row : rows) {
            NightMove x = new NightMove();
            x.set(row[0], 3, 480);
            x.convoy(0, 1, 1);
            x.convoy(0, 1, 1);
            x.settle();
            Check.due("half of " + row[0], x.road(0, 0, 1), row[1]);
            Check.due("all of " + row[0], x.road(0, 0, 2), row[0]);
            Check.due("the rest of " + row[0], x.road(1, 0, 2) - x.road(1, 0, 1), row[0] - row[1]);
        }
    }

    private static int secondAtBridge(int headway, int leaves) {
        NightMove x = new NightMove();
        x.set(40, headway, 480);
        x.convoy(100, 1, 1);
        x.convoy(leaves, 1, 1);
        x.settle();
        return x.road(1, 0, 1);
    }

    /** "but HEADWAY or more behind the one ahead". */
    private static void headwayOrMore() {
        Check.due("no headway, alike", secondAtBridge(0, 100), 120);
        Check.due("no headway, behind", secondAtBridge(0, 101), 121);
        Check.due("30, alike", secondAtBridge(30, 100), 150);
        Check.due("30, a minute short", secondAtBridge(30, 129), 150);
        Check.due("30, just so", secondAtBridge(30, 130), 150);
        Check.due("30, a minute more", secondAtBridge(30, 131), 151);
        NightMove x = new NightMove();
        x.set(40, 0, 480);
        x.convoy(100, 1, 1);
        x.convoy(101, 1, 1);
        x.settle();
        x.late(0, 200);
        Check.due("none goes by another", x.road(1, 0, 1), 320);
        Check.due("they are there together", x.road(1, 0, 2), 340);
    }

    /** "HERE (0) before its CONVOY LEAVES, on the ROAD (1) from then on, THERE (2) from the MINUTE ..; DOUBLED: 3". */
    private static void hereRoadThere() {
        NightMove x = night();
        int[][] rows = {{0, 0}, {30, 0}, {31, 1}, {32, 1}, {60, 1}, {61, 2}, {62, 2}, {5000, 2}};
        for (int[] row : rows) {
            Check.due("place at " + row[0], x.place(0, row[0], 9), row[1]);
            Check.due("a doubled one at " + row[0], x.place(2, row[0], 9), 3);
            for (int place = 0; place <= 3; place++) {
                int want = place == 3 ? 1 : place == row[1] ? 2 : 0;
                Check.due("many at " + place + " at " + row[0], x.many(place, row[0], 9), want);
            }
        }
        NightMove y = new NightMove();
        y.thing(0, 2, 1, 1);
        y.set(2, 0, 0);
        y.convoy(0, 1, 1);
        y.settle();
        int[] places = {1, 1, 2};
        for (int minute = 0; minute < 3; minute++) {
            Check.due("of minute 0", y.place(0, minute, 0), places[minute]);
        }
    }

    /** "at a MINUTE (0 .. 5,000)". */
    private static void minutesAskedFor() {
        for (int minute : new int[] {-1, 5001, Edge.LOWEST, Edge.HIGHEST}) {
            Edge.refused("place at " + minute, RoadEdgesTest::night, x -> x.place(0, minute, 0), Edge.NONE);
            Edge.refused("a doubled one at " + minute, RoadEdgesTest::night, x -> x.place(2, minute, 0), Edge.NONE);
            for (int place = 0; place <= 3; place++) {
                int asked = place;
                Edge.refused("many at " + minute, RoadEdgesTest::night, x -> x.many(asked, minute, 0), Edge.NONE);
            }
        }
        Edge.taken("place at 0", RoadEdgesTest::night, x -> x.place(0, 0, 0), 0);
        Edge.taken("place at 5,000", RoadEdgesTest::night, x -> x.place(0, 5000, 0), 2);
        Edge.taken("many at 0", RoadEdgesTest::night, x -> x.many(0, 0, 0), 2);
        Edge.taken("many at 5,000", RoadEdgesTest::night, x -> x.many(2, 5000, 0), 2);
    }

    /** "0 .. 5,000": a convoy may leave, and be there, behind all minutes that can be asked for. */
    private static void thereBehindAllMinutes() {
        NightMove x = new NightMove();
        x.thing(0, 2000, 1, 1);
        x.convoy(1960, 1, 1);
        x.settle();
        for (int i = 0; i < 15; i++) {
            x.late(0, 200);
        }
        Check.due("there at 5,000", x.place(0, 5000, 0), 2);
        Check.due("a minute ahead", x.place(0, 4999, 0), 1);
        x.late(0, 1);
        Check.due("there at 5,001", x.place(0, 5000, 0), 1);
        x.late(0, 39);
        Check.due("it leaves at 5,000", x.place(0, 5000, 0), 1);
        x.late(0, 1);
        Check.due("it leaves at 5,001", x.place(0, 5000, 0), 0);
        Check.due("here", x.many(0, 5000, 0), 1);
        Check.due("short", x.lacks(0, 0), 5041 - 2000);
    }

    /** "how many minutes behind FIRST it is THERE (0, if none)". */
    private static void shortOfAThing() {
        int[] firsts = {50, 51, 52, 2000};
        for (int first : firsts) {
            NightMove x = new NightMove();
            x.thing(0, first, 1, 1);
            x.convoy(10, 1, 1);
            x.settle();
            Check.due("at first in time", x.lacks(0, 0), 0);
            x.late(0, 1);
            Check.due("a minute late", x.lacks(0, 0), Math.max(0, 51 - first));
            x.late(0, 2);
            Check.due("three minutes late", x.lacks(0, 0), Math.max(0, 53 - first));
        }
        NightMove y = new NightMove();
        y.thing(0, 50, 1, 1);
        y.thing(0, 50, 1, 1);
        y.convoy(10, 1, 1);
        y.convoy(10, 1, 1);
        y.settle();
        Check.due("the first over the bridge", y.lacks(0, 0), 0);
        Check.due("the second is short by the headway", y.lacks(1, 0), 3);
        NightMove z = night();
        Check.due("doubled ones are not", z.lacks(2, 9), 0);
    }

    /** "NONE: not SETTLED, no such" of a thing. */
    private static void placeOfNoSuch() {
        for (int thing : new int[] {3, 10, 32}) {
            Edge.refused("place of " + thing, RoadEdgesTest::night, x -> x.place(thing, 0, 0), Edge.NONE);
        }
        for (int thing : NOT_THERE) {
            Edge.refused("place of " + thing, RoadEdgesTest::night, x -> x.place(thing, 0, 0), Edge.NONE);
        }
        Edge.taken("place of the last", RoadEdgesTest::night, x -> x.place(2, 0, 0), 3);
    }

    /** "NONE likewise" of lacks. */
    private static void lacksOfNoSuch() {
        for (int thing : new int[] {3, 10, 32}) {
            Edge.refused("lacks of " + thing, RoadEdgesTest::night, x -> x.lacks(thing, 0), Edge.NONE);
        }
        for (int thing : NOT_THERE) {
            Edge.refused("lacks of " + thing, RoadEdgesTest::night, x -> x.lacks(thing, 0), Edge.NONE);
        }
        Edge.taken("lacks of the last", RoadEdgesTest::night, x -> x.lacks(2, 0), 0);
    }

    /** "at a place (0 .. 3)". */
    private static void manyOfNoSuch() {
        for (int place : new int[] {4, 32}) {
            Edge.refused("many at " + place, RoadEdgesTest::night, x -> x.many(place, 0, 0), Edge.NONE);
        }
        for (int place : NOT_THERE) {
            Edge.refused("many at " + place, RoadEdgesTest::night, x -> x.many(place, 0, 0), Edge.NONE);
        }
    }

    /** "How many THINGS": none, and all ten, at each place. */
    private static void manyOfNone() {
        NightMove x = new NightMove();
        x.settle();
        for (int place = 0; place <= 3; place++) {
            Check.due("no things", x.many(place, 0, 0), 0);
        }
        NightMove y = new NightMove();
        NightMove z = new NightMove();
        for (int i = 0; i < 10; i++) {
            y.thing(0, 2000, 20, 1);
            z.thing(0, 2000, 20, 1);
        }
        y.convoy(10, 10, 200);
        y.settle();
        z.settle();
        Check.due("all here", y.many(0, 9, 0), 10);
        Check.due("all on the road", y.many(1, 10, 0), 10);
        Check.due("all there", y.many(2, 50, 0), 10);
        Check.due("all doubled", z.many(3, 50, 0), 10);
        Check.due("all in one convoy", y.road(0, 0, 3), 10);
        Check.due("to its limit", y.road(0, 0, 4), 200);
    }
}
