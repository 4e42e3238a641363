/** Promises 8 to 12: late, road, place, lacks, many. */
public final class RoadTest {
    public static void main(String[] args) {
        notBeforeSettling();
        lateBounds();
        sixtyLates();
        leftOnes();
        whatIsKnown();
        theBridge();
        oddWays();
        loads();
        places();
        shortOnes();
        wrongQuestions();
        Check.finish();
    }

    private static void notBeforeSettling() {
        NightMove x = new NightMove();
        x.thing(0, 100, 1, 1);
        x.convoy(10, 1, 40);
        Check.due("late", x.late(0, 1), false);
        for (int what = 0; what <= 4; what++) {
            Check.due("road", x.road(0, 0, what), -1);
        }
        Check.due("place", x.place(0, 0, 0), -1);
        Check.due("lacks", x.lacks(0, 0), -1);
        Check.due("many", x.many(0, 0, 0), -1);
        x.settle();
        Check.due("road", x.road(0, 0, 0), 10);
        Check.due("place", x.place(0, 0, 0), 0);
        Check.due("lacks", x.lacks(0, 0), 0);
        Check.due("many", x.many(0, 0, 0), 1);
    }

    private static void lateBounds() {
        NightMove x = new NightMove();
        x.convoy(10, 1, 40);
        x.settle();
        for (int minutes : new int[] {0, -1, 201, Integer.MIN_VALUE, Integer.MAX_VALUE}) {
            Check.due("late(0, " + minutes + ")", x.late(0, minutes), false);
        }
        for (int convoy : new int[] {-1, 1, 4, Integer.MIN_VALUE, Integer.MAX_VALUE}) {
            Check.due("late(" + convoy + ", 1)", x.late(convoy, 1), false);
        }
        Check.due("nothing is late", x.road(0, 0, 0), 10);
        Check.due("late(0, 1)", x.late(0, 1), true);
        Check.due("late(0, 200)", x.late(0, 200), true);
        Check.due("road", x.road(0, 0, 0), 211);
    }

    private static void sixtyLates() {
        NightMove x = new NightMove();
        x.convoy(2000, 1, 40);
        x.convoy(2000, 1, 40);
        x.settle();
        for (int i = 0; i < 60; i++) {
            Check.due("late", x.late(i % 2, 200), true);
        }
        Check.due("a 61st", x.late(0, 1), false);
        Check.due("a 61st", x.late(1, 1), false);
        Check.due("road", x.road(0, 0, 0), 8000);
        Check.due("road", x.road(1, 0, 1), 8023);
    }

    private static void leftOnes() {
        NightMove x = new NightMove();
        x.convoy(0, 1, 40);
        x.convoy(10, 1, 40);
        x.settle();
        Check.due("one that leaves now has left", x.late(0, 5), false);
        x.tick(9);
        Check.due("a minute ahead", x.late(1, 2), true);
        x.tick(2);
        Check.due("late ones leave later", x.late(1, 1), true);
        x.tick(2);
        Check.due("now it leaves", x.late(1, 1), false);
        Check.due("road at the end", x.road(1, 13, 0), 13);
    }

    private static void whatIsKnown() {
        NightMove x = new NightMove();
        x.convoy(100, 1, 40);
        x.settle();
        x.tick(5);
        x.late(0, 10);
        x.tick(5);
        x.late(0, 20);
        x.late(0, 3);
        x.tick(5);
        Check.due("known in 0", x.road(0, 0, 0), 100);
        Check.due("known in 4", x.road(0, 4, 0), 100);
        Check.due("known in 5", x.road(0, 5, 0), 110);
        Check.due("known in 9", x.road(0, 9, 0), 110);
        Check.due("known in 10", x.road(0, 10, 0), 133);
        Check.due("known in 15", x.road(0, 15, 0), 133);
        Check.due("not known yet", x.road(0, 16, 0), -1);
        Check.due("not known", x.road(0, -1, 0), -1);
        Check.due("there, known in 4", x.road(0, 4, 2), 140);
        Check.due("there, known in 5", x.road(0, 5, 2), 150);
    }

    private static void theBridge() {
        NightMove x = new NightMove();
        x.set(40, 5, 480);
        x.convoy(30, 1, 40);
        x.convoy(10, 1, 40);
        x.convoy(10, 1, 40);
        x.convoy(32, 1, 40);
        x.settle();
        int[] bridge = {50, 30, 35, 55};
        for (int c = 0; c < 4; c++) {
            Check.due("bridge of " + c, x.road(c, 0, 1), bridge[c]);
            Check.due("there of " + c, x.road(c, 0, 2), bridge[c] + 20);
        }
        x.late(1, 12);
        int[] later = {52, 42, 47, 57};
        for (int c = 0; c < 4; c++) {
            Check.due("bridge of " + c + ", one is late", x.road(c, 0, 1), later[c]);
        }
        x.late(1, 100);
        int[] latest = {152, 142, 147, 157};
        for (int c = 0; c < 4; c++) {
            Check.due("the order stays, bridge of " + c, x.road(c, 0, 1), latest[c]);
        }
        Check.due("they leave all the same", x.road(2, 0, 0), 10);
        NightMove y = new NightMove();
        y.set(40, 0, 480);
        y.convoy(10, 1, 40);
        y.convoy(11, 1, 40);
        y.settle();
        y.late(0, 5);
        Check.due("no headway, none overtakes", y.road(1, 0, 1), 35);
        Check.due("no headway", y.road(0, 0, 1), 35);
        NightMove z = new NightMove();
        z.convoy(10, 1, 40);
        z.convoy(10, 1, 40);
        z.settle();
        Check.due("headway at first", z.road(1, 0, 1) - z.road(0, 0, 1), 3);
    }

    private static void oddWays() {
        NightMove x = new NightMove();
        x.set(7, 30, 480);
        x.convoy(10, 1, 40);
        x.convoy(20, 1, 40);
        x.settle();
        Check.due("half of 7", x.road(0, 0, 1), 13);
        Check.due("the rest of 7", x.road(0, 0, 2), 17);
        Check.due("behind it", x.road(1, 0, 1), 43);
        Check.due("behind it", x.road(1, 0, 2), 47);
    }

    private static void loads() {
        NightMove x = new NightMove();
        x.thing(0, 100, 7, 1);
        x.thing(0, 100, 40, 1);
        x.thing(0, 100, 9, 9);
        x.thing(0, 100, 9, 0);
        x.convoy(10, 2, 47);
        x.convoy(10, 1, 9);
        x.convoy(99, 1, 9);
        x.settle();
        int[] number = {2, 1, 0};
        int[] load = {47, 9, 0};
        for (int c = 0; c < 3; c++) {
            Check.due("things of " + c, x.road(c, 0, 3), number[c]);
            Check.due("load of " + c, x.road(c, 0, 4), load[c]);
        }
    }

    private static void places() {
        NightMove x = new NightMove();
        x.thing(0, 100, 1, 1);
        x.thing(0, 1, 1, 1);
        x.convoy(10, 2, 40);
        x.settle();
        int[][] rows = {{0, 0}, {9, 0}, {10, 1}, {49, 1}, {50, 2}, {5000, 2}};
        for (int[] row : rows) {
            Check.due("place at " + row[0], x.place(0, row[0], 0), row[1]);
            Check.due("place of a doubled one", x.place(1, row[0], 0), 3);
            for (int place = 0; place < 4; place++) {
                int want = (place == row[1] ? 1 : 0) + (place == 3 ? 1 : 0);
                Check.due("many(" + place + ")", x.many(place, row[0], 0), want);
            }
        }
        x.tick(5);
        x.late(0, 20);
        Check.due("as known in 4", x.place(0, 29, 4), 1);
        Check.due("as known in 5", x.place(0, 29, 5), 0);
        Check.due("as known in 4", x.many(2, 50, 4), 1);
        Check.due("as known in 5", x.many(2, 50, 5), 0);
    }

    private static void shortOnes() {
        NightMove x = new NightMove();
        x.thing(0, 50, 1, 1);
        x.thing(0, 55, 1, 1);
        x.thing(0, 1, 1, 1);
        x.convoy(10, 2, 40);
        x.settle();
        Check.due("lacks", x.lacks(0, 0), 0);
        x.tick(1);
        x.late(0, 1);
        Check.due("a minute short", x.lacks(0, 1), 1);
        Check.due("not known then", x.lacks(0, 0), 0);
        Check.due("in time", x.lacks(1, 1), 0);
        x.late(0, 9);
        Check.due("ten short", x.lacks(0, 1), 10);
        Check.due("five short", x.lacks(1, 1), 5);
        Check.due("doubled ones never are", x.lacks(2, 1), 0);
    }

    private static void wrongQuestions() {
        NightMove x = new NightMove();
        x.thing(0, 100, 1, 1);
        x.convoy(10, 1, 40);
        x.settle();
        x.tick(3);
        for (int no : new int[] {-1, 1, 10, Integer.MIN_VALUE, Integer.MAX_VALUE}) {
            Check.due("road of none", x.road(no, 0, 0), -1);
            Check.due("place of none", x.place(no, 0, 0), -1);
            Check.due("lacks of none", x.lacks(no, 0), -1);
        }
        for (int no : new int[] {-1, 4, Integer.MIN_VALUE, Integer.MAX_VALUE}) {
            Check.due("many at none", x.many(no, 0, 0), -1);
            Check.due("in none", x.road(0, no, 0), -1);
            Check.due("in none", x.place(0, 0, no), -1);
            Check.due("in none", x.lacks(0, no), -1);
            Check.due("in none", x.many(0, 0, no), -1);
        }
        for (int no : new int[] {-1, 5, Integer.MIN_VALUE, Integer.MAX_VALUE}) {
            Check.due("road, what", x.road(0, 0, no), -1);
        }
        for (int no : new int[] {-1, 5001, Integer.MIN_VALUE, Integer.MAX_VALUE}) {
            Check.due("place, minute", x.place(0, no, 0), -1);
            Check.due("many, minute", x.many(0, no, 0), -1);
        }
        Check.due("known now", x.road(0, 3, 0), 10);
    }
}
