/** Promises 13 to 20: stage, begin, fail, tick, told, back, whole, ready. */
public final class StagesTest {
    public static void main(String[] args) {
        stageBounds();
        noMoreOnceBegun();
        beginning();
        ticking();
        telling();
        points();
        pointsOfOneMinute();
        failing();
        backInOrder();
        backAtOnce();
        safeOnesStay();
        readiness();
        tenStages();
        Check.finish();
    }

    private static void stageBounds() {
        NightMove x = new NightMove();
        int[][] wrong = {
            {0, 0, 0}, {61, 0, 0}, {1, 0, -1}, {1, 0, 61}, {1, 1, 0}, {1, -1, 0}, {1, Integer.MIN_VALUE, 0},
            {Integer.MIN_VALUE, 0, 0}, {Integer.MAX_VALUE, 0, 0}, {1, 0, Integer.MAX_VALUE},
        };
        for (int[] w : wrong) {
            Check.due("stage out of bounds", x.stage(w[0], w[1], w[2], true), -1);
        }
        Check.due("count(4)", x.count(4), 0);
        for (int i = 0; i < 10; i++) {
            Check.due("needs itself", x.stage(1, 1 << i, 0, false), -1);
            Check.due("stage " + i, x.stage(i % 2 == 0 ? 1 : 60, (1 << i) - 1, i % 2 == 0 ? 60 : 0, false), i);
        }
        Check.due("an eleventh", x.stage(1, 0, 0, false), -1);
        Check.due("count(4)", x.count(4), 10);
    }

    private static void noMoreOnceBegun() {
        NightMove x = new NightMove();
        x.stage(5, 0, 2, false);
        x.begin(0);
        Check.due("one runs", x.stage(1, 0, 0, false), -1);
        x.tick(5);
        Check.due("one is done", x.stage(1, 0, 0, false), -1);
        NightMove y = new NightMove();
        y.stage(5, 0, 2, false);
        y.begin(0);
        y.fail(0);
        Check.due("one goes back", y.stage(1, 0, 0, false), -1);
        y.tick(2);
        Check.due("it is as not begun", y.stage(1, 1, 0, false), 1);
    }

    private static void beginning() {
        NightMove x = new NightMove();
        x.stage(5, 0, 2, false);
        x.stage(6, 0, 2, false);
        x.stage(5, 3, 2, false);
        for (int no : new int[] {-1, 3, 10, 32, Integer.MIN_VALUE, Integer.MAX_VALUE}) {
            Check.due("begin(" + no + ")", x.begin(no), false);
            Check.due("fail(" + no + ")", x.fail(no), false);
        }
        Check.due("needs are not done", x.begin(2), false);
        Check.due("begin(0)", x.begin(0), true);
        Check.due("it runs", x.begin(0), false);
        Check.due("begin(1)", x.begin(1), true);
        x.tick(5);
        Check.due("it is done", x.begin(0), false);
        Check.due("one need is not done", x.begin(2), false);
        x.tick(1);
        Check.due("begin(2)", x.begin(2), true);
        x.fail(2);
        for (int i = 0; i < 3; i++) {
            Check.due("something goes back", x.begin(i), false);
        }
        x.tick(5);
        Check.due("still", x.begin(2), false);
        Check.due("still", x.begin(1), false);
        x.tick(1);
        Check.due("all is back", x.begin(1), true);
    }

    private static void ticking() {
        NightMove x = new NightMove();
        for (int no : new int[] {-1, 501, Integer.MIN_VALUE, Integer.MAX_VALUE}) {
            Check.due("tick(" + no + ")", x.tick(no), -1);
        }
        Check.due("tick(0)", x.tick(0), 0);
        Check.due("tick(500)", x.tick(500), 500);
        x.tick(500);
        x.tick(500);
        Check.due("tick(499)", x.tick(499), 1999);
        Check.due("above 2,000", x.tick(2), -1);
        Check.due("now", x.count(0), 1999);
        Check.due("2,000", x.tick(1), 2000);
        Check.due("above 2,000", x.tick(1), -1);
        Check.due("tick(0)", x.tick(0), 2000);
        x.stage(60, 0, 60, false);
        x.begin(0);
        Check.due("done behind the last minute", x.told(0, 2), 2060);
        Check.due("ready", x.ready(), 2060);
        x.fail(0);
        Check.due("whole", x.whole(), 2060);
        Check.due("ready", x.ready(), 2120);
    }

    private static void tells(NightMove x, int stage, int state, int began, int done, int safe) {
        int[] want = {state, began, done, safe};
        for (int what = 0; what < 4; what++) {
            Check.due("told(" + stage + ", " + what + ") at " + x.count(0), x.told(stage, what), want[what]);
        }
    }

    private static void telling() {
        NightMove x = new NightMove();
        x.tick(3);
        x.stage(5, 0, 4, false);
        x.stage(5, 0, 4, false);
        tells(x, 0, 0, -1, -1, 0);
        x.begin(0);
        tells(x, 0, 1, 3, 8, 0);
        x.tick(4);
        tells(x, 0, 1, 3, 8, 0);
        x.tick(1);
        tells(x, 0, 2, 3, 8, 0);
        x.tick(9);
        tells(x, 0, 2, 3, 8, 0);
        x.begin(1);
        x.fail(1);
        tells(x, 0, 3, 3, -1, 0);
        tells(x, 1, 3, 17, -1, 0);
        x.tick(4);
        tells(x, 0, 3, 3, -1, 0);
        tells(x, 1, 0, -1, -1, 0);
        x.tick(4);
        tells(x, 0, 0, -1, -1, 0);
        for (int no : new int[] {-1, 4, Integer.MIN_VALUE, Integer.MAX_VALUE}) {
            Check.due("told(0, " + no + ")", x.told(0, no), -1);
        }
        for (int no : new int[] {-1, 2, 10, Integer.MIN_VALUE, Integer.MAX_VALUE}) {
            Check.due("told(" + no + ", 0)", x.told(no, 0), -1);
        }
    }

    private static void points() {
        NightMove x = new NightMove();
        x.stage(5, 0, 4, false);
        x.stage(9, 0, 4, true);
        x.stage(10, 0, 4, false);
        x.stage(10, 4, 4, true);
        x.begin(0);
        x.begin(1);
        x.begin(2);
        x.tick(8);
        Check.due("no point is done", x.count(6), 0);
        x.tick(20);
        tells(x, 0, 2, 0, 5, 1);
        tells(x, 1, 2, 0, 9, 1);
        tells(x, 2, 2, 0, 10, 0);
        Check.due("count(5)", x.count(5), 3);
        Check.due("count(6)", x.count(6), 2);
        x.begin(3);
        x.tick(10);
        tells(x, 2, 2, 0, 10, 1);
        Check.due("count(6)", x.count(6), 4);
    }

    private static void pointsOfOneMinute() {
        NightMove x = new NightMove();
        x.stage(5, 0, 4, true);
        x.stage(5, 0, 4, false);
        x.stage(3, 0, 4, false);
        x.begin(0);
        x.begin(1);
        x.tick(2);
        x.begin(2);
        x.tick(3);
        Check.due("all of one minute", x.count(6), 3);
    }

    private static void failing() {
        NightMove x = new NightMove();
        x.stage(5, 0, 4, false);
        x.stage(5, 0, 0, false);
        Check.due("not begun", x.fail(0), false);
        x.begin(0);
        x.tick(5);
        Check.due("done", x.fail(0), false);
        x.begin(1);
        Check.due("whole", x.whole(), 5);
        Check.due("back", x.back(), -1);
        Check.due("it runs", x.fail(1), true);
        Check.due("count(9)", x.count(9), 1);
        Check.due("at once", x.told(1, 0), 0);
        Check.due("the next goes back", x.back(), 0);
        Check.due("it goes back", x.fail(0), false);
        Check.due("it is back", x.fail(1), false);
        Check.due("whole", x.whole(), 9);
        x.tick(3);
        Check.due("whole", x.whole(), 9);
        Check.due("back", x.back(), 0);
        x.tick(1);
        Check.due("whole", x.whole(), 9);
        Check.due("back", x.back(), -1);
        x.tick(1);
        Check.due("whole", x.whole(), 10);
        Check.due("count(9)", x.count(9), 1);
    }

    private static void backInOrder() {
        NightMove x = new NightMove();
        x.stage(20, 0, 2, false);
        x.stage(1, 0, 3, false);
        x.stage(20, 0, 5, false);
        x.stage(20, 0, 7, false);
        x.begin(3);
        x.begin(1);
        x.tick(4);
        x.begin(0);
        x.begin(2);
        x.tick(6);
        x.fail(3);
        int[] order = {2, 0, 3, 1};
        int[] ends = {15, 17, 24, 27};
        Check.due("whole", x.whole(), 27);
        for (int i = 0; i < 4; i++) {
            Check.due("goes back", x.back(), order[i]);
            x.tick(ends[i] - 1 - x.count(0));
            Check.due("goes back to the end", x.back(), order[i]);
            Check.due("told", x.told(order[i], 0), 3);
            x.tick(1);
            Check.due("told", x.told(order[i], 0), 0);
        }
        Check.due("back", x.back(), -1);
    }

    private static void backAtOnce() {
        NightMove x = new NightMove();
        x.stage(20, 0, 0, false);
        x.stage(20, 0, 4, false);
        x.stage(20, 0, 0, false);
        x.stage(20, 0, 3, false);
        x.stage(20, 0, 0, false);
        for (int i = 0; i < 5; i++) {
            x.begin(i);
        }
        x.tick(1);
        x.fail(0);
        Check.due("4 at once", x.told(4, 0), 0);
        Check.due("3 goes back", x.back(), 3);
        Check.due("2 waits", x.told(2, 0), 3);
        x.tick(2);
        Check.due("3 goes back", x.back(), 3);
        Check.due("2 waits", x.told(2, 0), 3);
        x.tick(1);
        Check.due("1 goes back", x.back(), 1);
        Check.due("2 with the one ahead of it", x.told(2, 0), 0);
        Check.due("0 waits", x.told(0, 0), 3);
        Check.due("whole", x.whole(), 8);
        x.tick(4);
        Check.due("0 with the one ahead of it", x.told(0, 0), 0);
        NightMove y = new NightMove();
        y.stage(20, 0, 0, false);
        y.begin(0);
        y.fail(0);
        Check.due("all at once", y.back(), -1);
        Check.due("it can begin again", y.begin(0), true);
        y.fail(0);
        Check.due("count(9)", y.count(9), 2);
    }

    private static void safeOnesStay() {
        NightMove x = new NightMove();
        x.stage(5, 0, 9, false);
        x.stage(5, 1, 9, true);
        x.stage(5, 0, 1, false);
        x.stage(5, 2, 2, true);
        x.begin(0);
        x.tick(5);
        x.begin(1);
        x.tick(5);
        x.begin(2);
        x.begin(3);
        x.tick(4);
        x.fail(3);
        Check.due("whole", x.whole(), 17);
        tells(x, 0, 2, 0, 5, 1);
        tells(x, 1, 2, 5, 10, 1);
        Check.due("back", x.back(), 3);
        x.tick(2);
        Check.due("back", x.back(), 2);
        x.tick(1);
        Check.due("count(5)", x.count(5), 2);
        Check.due("ready", x.ready(), 22);
    }

    private static void readiness() {
        NightMove x = new NightMove();
        x.tick(2);
        Check.due("no stages", x.ready(), 2);
        x.stage(10, 0, 1, false);
        x.stage(3, 0, 1, false);
        x.stage(4, 3, 1, false);
        x.stage(20, 2, 1, false);
        Check.due("from now", x.ready(), 25);
        x.tick(1);
        Check.due("from now", x.ready(), 26);
        x.begin(0);
        x.begin(1);
        x.tick(1);
        Check.due("those that run go on", x.ready(), 26);
        x.tick(3);
        Check.due("done ones count no more", x.ready(), 27);
        x.begin(3);
        x.tick(6);
        x.begin(2);
        Check.due("it runs", x.ready(), 27);
        x.fail(2);
        Check.due("behind the end of what goes back", x.ready(), 13 + 4 + 23);
        x.tick(1);
        Check.due("behind the end of what goes back", x.ready(), 13 + 4 + 23);
        x.tick(5);
        Check.due("from now", x.ready(), 19 + 23);
        x.begin(0);
        x.begin(1);
        x.tick(10);
        x.begin(2);
        x.begin(3);
        x.tick(21);
        Check.due("all are done", x.ready(), 50);
    }

    private static void tenStages() {
        NightMove x = new NightMove();
        for (int i = 0; i < 10; i++) {
            x.stage(10 + i, i == 9 ? 511 : 0, 1, i == 9);
        }
        Check.due("ready", x.ready(), 18 + 19);
        for (int i = 0; i < 9; i++) {
            Check.due("begin(" + i + ")", x.begin(i), true);
        }
        x.tick(18);
        Check.due("count(5)", x.count(5), 9);
        x.begin(9);
        Check.due("all ten go back", x.fail(9), true);
        Check.due("whole", x.whole(), 28);
        for (int i = 9; i >= 0; i--) {
            Check.due("back", x.back(), i);
            x.tick(1);
        }
        Check.due("back", x.back(), -1);
        for (int i = 0; i < 9; i++) {
            x.begin(i);
        }
        x.tick(18);
        x.begin(9);
        x.tick(19);
        Check.due("count(5)", x.count(5), 10);
        Check.due("count(6)", x.count(6), 10);
        Check.due("ready", x.ready(), x.count(0));
    }
}
