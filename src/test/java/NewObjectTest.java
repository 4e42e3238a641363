/** Promise 1 (a new object) and promise 28 (count). */
public final class NewObjectTest {
    public static void main(String[] args) {
        aNewObjectIsEmpty();
        theEndIs480();
        countsFollow();
        objectsAreApart();
        Check.finish();
    }

    private static void aNewObjectIsEmpty() {
        NightMove x = new NightMove();
        for (int what = 0; what <= 9; what++) {
            Check.due("count(" + what + ") of a new object", x.count(what), 0);
        }
        for (int what : new int[] {-1, 10, Integer.MIN_VALUE, Integer.MAX_VALUE}) {
            Check.due("count(" + what + ")", x.count(what), -1);
        }
        Check.due("least()", x.least(), 0);
        Check.due("share(0)", x.share(0), -2);
        Check.due("road", x.road(0, 0, 0), -1);
        Check.due("many", x.many(0, 0, 0), -1);
        Check.due("told", x.told(0, 0), -1);
        Check.due("begin", x.begin(0), false);
        Check.due("fail", x.fail(0), false);
        Check.due("back", x.back(), -1);
        Check.due("whole", x.whole(), 0);
        Check.due("ready", x.ready(), 0);
        Check.due("close", x.close(0), false);
        Check.due("fault", x.fault(), 0);
        Check.due("rule", x.rule(), false);
        Check.due("go", x.go(), 1);
        Check.due("NONE", NightMove.NONE, -1);
    }

    private static void theEndIs480() {
        NightMove x = new NightMove();
        Check.feed(x, "l=480");
        Check.due("rule", x.rule(), true);
        Check.due("go", x.go(), 1);
        x.tick(1);
        Check.due("go a minute on", x.go(), 0);
    }

    private static void countsFollow() {
        NightMove x = new NightMove();
        x.tick(7);
        x.thing(0, 100, 1, 1);
        x.thing(0, 100, 1, 1);
        x.convoy(0, 1, 1);
        x.settle();
        x.stage(1, 0, 0, true);
        x.stage(1, 0, 0, false);
        x.stage(9, 0, 0, false);
        x.begin(0);
        x.begin(1);
        x.tick(1);
        x.begin(2);
        x.fail(2);
        x.find();
        x.find();
        x.find();
        x.close(1);
        x.feed(0x20202020);
        int[] want = {8, 2, 1, 1, 3, 2, 2, 2, 4, 1};
        for (int what = 0; what < want.length; what++) {
            Check.due("count(" + what + ")", x.count(what), want[what]);
        }
    }

    private static void objectsAreApart() {
        NightMove x = new NightMove();
        NightMove y = new NightMove();
        x.thing(0, 0, 40, 1000);
        x.stage(1, 0, 0, false);
        x.find();
        x.tick(5);
        x.feed(0x41);
        x.settle();
        for (int what = 0; what <= 9; what++) {
            Check.due("count(" + what + ") of the other object", y.count(what), 0);
        }
        Check.due("least() of the other object", y.least(), 0);
    }
}
