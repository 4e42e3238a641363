/** Promises 21 to 24: find, close, feed, end. */
public final class TapeTest {
    public static void main(String[] args) {
        faults();
        hundredFaults();
        feeding();
        fullTape();
        cutting();
        Check.finish();
    }

    private static void faults() {
        NightMove x = new NightMove();
        Check.due("find", x.find(), 0);
        Check.due("find", x.find(), 1);
        Check.due("count(7)", x.count(7), 2);
        for (int no : new int[] {-1, 2, 100, Integer.MIN_VALUE, Integer.MAX_VALUE}) {
            Check.due("close(" + no + ")", x.close(no), false);
        }
        Check.due("close(0)", x.close(0), true);
        Check.due("close(0) again", x.close(0), false);
        Check.due("count(7)", x.count(7), 1);
        Check.due("numbers go on", x.find(), 2);
        Check.due("close(2)", x.close(2), true);
        Check.due("close(1)", x.close(1), true);
        Check.due("count(7)", x.count(7), 0);
    }

    private static void hundredFaults() {
        NightMove x = new NightMove();
        for (int i = 0; i < 100; i++) {
            Check.due("find", x.find(), i);
        }
        Check.due("find", x.find(), -1);
        x.close(99);
        Check.due("100 were found", x.find(), -1);
        Check.due("count(7)", x.count(7), 99);
        Check.due("close(100)", x.close(100), false);
    }

    private static void feeding() {
        NightMove x = new NightMove();
        Check.due("nothing but zeros", x.feed(0), 0);
        Check.due("four", x.feed(0x286e3d31), 4);
        Check.due("the highest first, zeros left out", x.feed(0x00320029), 6);
        Check.due("it reads (n=12)", x.fault(), -1);
        Check.due("one", x.feed(0x7c), 7);
        Check.due("a high byte counts", x.feed(0xff000000), 8);
        Check.due("a high byte is none of the letters", x.fault(), 7);
        Check.due("count(8)", x.count(8), 8);
        NightMove y = new NightMove();
        Check.due("four high bytes", y.feed(-1), 4);
        Check.due("fault", y.fault(), 0);
    }

    private static void fullTape() {
        NightMove x = new NightMove();
        for (int i = 1; i <= 24; i++) {
            Check.due("feed", x.feed(0x20202020), 4 * i);
        }
        x.feed(0x20202000);
        Check.due("two more than there is room for", x.feed(0x6c3d0031), -1);
        Check.due("count(8)", x.count(8), 99);
        Check.due("zeros", x.feed(0), 99);
        Check.due("the hundredth", x.feed(0x00200000), 100);
        Check.due("one more", x.feed(1), -1);
        Check.due("zeros", x.feed(0), 100);
        Check.due("fault", x.fault(), 100);
        Check.due("end", x.end(97), true);
        Check.due("to the last byte", x.feed(0x006c3d31), 100);
        Check.due("rule", x.rule(), true);
        Check.due("count(8)", x.count(8), 0);
        Check.due("go", x.go(), 0);
    }

    private static void cutting() {
        NightMove x = new NightMove();
        Check.due("end(0) of none", x.end(0), true);
        Check.due("end(1) of none", x.end(1), false);
        Check.feed(x, "l=12&");
        for (int no : new int[] {-1, 6, 101, Integer.MIN_VALUE, Integer.MAX_VALUE}) {
            Check.due("end(" + no + ")", x.end(no), false);
        }
        Check.due("count(8)", x.count(8), 5);
        Check.due("end(5)", x.end(5), true);
        Check.due("count(8)", x.count(8), 5);
        Check.due("end(4)", x.end(4), true);
        Check.due("count(8)", x.count(8), 4);
        Check.due("fault", x.fault(), -1);
        Check.due("what was cut is gone", x.end(5), false);
        Check.due("end(2)", x.end(2), true);
        Check.due("feed", x.feed('9'), 3);
        Check.due("fault", x.fault(), -1);
    }
}
