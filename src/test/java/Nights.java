/** Nights in the midst of things, for calls at the edges. Every call makes a new one; those of one name are alike. */
final class Nights {
    private Nights() {
    }

    /** Minute 7, not settled: 3 things, 2 convoys, stage 0 done, stage 2 runs, two faults open, a rule, half a text. */
    static NightMove young() {
        NightMove x = new NightMove();
        x.set(30, 5, 300);
        x.thing(0, 65, 10, 5);
        x.thing(20, 60, 30, 8);
        x.thing(5, 5, 40, 9);
        x.convoy(40, 1, 35);
        x.convoy(25, 2, 60);
        tellStages(x);
        x.begin(0);
        x.tick(4);
        x.begin(2);
        x.tick(3);
        x.find();
        x.find();
        x.find();
        x.close(1);
        Check.feed(x, "n<99&f=2");
        x.rule();
        Check.feed(x, "d=1|(l");
        return x;
    }

    private static void tellStages(NightMove x) {
        x.stage(4, 0, 3, false);
        x.stage(2, 0, 2, true);
        x.stage(50, 1, 6, false);
        x.stage(5, 2, 1, false);
    }

    /** As young, but four stages are told and none has begun. */
    static NightMove planned() {
        NightMove x = new NightMove();
        x.thing(0, 100, 10, 5);
        x.convoy(40, 1, 35);
        tellStages(x);
        x.tick(7);
        return x;
    }

    /** Minute 9, settled: convoy 0 leaves at 44 (told in 7, 40 at first), convoy 1 at 31 (told in 9, 25 at first). */
    static NightMove settled() {
        NightMove x = young();
        x.settle();
        x.late(0, 4);
        x.tick(2);
        x.late(1, 6);
        return x;
    }

    /** Minute 7: stage 2 goes back (to 13), stage 0 waits to (to 16). */
    static NightMove goingBack() {
        NightMove x = young();
        x.fail(2);
        return x;
    }

    static NightMove withThings(int number) {
        NightMove x = new NightMove();
        for (int i = 0; i < number; i++) {
            x.thing(0, 100 + i, 1 + i, 10 * i);
        }
        x.convoy(3, 2, 9);
        return x;
    }

    static NightMove withConvoys(int number) {
        NightMove x = new NightMove();
        x.thing(0, 100, 5, 7);
        for (int i = 0; i < number; i++) {
            x.convoy(50 + i, 1 + i, 3 + i);
        }
        return x;
    }

    static NightMove withStages(int number) {
        NightMove x = new NightMove();
        for (int i = 0; i < number; i++) {
            x.stage(1 + i, (1 << i) - 1, i, i % 3 == 0);
        }
        return x;
    }

    /** Settled, two convoys that leave at 1,999 and 2,000; the first was late as often. */
    static NightMove withLates(int number) {
        NightMove x = new NightMove();
        x.convoy(1999, 1, 1);
        x.convoy(2000, 1, 1);
        x.settle();
        for (int i = 0; i < number; i++) {
            x.late(0, 1);
        }
        return x;
    }

    static NightMove withFaults(int number) {
        NightMove x = new NightMove();
        for (int i = 0; i < number; i++) {
            x.find();
        }
        return x;
    }

    /** A tape of so many bytes: a test with blanks ahead of it. */
    static NightMove withTape(int number) {
        NightMove x = new NightMove();
        Check.feed(x, " ".repeat(number - 3) + "l=1");
        return x;
    }

    static NightMove at(int minute) {
        NightMove x = new NightMove();
        for (int left = minute; left > 0; left -= 500) {
            x.tick(Math.min(500, left));
        }
        return x;
    }
}
