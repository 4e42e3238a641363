/** The edges that the document names for promises 13 to 20, a test for each sentence (it stands above the test). */
public final class StagesEdgesTest {
    private static final int[] NUMBER_4 = {4, Edge.NONE};

    public static void main(String[] args) {
        tenStages();
        minutesBounds();
        backBounds();
        needsToldAhead();
        needsOfTheFirstAndTheTenth();
        someStageHasBegun();
        refusedBeginIsNone();
        beginOfNoSuchStage();
        beginBehindItsNeeds();
        beginAsNothingGoesBack();
        beginOfOneThatRunsOrIsDone();
        doneAtThatMinute();
        safeAsAPointIsDone();
        ofOneMinuteAllOfThem();
        aLongTickIsAsMinutes();
        failOfNoSuchStage();
        failOfOneThatDoesNotRun();
        safeOnesStay();
        lastBegunGoesBackFirst();
        eachForItsMinutesBack();
        withNoMinutesBackAtOnce();
        asNotBegun();
        tickBounds();
        nowIs2000AtMost();
        toldOfOthers();
        toldNoneOfNotBegun();
        backAndWholeOfNothing();
        readyOfNoneAndOfAll();
        readyBehindWhatGoesBack();
        readyBehindTheLastMinute();
        Check.finish();
    }

    private static void tells(NightMove x, int stage, int... want) {
        for (int what = 0; what < 4; what++) {
            Check.due("told(" + stage + ", " + what + ") at " + x.count(0), x.told(stage, what), want[what]);
        }
    }

    /** "STAGES (10 at most)"; "NONE: there are ten". */
    private static void tenStages() {
        Edge.taken("a tenth", () -> Nights.withStages(9), x -> x.stage(1, 0, 0, false), 9);
        Edge.refused("an eleventh", () -> Nights.withStages(10), x -> x.stage(1, 0, 0, false), Edge.NONE);
        Edge.refused("an eleventh with needs", () -> Nights.withStages(10), x -> x.stage(1, 1023, 0, true), Edge.NONE);
        NightMove x = Nights.withStages(10);
        x.stage(60, 0, 0, false);
        Check.due("ten", x.count(4), 10);
        Check.due("no eleventh", x.told(10, 0), Edge.NONE);
        Check.due("none to begin", x.begin(10), false);
        Check.due("all ten one behind the other", x.ready(), 55);
    }

    /** "minutes (1 .. 60)". */
    private static void minutesBounds() {
        Edge.bounds("minutes", Nights::planned, (x, n) -> x.stage(n, 0, 0, false), new int[] {1, 60}, NUMBER_4);
    }

    /** "minutes BACK (0 .. 60)". */
    private static void backBounds() {
        Edge.bounds("back", Nights::planned, (x, n) -> x.stage(1, 0, n, false), new int[] {0, 60}, NUMBER_4);
        NightMove x = new NightMove();
        x.stage(1, 0, 60, false);
        x.begin(0);
        x.fail(0);
        Check.due("sixty minutes back", x.whole(), 60);
        x.tick(59);
        Check.due("the last of them", x.back(), 0);
        x.tick(1);
        Check.due("over", x.back(), Edge.NONE);
    }

    /** "NEEDS (bits of STAGES told ahead)"; "NEEDS that are none". */
    private static void needsToldAhead() {
        Edge.bounds("needs", Nights::planned, (x, n) -> x.stage(1, n, 0, false), new int[] {0, 15}, NUMBER_4);
        for (int bit = 0; bit < 32; bit++) {
            int needs = 1 << bit;
            if (bit < 4) {
                Edge.taken("need " + bit, Nights::planned, x -> x.stage(1, needs, 0, false), 4);
            } else {
                Edge.refused("need " + bit, Nights::planned, x -> x.stage(1, needs, 0, false), Edge.NONE);
                Edge.refused("need 0 and " + bit, Nights::planned, x -> x.stage(1, needs | 1, 0, true), Edge.NONE);
            }
        }
    }

    /** "STAGES told ahead": the first has none, the tenth has nine. */
    private static void needsOfTheFirstAndTheTenth() {
        Edge.bounds("needs of the first", NightMove::new, (x, n) -> x.stage(1, n, 0, false), new int[] {0, 0},
            new int[] {0, Edge.NONE});
        Edge.bounds("needs of the tenth", () -> Nights.withStages(9), (x, n) -> x.stage(1, n, 0, false),
            new int[] {0, 511}, new int[] {9, Edge.NONE});
        NightMove x = new NightMove();
        for (int i = 0; i < 9; i++) {
            x.stage(1 + i, 0, 0, false);
        }
        x.stage(1, 511, 0, false);
        for (int i = 0; i < 9; i++) {
            x.begin(i);
        }
        x.tick(8);
        Check.due("eight of nine are done", x.begin(9), false);
        x.tick(1);
        Check.due("all nine are", x.begin(9), true);
    }

    private static NightMove begun(int minutes) {
        NightMove x = Nights.planned();
        x.begin(1);
        x.tick(minutes);
        return x;
    }

    private static NightMove takenBack(int minutes) {
        NightMove x = begun(1);
        x.fail(1);
        x.tick(minutes);
        return x;
    }

    /** "some STAGE has begun": it runs, it is done, it goes back; at the end of that it is as not begun. */
    private static void someStageHasBegun() {
        Edge.taken("none has", Nights::planned, x -> x.stage(1, 0, 0, false), 4);
        Edge.refused("one runs", () -> begun(0), x -> x.stage(1, 0, 0, false), Edge.NONE);
        Edge.refused("one is done", () -> begun(2), x -> x.stage(1, 0, 0, false), Edge.NONE);
        Edge.refused("one goes back", () -> takenBack(0), x -> x.stage(1, 0, 0, false), Edge.NONE);
        Edge.refused("it still does", () -> takenBack(1), x -> x.stage(1, 0, 0, false), Edge.NONE);
        Edge.taken("it is as not begun", () -> takenBack(2), x -> x.stage(1, 0, 0, false), 4);
    }

    /** "some STAGE has begun": one whose beginning was refused has not. */
    private static void refusedBeginIsNone() {
        NightMove x = Nights.planned();
        Check.due("its needs are not done", x.begin(2), false);
        Check.due("no such one", x.begin(4), false);
        Check.due("stage", x.stage(1, 0, 0, false), 4);
    }

    /** "False: no such one". */
    private static void beginOfNoSuchStage() {
        for (int stage : new int[] {-1, 4, 10, 32, 33, Edge.LOWEST, Edge.HIGHEST}) {
            Edge.refused("begin(" + stage + ")", Nights::planned, x -> Edge.yes(x.begin(stage)), 0);
            Edge.refused("begin(" + stage + ")", Nights::young, x -> Edge.yes(x.begin(stage)), 0);
        }
        Edge.taken("the first", Nights::planned, x -> Edge.yes(x.begin(0)), 1);
        Edge.taken("the last, with what it needs done", () -> begun(2), x -> Edge.yes(x.begin(3)), 1);
    }

    /** "A STAGE can begin as all its NEEDS are DONE": not as they run, but on the minute at which they are. */
    private static void beginBehindItsNeeds() {
        Edge.refused("not begun", Nights::planned, x -> Edge.yes(x.begin(3)), 0);
        Edge.refused("it runs", () -> begun(0), x -> Edge.yes(x.begin(3)), 0);
        Edge.refused("its last minute", () -> begun(1), x -> Edge.yes(x.begin(3)), 0);
        Edge.taken("done", () -> begun(2), x -> Edge.yes(x.begin(3)), 1);
        Edge.refused("another is done", () -> begun(2), x -> Edge.yes(x.begin(2)), 0);
        Edge.refused("it goes back", () -> takenBack(0), x -> Edge.yes(x.begin(3)), 0);
        Edge.refused("it was taken back", () -> takenBack(2), x -> Edge.yes(x.begin(3)), 0);
    }

    /** "and nothing goes BACK": to the last minute of it. */
    private static void beginAsNothingGoesBack() {
        for (int minutes : new int[] {0, 5, 6, 8}) {
            for (int stage = 0; stage < 4; stage++) {
                int asked = stage;
                Edge.refused("begin, something goes back", () -> backFor(minutes), x -> Edge.yes(x.begin(asked)), 0);
            }
        }
        Edge.taken("all is back", () -> backFor(9), x -> Edge.yes(x.begin(0)), 1);
        Edge.taken("all is back", () -> backFor(9), x -> Edge.yes(x.begin(1)), 1);
    }

    private static NightMove backFor(int minutes) {
        NightMove x = Nights.goingBack();
        x.tick(minutes);
        return x;
    }

    /** "it RUNS, or is DONE". */
    private static void beginOfOneThatRunsOrIsDone() {
        Edge.refused("it runs", Nights::young, x -> Edge.yes(x.begin(2)), 0);
        Edge.refused("it is done", Nights::young, x -> Edge.yes(x.begin(0)), 0);
        Edge.refused("it is done and safe", () -> begun(2), x -> Edge.yes(x.begin(1)), 0);
        NightMove x = Nights.young();
        x.begin(2);
        x.begin(0);
        tells(x, 2, 1, 4, 54, 0);
        tells(x, 0, 2, 0, 4, 0);
    }

    /** "it RUNS for its minutes, and is DONE at that MINUTE". */
    private static void doneAtThatMinute() {
        for (int minutes : new int[] {1, 2, 59, 60}) {
            NightMove x = new NightMove();
            x.stage(minutes, 0, 0, false);
            x.begin(0);
            x.tick(0);
            tells(x, 0, 1, 0, minutes, 0);
            x.tick(minutes - 1);
            tells(x, 0, 1, 0, minutes, 0);
            Check.due("none is done", x.count(5), 0);
            x.tick(1);
            tells(x, 0, 2, 0, minutes, 0);
            Check.due("one is done", x.count(5), 1);
            x.tick(500);
            tells(x, 0, 2, 0, minutes, 0);
        }
    }

    /** Stage 1, a POINT, is done at 10, stage 0 at the minute told; both begin at 0 and the night goes on to 20. */
    private static NightMove withPointAt10(int minutes, int step) {
        NightMove x = new NightMove();
        x.stage(minutes, 0, 5, false);
        x.stage(10, 0, 5, true);
        x.begin(0);
        x.begin(1);
        for (int now = 0; now < 20; now += step) {
            x.tick(step);
        }
        return x;
    }

    /** "As a POINT is DONE all that is DONE then is SAFE". */
    private static void safeAsAPointIsDone() {
        for (int step : new int[] {1, 2, 5, 10, 20}) {
            tells(withPointAt10(1, step), 0, 2, 0, 1, 1);
            tells(withPointAt10(9, step), 0, 2, 0, 9, 1);
            tells(withPointAt10(11, step), 0, 2, 0, 11, 0);
            tells(withPointAt10(11, step), 1, 2, 0, 10, 1);
            tells(withPointAt10(60, step), 0, 1, 0, 60, 0);
            Check.due("the point is safe itself", withPointAt10(60, step).count(6), 1);
        }
        NightMove x = new NightMove();
        x.stage(10, 0, 5, true);
        x.begin(0);
        x.tick(9);
        Check.due("a minute ahead of it", x.count(6), 0);
        x.tick(1);
        Check.due("as it is done", x.count(6), 1);
    }

    /** "(of one MINUTE: all of them)": whichever number is the point. */
    private static void ofOneMinuteAllOfThem() {
        for (int step : new int[] {1, 10, 20}) {
            tells(withPointAt10(10, step), 0, 2, 0, 10, 1);
        }
        NightMove x = new NightMove();
        x.stage(5, 0, 0, true);
        for (int i = 1; i < 10; i++) {
            x.stage(5, 0, 0, false);
        }
        for (int i = 0; i < 10; i++) {
            x.begin(i);
        }
        x.tick(5);
        Check.due("all ten", x.count(6), 10);
        NightMove y = new NightMove();
        for (int i = 0; i < 10; i++) {
            y.stage(5, 0, 0, false);
        }
        for (int i = 0; i < 10; i++) {
            y.begin(i);
        }
        y.tick(5);
        Check.due("no point, none is safe", y.count(6), 0);
        Check.due("all are done", y.count(5), 10);
    }

    /** "n MINUTES": points and ends of what goes back within one tick come as in single minutes. */
    private static void aLongTickIsAsMinutes() {
        for (int step : new int[] {1, 3, 9}) {
            NightMove x = Nights.goingBack();
            for (int passed = 0; passed < 9; passed += step) {
                Check.due("goes back", x.back(), passed < 6 ? 2 : 0);
                x.tick(step);
            }
            Check.due("all is back", x.back(), Edge.NONE);
            Check.due("none is done", x.count(5), 0);
        }
        NightMove y = new NightMove();
        y.stage(10, 0, 1, true);
        y.stage(20, 0, 1, false);
        y.stage(30, 0, 1, true);
        y.stage(31, 0, 1, false);
        for (int i = 0; i < 4; i++) {
            y.begin(i);
        }
        y.tick(500);
        Check.due("the later of two points", y.count(6), 3);
        tells(y, 3, 2, 0, 31, 0);
    }

    /** "False: no such STAGE". */
    private static void failOfNoSuchStage() {
        for (int stage : new int[] {-1, 4, 10, 32, 34, Edge.LOWEST, Edge.HIGHEST}) {
            Edge.refused("fail(" + stage + ")", Nights::young, x -> Edge.yes(x.fail(stage)), 0);
        }
        Edge.taken("fail(2)", Nights::young, x -> Edge.yes(x.fail(2)), 1);
    }

    /** "it does not RUN". */
    private static void failOfOneThatDoesNotRun() {
        Edge.refused("not begun", Nights::young, x -> Edge.yes(x.fail(1)), 0);
        Edge.refused("done", Nights::young, x -> Edge.yes(x.fail(0)), 0);
        Edge.refused("done and safe", () -> begun(2), x -> Edge.yes(x.fail(1)), 0);
        Edge.refused("goes back", Nights::goingBack, x -> Edge.yes(x.fail(2)), 0);
        Edge.refused("waits to go back", Nights::goingBack, x -> Edge.yes(x.fail(0)), 0);
        Edge.refused("was taken back", () -> backFor(9), x -> Edge.yes(x.fail(2)), 0);
        Edge.taken("its first minute", () -> begun(0), x -> Edge.yes(x.fail(1)), 1);
        Edge.taken("its last minute", () -> begun(1), x -> Edge.yes(x.fail(1)), 1);
        NightMove x = Nights.young();
        x.fail(1);
        x.fail(0);
        x.fail(9);
        Check.due("refused ones are not counted", x.count(9), 0);
        x.fail(2);
        Check.due("one failed", x.count(9), 1);
        x.fail(2);
        Check.due("still one", x.count(9), 1);
    }

    /** "all that RUNS or is DONE and not SAFE goes BACK". */
    private static void safeOnesStay() {
        NightMove x = new NightMove();
        x.stage(5, 0, 9, true);
        x.stage(6, 0, 9, false);
        x.stage(60, 0, 9, false);
        x.stage(60, 0, 9, false);
        x.stage(60, 0, 9, false);
        for (int i = 0; i < 4; i++) {
            x.begin(i);
        }
        x.tick(6);
        x.fail(2);
        tells(x, 0, 2, 0, 5, 1);
        tells(x, 1, 3, 0, -1, 0);
        tells(x, 2, 3, 0, -1, 0);
        tells(x, 3, 3, 0, -1, 0);
        tells(x, 4, 0, -1, -1, 0);
        Check.due("three of nine minutes", x.whole(), 6 + 27);
        x.tick(500);
        Check.due("the safe one alone", x.count(5), 1);
        Check.due("the safe one alone", x.count(6), 1);
    }

    /** "the one that began last first (of one MINUTE the greater number first)". */
    private static void lastBegunGoesBackFirst() {
        NightMove x = new NightMove();
        for (int i = 0; i < 4; i++) {
            x.stage(60, 0, 1, false);
        }
        x.begin(3);
        x.tick(1);
        x.begin(2);
        x.begin(0);
        x.tick(1);
        x.begin(1);
        x.fail(3);
        for (int stage : new int[] {1, 2, 0, 3}) {
            Check.due("goes back", x.back(), stage);
            x.tick(1);
        }
        Check.due("none", x.back(), Edge.NONE);
        NightMove y = Nights.withStages(0);
        for (int i = 0; i < 10; i++) {
            y.stage(60, 0, 1, false);
            Check.due("number", y.count(4), i + 1);
        }
        for (int i = 0; i < 10; i++) {
            y.begin((i + 5) % 10);
        }
        y.fail(0);
        for (int i = 9; i >= 0; i--) {
            Check.due("the greater number first", y.back(), i);
            y.tick(1);
        }
    }

    /** "one behind the other .. each for its minutes BACK": ten of sixty. */
    private static void eachForItsMinutesBack() {
        NightMove x = new NightMove();
        for (int i = 0; i < 10; i++) {
            x.stage(60, 0, 60, false);
        }
        for (int i = 0; i < 10; i++) {
            x.begin(i);
        }
        x.fail(9);
        Check.due("ten hours", x.whole(), 600);
        for (int i = 9; i >= 0; i--) {
            x.tick(59);
            Check.due("its last minute", x.back(), i);
            Check.due("it still goes back", x.told(i, 0), 3);
            Check.due("whole", x.whole(), 600);
            x.tick(1);
            Check.due("it is back", x.told(i, 0), 0);
            Check.due("the next", x.back(), i - 1);
        }
        Check.due("whole", x.whole(), 600);
    }

    /** "(With 0 minutes BACK at once, with the one ahead of it.)" */
    private static void withNoMinutesBackAtOnce() {
        NightMove x = new NightMove();
        for (int i = 0; i < 10; i++) {
            x.stage(60, 0, 0, false);
        }
        for (int i = 0; i < 10; i++) {
            x.begin(i);
        }
        Check.due("all at once", x.fail(5), true);
        Check.due("none goes back", x.back(), Edge.NONE);
        Check.due("whole now", x.whole(), 0);
        for (int i = 0; i < 10; i++) {
            tells(x, i, 0, -1, -1, 0);
        }
        Check.due("it begins again at once", x.begin(5), true);
        NightMove y = new NightMove();
        y.stage(60, 0, 0, false);
        y.stage(60, 0, 1, false);
        y.stage(60, 0, 0, false);
        for (int i = 0; i < 3; i++) {
            y.begin(i);
        }
        y.fail(1);
        Check.due("the first at once", y.told(2, 0), 0);
        Check.due("the second goes back", y.back(), 1);
        Check.due("the third waits", y.told(0, 0), 3);
        y.tick(0);
        Check.due("no minute has passed", y.told(0, 0), 3);
        y.tick(1);
        Check.due("with the one ahead of it", y.told(0, 0), 0);
        Check.due("none goes back", y.back(), Edge.NONE);
    }

    /** "at the end of each it is as not begun". */
    private static void asNotBegun() {
        NightMove x = backFor(6);
        tells(x, 2, 0, -1, -1, 0);
        tells(x, 0, 3, 0, -1, 0);
        x.tick(3);
        tells(x, 0, 0, -1, -1, 0);
        Check.due("its needs are gone", x.begin(2), false);
        x.begin(0);
        tells(x, 0, 1, 16, 20, 0);
        x.fail(0);
        Check.due("it fails again", x.count(9), 2);
        Check.due("whole", x.whole(), 19);
    }

    /** "n MINUTES (0 .. 500)"; "NONE: n". */
    private static void tickBounds() {
        Edge.taken("tick(0)", Nights::young, x -> x.tick(0), 7);
        Edge.taken("tick(1)", Nights::young, x -> x.tick(1), 8);
        Edge.taken("tick(500)", Nights::young, x -> x.tick(500), 507);
        for (int n : new int[] {-1, 501, -500, 2000, Edge.LOWEST, Edge.HIGHEST}) {
            Edge.refused("tick(" + n + ")", Nights::young, x -> x.tick(n), Edge.NONE);
            Edge.refused("going back, tick(" + n + ")", Nights::goingBack, x -> x.tick(n), Edge.NONE);
        }
    }

    /** "NOW is 0 at first, 2,000 at most"; "NOW would be above 2,000". */
    private static void nowIs2000AtMost() {
        Edge.taken("to 2,000", () -> Nights.at(1500), x -> x.tick(500), 2000);
        Edge.refused("above 2,000", () -> Nights.at(1501), x -> x.tick(500), Edge.NONE);
        Edge.taken("to 2,000", () -> Nights.at(1501), x -> x.tick(499), 2000);
        Edge.taken("to 2,000", () -> Nights.at(1999), x -> x.tick(1), 2000);
        Edge.refused("above 2,000", () -> Nights.at(1999), x -> x.tick(2), Edge.NONE);
        Edge.taken("at 2,000", () -> Nights.at(2000), x -> x.tick(0), 2000);
        Edge.refused("above 2,000", () -> Nights.at(2000), x -> x.tick(1), Edge.NONE);
        Edge.refused("far above", () -> Nights.at(2000), x -> x.tick(Edge.HIGHEST), Edge.NONE);
        NightMove x = Nights.at(1999);
        x.stage(2, 0, 2, true);
        x.begin(0);
        x.tick(2);
        Check.due("what was refused did not run", x.told(0, 0), 1);
        x.tick(1);
        Check.due("it is never done", x.told(0, 0), 1);
        Check.due("it would be", x.told(0, 2), 2001);
    }

    /** "NONE for others." */
    private static void toldOfOthers() {
        for (int stage : new int[] {-1, 4, 10, 32, Edge.LOWEST, Edge.HIGHEST}) {
            for (int what = 0; what < 4; what++) {
                int asked = what;
                Edge.refused("told(" + stage + ")", Nights::young, x -> x.told(stage, asked), Edge.NONE);
            }
        }
        for (int what : new int[] {-1, 4, 32, Edge.LOWEST, Edge.HIGHEST}) {
            Edge.refused("told(0, " + what + ")", Nights::young, x -> x.told(0, what), Edge.NONE);
        }
        Edge.refused("neither", Nights::young, x -> x.told(-1, -1), Edge.NONE);
        Edge.taken("the last stage", Nights::young, x -> x.told(3, 0), 0);
        Edge.taken("the last what", Nights::young, x -> x.told(3, 3), 0);
    }

    /** "1 the MINUTE at which it began (NONE), 2 .. (NONE: not begun, or BACK)". */
    private static void toldNoneOfNotBegun() {
        NightMove x = Nights.goingBack();
        tells(x, 1, 0, -1, -1, 0);
        tells(x, 2, 3, 4, -1, 0);
        tells(x, 0, 3, 0, -1, 0);
        NightMove y = Nights.at(2000);
        y.stage(60, 0, 0, false);
        y.begin(0);
        tells(y, 0, 1, 2000, 2060, 0);
    }

    /** "The STAGE that goes BACK now. NONE: none."; "(NOW: nothing does)". */
    private static void backAndWholeOfNothing() {
        Edge.taken("back", Nights::young, NightMove::back, Edge.NONE);
        Edge.taken("whole", Nights::young, NightMove::whole, 7);
        Edge.taken("back", Nights::goingBack, NightMove::back, 2);
        Edge.taken("whole", Nights::goingBack, NightMove::whole, 16);
        int[][] rows = {{0, 2, 16}, {5, 2, 16}, {6, 0, 16}, {8, 0, 16}, {9, -1, 16}, {10, -1, 17}};
        for (int[] row : rows) {
            Edge.taken("back behind " + row[0], () -> backFor(row[0]), NightMove::back, row[1]);
            Edge.taken("whole behind " + row[0], () -> backFor(row[0]), NightMove::whole, row[2]);
        }
        Edge.taken("whole at 2,000", () -> Nights.at(2000), NightMove::whole, 2000);
    }

    /** "READY (NOW, if all are DONE, or there are none)". */
    private static void readyOfNoneAndOfAll() {
        Edge.taken("none at 0", NightMove::new, NightMove::ready, 0);
        Edge.taken("none at 2,000", () -> Nights.at(2000), NightMove::ready, 2000);
        NightMove x = new NightMove();
        x.stage(1, 0, 0, false);
        x.stage(2, 0, 0, false);
        Check.due("the longer", x.ready(), 2);
        x.begin(0);
        x.begin(1);
        x.tick(1);
        Check.due("one runs its last minute", x.ready(), 2);
        x.tick(1);
        Check.due("all are done now", x.ready(), 2);
        x.tick(1);
        Check.due("all are done", x.ready(), 3);
    }

    /** "from NOW on (behind the end of what goes BACK)". */
    private static void readyBehindWhatGoesBack() {
        Edge.taken("as it runs", Nights::young, NightMove::ready, 54);
        Edge.taken("behind 16", Nights::goingBack, NightMove::ready, 16 + 54);
        Edge.taken("its last minute", () -> backFor(8), NightMove::ready, 16 + 54);
        Edge.taken("all is back", () -> backFor(9), NightMove::ready, 16 + 54);
        Edge.taken("a minute on", () -> backFor(10), NightMove::ready, 17 + 54);
    }

    /** "the least MINUTE": it may lie behind 2,000. */
    private static void readyBehindTheLastMinute() {
        NightMove x = Nights.at(2000);
        for (int i = 0; i < 10; i++) {
            x.stage(60, i == 0 ? 0 : 1 << i - 1, 60, false);
        }
        Check.due("ten one behind the other", x.ready(), 2600);
        x.begin(0);
        x.fail(0);
        Check.due("and what goes back", x.ready(), 2660);
        Check.due("whole", x.whole(), 2060);
        Check.due("no minute is left", x.tick(1), Edge.NONE);
        Check.due("it goes back for ever", x.back(), 0);
        Check.feed(x, "n=660");
        x.rule();
        Check.due("n", x.go(), 1);
    }
}
