/** The edges that the document names for promises 21 to 24 and 28, a test for each sentence (it stands above it). */
public final class TapeEdgesTest {
    public static void main(String[] args) {
        hundredFaults();
        closedOnesCountAmongTheHundred();
        closeOfNoneSuch();
        closeOfOneThatIs();
        highestByteFirst();
        bytesOfZeroAreLeftOut();
        everyByteIsTaken();
        moreThanHundredBytes();
        refusedWhole();
        endBounds();
        endOfAnEmptyTape();
        whatIsCutIsGone();
        countOfOthers();
        countsAtTheirMost();
        Check.finish();
    }

    /** "FAULTS are found (100 at most)"; "NONE: 100 were." */
    private static void hundredFaults() {
        Edge.taken("the first", NightMove::new, NightMove::find, 0);
        Edge.taken("the hundredth", () -> Nights.withFaults(99), NightMove::find, 99);
        Edge.refused("one more", () -> Nights.withFaults(100), NightMove::find, Edge.NONE);
        NightMove x = Nights.withFaults(100);
        x.find();
        Check.due("a hundred are open", x.count(7), 100);
        Check.feed(x, "f=100");
        x.rule();
        Check.due("f", x.go(), 1);
    }

    private static NightMove allClosed() {
        NightMove x = Nights.withFaults(100);
        for (int fault = 0; fault < 100; fault++) {
            x.close(fault);
        }
        return x;
    }

    /** "NONE: 100 were": closed ones were found too. */
    private static void closedOnesCountAmongTheHundred() {
        Edge.taken("all closed", TapeEdgesTest::allClosed, x -> x.count(7), 0);
        Edge.taken("one more", TapeEdgesTest::allClosed, NightMove::find, Edge.NONE);
        Edge.taken("still none", TapeEdgesTest::allClosed, x -> x.find() + x.count(7), Edge.NONE);
    }

    /** "False: none such". */
    private static void closeOfNoneSuch() {
        for (int fault : new int[] {-1, 3, 100, Edge.LOWEST, Edge.HIGHEST}) {
            Edge.refused("close(" + fault + ")", Nights::young, x -> Edge.yes(x.close(fault)), 0);
        }
        Edge.refused("close(100)", () -> Nights.withFaults(100), x -> Edge.yes(x.close(100)), 0);
        Edge.refused("close(99)", () -> Nights.withFaults(99), x -> Edge.yes(x.close(99)), 0);
        Edge.taken("close(99)", () -> Nights.withFaults(100), x -> Edge.yes(x.close(99)), 1);
        Edge.taken("close(0)", Nights::young, x -> Edge.yes(x.close(0)), 1);
        Edge.taken("close(2)", Nights::young, x -> Edge.yes(x.close(2)), 1);
        Edge.taken("close(0) of none", NightMove::new, x -> Edge.yes(x.close(0)), 0);
    }

    /** "it is" (closed). */
    private static void closeOfOneThatIs() {
        Edge.refused("close(1)", Nights::young, x -> Edge.yes(x.close(1)), 0);
        NightMove x = Nights.withFaults(1);
        Check.due("close", x.close(0), true);
        Check.due("close again", x.close(0), false);
        Check.due("none is open", x.count(7), 0);
        Check.due("the next has a new number", x.find(), 1);
        Check.due("the first stays closed", x.close(0), false);
        Check.due("one is open", x.count(7), 1);
    }

    /** "Four bytes more come to the TAPE (the highest first". */
    private static void highestByteFirst() {
        NightMove x = new NightMove();
        Check.due("l=12", x.feed('l' << 24 | '=' << 16 | '1' << 8 | '2'), 4);
        Check.due("it reads", x.fault(), Edge.NONE);
        NightMove y = new NightMove();
        Check.due("21=l", y.feed('2' << 24 | '1' << 16 | '=' << 8 | 'l'), 4);
        Check.due("it does not", y.fault(), 0);
    }

    /** "bytes of 0 are left out". */
    private static void bytesOfZeroAreLeftOut() {
        int[][] rows = {
            {0, 0}, {1, 1}, {1 << 8, 1}, {1 << 16, 1}, {1 << 24, 1}, {0x01000001, 2}, {0x00010100, 2}, {0x01010001, 3},
            {0x01010101, 4}, {255, 1}, {0xff000000, 1}, {-1, 4}, {Edge.LOWEST, 1}, {Edge.HIGHEST, 4}, {-256, 3},
        };
        for (int[] row : rows) {
            Edge.taken("feed(" + row[0] + ")", NightMove::new, x -> x.feed(row[0]), row[1]);
            Edge.taken("count(8)", NightMove::new, x -> x.feed(row[0]) - x.count(8), 0);
        }
        NightMove x = new NightMove();
        for (char next : "l=12".toCharArray()) {
            x.feed(0);
            x.feed(next << 16);
        }
        Check.due("only the others", x.count(8), 4);
        Check.due("it reads", x.fault(), Edge.NONE);
    }

    /** "bytes": 1 to 255, not only those that a RULE can have. */
    private static void everyByteIsTaken() {
        for (int next = 1; next <= 255; next++) {
            NightMove x = new NightMove();
            Check.due("byte " + next, x.feed(next), 1);
            Check.due("byte " + next, x.feed(next << 24 | next), 3);
        }
    }

    /** "NONE: more than 100." */
    private static void moreThanHundredBytes() {
        int[] four = {0, 1, 0x0101, 0x010101, 0x01010101};
        for (int length = 96; length <= 100; length++) {
            int now = length;
            for (int more = 0; more <= 4; more++) {
                int bytes = four[more];
                if (length + more <= 100) {
                    Edge.taken("to " + (now + more), () -> Nights.withTape(now), x -> x.feed(bytes), now + more);
                } else {
                    Edge.refused("to " + (now + more), () -> Nights.withTape(now), x -> x.feed(bytes), Edge.NONE);
                }
            }
        }
        Edge.refused("bytes at the low end", () -> Nights.withTape(100), x -> x.feed(Edge.LOWEST), Edge.NONE);
        Edge.refused("bytes at the high end", () -> Nights.withTape(97), x -> x.feed(Edge.HIGHEST), Edge.NONE);
    }

    /** "NONE: more than 100": not one of the four comes then. */
    private static void refusedWhole() {
        NightMove x = Nights.withTape(99);
        Check.due("two", x.feed('2' << 24 | '3'), Edge.NONE);
        Check.due("none of them", x.count(8), 99);
        Check.due("it reads", x.fault(), Edge.NONE);
        Check.due("one", x.feed('2'), 100);
        Check.due("it reads", x.fault(), Edge.NONE);
        Check.due("a rule of a hundred bytes", x.rule(), true);
        Check.due("l=12 does not hold", x.go(), 0);
        Check.due("the tape is empty", x.count(8), 0);
        Check.due("and has room again", x.feed(-1), 4);
    }

    /** "The TAPE has its first n bytes alone. False: n." */
    private static void endBounds() {
        Edge.bounds("end", Nights::young, (x, n) -> Edge.yes(x.end(n)), new int[] {0, 6}, new int[] {1, 0});
        Edge.bounds("end", () -> Nights.withTape(100), (x, n) -> Edge.yes(x.end(n)), new int[] {0, 100},
            new int[] {1, 0});
        for (int n = 0; n <= 6; n++) {
            NightMove x = Nights.young();
            Check.due("end(" + n + ")", x.end(n), true);
            Check.due("bytes", x.count(8), n);
        }
    }

    /** "its first n bytes": of none there is 0 alone. */
    private static void endOfAnEmptyTape() {
        Edge.bounds("end", NightMove::new, (x, n) -> Edge.yes(x.end(n)), new int[] {0, 0}, new int[] {1, 0});
    }

    /** "its first n bytes alone". */
    private static void whatIsCutIsGone() {
        NightMove x = new NightMove();
        Check.feed(x, "l=1&n=2");
        x.end(3);
        Check.due("it can not be had again", x.end(4), false);
        Check.due("the first three", x.fault(), Edge.NONE);
        Check.feed(x, "9");
        Check.due("what comes then stands behind them", x.fault(), Edge.NONE);
        Check.due("four", x.count(8), 4);
        x.end(0);
        Check.due("none", x.fault(), 0);
    }

    /** "NONE for others." */
    private static void countOfOthers() {
        for (int what : new int[] {-1, 10, 11, 32, Edge.LOWEST, Edge.HIGHEST}) {
            Edge.refused("count(" + what + ")", Nights::young, x -> x.count(what), Edge.NONE);
        }
        int[] want = {9, 3, 2, 1, 4, 1, 0, 2, 6, 0};
        for (int what = 0; what <= 9; what++) {
            int asked = what;
            Edge.taken("count(" + what + ")", Nights::settled, x -> x.count(asked), want[what]);
        }
    }

    /** "0 NOW .. 9 how often something FAILED": each at the most there can be. */
    private static void countsAtTheirMost() {
        Edge.taken("now", () -> Nights.at(2000), x -> x.count(0), 2000);
        Edge.taken("things", () -> Nights.withThings(10), x -> x.count(1), 10);
        Edge.taken("convoys", () -> Nights.withConvoys(4), x -> x.count(2), 4);
        Edge.taken("stages", () -> Nights.withStages(10), x -> x.count(4), 10);
        Edge.taken("faults", () -> Nights.withFaults(100), x -> x.count(7), 100);
        Edge.taken("bytes", () -> Nights.withTape(100), x -> x.count(8), 100);
        NightMove x = new NightMove();
        x.stage(1, 0, 0, false);
        for (int i = 1; i <= 250; i++) {
            x.begin(0);
            x.fail(0);
        }
        Check.due("failures", x.count(9), 250);
    }
}
