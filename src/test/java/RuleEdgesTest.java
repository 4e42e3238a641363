/** The edges that the document names for promises 25 to 27, a test for each sentence (it stands above the test). */
public final class RuleEdgesTest {
    private static final String LETTERS = "lnfd";
    private static final String SIGNS = "=<>";

    public static void main(String[] args) {
        emptyTape();
        theShortestAndTheLongest();
        oneToFourDigits();
        aFifthDigit();
        eightWithinOneAnother();
        aNinth();
        manyBesideOneAnother();
        blanksBetweenAllThese();
        blanksNotWithinNumbers();
        endedTooEarly();
        everyByteAtTheStart();
        everyByteBehindALetter();
        everyByteBehindASign();
        everyByteBehindADigit();
        everyByteBehindFourDigits();
        everyByteBehindAUnit();
        everyByteBehindAParenthesis();
        theFirstFaultOfSeveral();
        withoutARule();
        ruleWithAFault();
        theTapeIsEmptyThen();
        lessAndMore();
        minutesToTheEnd();
        minutesToReady();
        faultsThatAreOpen();
        stagesThatAreDone();
        andBeforeOr();
        Check.finish();
    }

    private static int faultOf(String text) {
        NightMove x = new NightMove();
        Check.due("feed(" + text + ")", Check.feed(x, text), text.length());
        return x.fault();
    }

    private static void faultIs(String text, int want) {
        Check.due("fault of '" + text + "'", faultOf(text), want);
        NightMove x = new NightMove();
        Check.feed(x, text);
        Check.due("rule of '" + text + "'", x.rule(), want == Edge.NONE);
        Check.due("its bytes", x.count(8), want == Edge.NONE ? 0 : text.length());
    }

    private static int goOf(NightMove x, String text) {
        x.end(0);
        Check.feed(x, text);
        Check.due("rule '" + text + "'", x.rule(), true);
        return x.go();
    }

    private static String nested(int depth) {
        return "(".repeat(depth) + "d=0" + ")".repeat(depth);
    }

    /** "the length, if they end too early": of nothing. */
    private static void emptyTape() {
        Edge.taken("fault", NightMove::new, NightMove::fault, 0);
        Edge.refused("rule", NightMove::new, x -> Edge.yes(x.rule()), 0);
        NightMove x = Nights.young();
        x.end(0);
        Check.due("an empty tape", x.fault(), 0);
        Check.due("is no rule", x.rule(), false);
        Check.due("the old rule stays", x.go(), 1);
        x.find();
        Check.due("the old rule stays", x.go(), 0);
    }

    /** "a letter, one of = < >, a number": three bytes at least, a hundred at most. */
    private static void theShortestAndTheLongest() {
        for (char letter : LETTERS.toCharArray()) {
            for (char sign : SIGNS.toCharArray()) {
                faultIs("" + letter + sign + "0", Edge.NONE);
            }
        }
        String full = "d=0&".repeat(24) + "d=00";
        faultIs(full, Edge.NONE);
        Check.due("a rule of a hundred bytes", goOf(new NightMove(), full), 1);
        Check.due("its last byte counts", goOf(new NightMove(), "d=0&".repeat(24) + "d=01"), 0);
        faultIs("d=0&".repeat(25), 100);
        faultIs("d=0&".repeat(24) + "d=0)", 99);
        faultIs(" ".repeat(100), 100);
        faultIs("((".repeat(4) + " ".repeat(92), 100);
    }

    /** "a number (1 to 4 digits)". */
    private static void oneToFourDigits() {
        String[] numbers = {"0", "9", "00", "99", "000", "999", "0000", "0009", "9999"};
        for (String number : numbers) {
            faultIs("l<" + number, Edge.NONE);
            faultIs("(l<" + number + ")", Edge.NONE);
        }
        faultIs("l<", 2);
        faultIs("(l<)", 3);
        NightMove x = new NightMove();
        x.set(40, 3, 2000);
        Check.due("2000", goOf(x, "l=2000"), 1);
        Check.due("0000", goOf(x, "f=0000"), 1);
        Check.due("9999", goOf(x, "l<9999"), 1);
        Check.due("9999", goOf(x, "l>9999"), 0);
    }

    /** "a fifth digit .. are such". */
    private static void aFifthDigit() {
        faultIs("l=12345", 6);
        faultIs("l=00000", 6);
        faultIs("l=00001|n=1", 6);
        faultIs("l=123456789", 6);
        faultIs("n=1&l = 12345", 12);
        faultIs("((l=12345))", 8);
        faultIs("l=1234", Edge.NONE);
        faultIs("l=1234|n=1234", Edge.NONE);
    }

    /** "at most eight ( within one another". */
    private static void eightWithinOneAnother() {
        for (int depth = 0; depth <= 8; depth++) {
            faultIs(nested(depth), Edge.NONE);
            Check.due("it holds", goOf(new NightMove(), nested(depth)), 1);
            faultIs(nested(depth) + ")", 3 + 2 * depth);
        }
        Check.due("eight, it does not hold", goOf(new NightMove(), nested(8).replace('0', '1')), 0);
        faultIs("(".repeat(8), 8);
        faultIs("( ".repeat(8), 16);
    }

    /** "a ninth ( are such". */
    private static void aNinth() {
        faultIs(nested(9), 8);
        faultIs("(".repeat(9), 8);
        faultIs("(".repeat(100), 8);
        faultIs("( ".repeat(9), 16);
        faultIs("d=0|" + nested(9), 12);
        faultIs("((((((((d=0&(d=0", 12);
        faultIs("(((((((d=0&((d=0", 12);
        faultIs("(((((((d=0&(d=0)&(d=0)))))))))", 29);
    }

    /** "within one another": more than eight beside one another are fine. */
    private static void manyBesideOneAnother() {
        String beside = "(d=0)&".repeat(15) + "(d=0)";
        faultIs(beside, Edge.NONE);
        Check.due("it holds", goOf(new NightMove(), beside), 1);
        faultIs(nested(8) + "|" + nested(8) + "|" + nested(8), Edge.NONE);
        faultIs("(" + nested(7) + "&" + nested(7) + ")", Edge.NONE);
        faultIs("(" + nested(7) + "&" + nested(8) + ")", 1 + 17 + 1 + 7);
    }

    /** "Blanks (32) may stand between all these". */
    private static void blanksBetweenAllThese() {
        String tight = "(l=1|(n<22&f>333))&d=4444";
        faultIs(tight, Edge.NONE);
        for (int spot = 0; spot <= tight.length(); spot++) {
            boolean within = spot > 0 && spot < tight.length() && Character.isDigit(tight.charAt(spot - 1))
                && Character.isDigit(tight.charAt(spot));
            for (int blanks = 1; blanks <= 3; blanks++) {
                String text = tight.substring(0, spot) + " ".repeat(blanks) + tight.substring(spot);
                faultIs(text, within ? spot + blanks : Edge.NONE);
            }
        }
        NightMove x = new NightMove();
        Check.due("blanks change nothing", goOf(x, "  (  l  =  480  )  &  d  <  1  "), 1);
        Check.due("blanks change nothing", goOf(x, "  (  l  =  481  )  |  d  >  1  "), 0);
    }

    /** "not within numbers". */
    private static void blanksNotWithinNumbers() {
        faultIs("l=1 2", 4);
        faultIs("l=1   2", 6);
        faultIs("l=123 4", 6);
        faultIs("l=1234 5", 7);
        faultIs("l=1 ", Edge.NONE);
        faultIs("l=1234 ", Edge.NONE);
    }

    /** "(the length, if they end too early)": every beginning of a text, and it is whole where it can be. */
    private static void endedTooEarly() {
        String text = " ( l = 12 | ( n<3 ) ) & d>4567 ";
        for (int length = 0; length <= text.length(); length++) {
            boolean whole = length >= 27;
            boolean closedFirst = length == 21 || length == 22;
            faultIs(text.substring(0, length), whole || closedFirst ? Edge.NONE : length);
        }
    }

    private static void everyByte(String before, String allowed, String last) {
        for (int next = 1; next <= 255; next++) {
            boolean good = allowed.indexOf(next) >= 0;
            boolean whole = last.indexOf(next) >= 0;
            int at = before.length();
            faultIs(before + (char) next, whole ? Edge.NONE : good ? at + 1 : at);
        }
    }

    /** "the first byte at which no such can go on": at the start, and behind ( and & and |. */
    private static void everyByteAtTheStart() {
        everyByte("", " (lnfd", "");
        everyByte(" ", " (lnfd", "");
        everyByte("(", " (lnfd", "");
        everyByte("l=1&", " (lnfd", "");
        everyByte("l=1|", " (lnfd", "");
        everyByte("((((((((", " lnfd", "");
    }

    /** "the first byte at which no such can go on": a letter wants one of = < >. */
    private static void everyByteBehindALetter() {
        for (char letter : LETTERS.toCharArray()) {
            everyByte("" + letter, " =<>", "");
        }
        everyByte("l ", " =<>", "");
    }

    /** "the first byte at which no such can go on": = < > want a digit. */
    private static void everyByteBehindASign() {
        for (char sign : SIGNS.toCharArray()) {
            everyByte("l" + sign, " 0123456789", "0123456789");
        }
        everyByte("l= ", " 0123456789", "0123456789");
    }

    /** "the first byte at which no such can go on": a number can grow, end, and be followed. */
    private static void everyByteBehindADigit() {
        everyByte("l=1", " 0123456789&|", " 0123456789");
        everyByte("l=123", " 0123456789&|", " 0123456789");
        everyByte("(l=1", " 0123456789&|)", ")");
        everyByte("l=1 ", " &|", " ");
    }

    /** "a number (1 to 4 digits)": behind the fourth it can not grow. */
    private static void everyByteBehindFourDigits() {
        everyByte("l=1234", " &|", " ");
        everyByte("(l=1234", " &|)", ")");
    }

    /** "a unit: ( TESTS )": behind ) there is no unit without & or |. */
    private static void everyByteBehindAUnit() {
        everyByte("(l=1)", " &|", " ");
        everyByte("((l=1)", " &|)", ")");
        everyByte("(l=1) ", " &|", " ");
    }

    /** "( TESTS )": TESTS are never empty. */
    private static void everyByteBehindAParenthesis() {
        faultIs("()", 1);
        faultIs("( )", 2);
        faultIs("l=1&()", 5);
        faultIs("(l=1&)", 5);
        faultIs("(l=1|)", 5);
        faultIs("((((((((", 8);
        faultIs("(((((((()", 8);
        faultIs(")", 0);
        faultIs("l=1)", 3);
        faultIs("(l=1))", 5);
    }

    /** "FAULT: the first byte". */
    private static void theFirstFaultOfSeveral() {
        faultIs("xx", 0);
        faultIs("l=1x=2y", 3);
        faultIs("l=12345x(((((((((", 6);
        faultIs("(((((((((l=12345", 8);
        faultIs("l=1)(", 3);
    }

    /** "(without a RULE it does)". */
    private static void withoutARule() {
        NightMove x = new NightMove();
        Check.due("new", x.go(), 1);
        Check.feed(x, "d=1");
        Check.due("a tape is no rule", x.go(), 1);
        Check.feed(x, "&");
        Check.due("a fault", x.rule(), false);
        Check.due("still none", x.go(), 1);
        x.end(3);
        Check.due("rule", x.rule(), true);
        Check.due("a rule", x.go(), 0);
    }

    /** "False: a FAULT." */
    private static void ruleWithAFault() {
        Edge.refused("half a text", Nights::young, x -> Edge.yes(x.rule()), 0);
        Edge.refused("an empty tape", Nights::planned, x -> Edge.yes(x.rule()), 0);
        NightMove x = Nights.young();
        Check.due("the fault", x.fault(), 6);
        x.rule();
        Check.due("the tape stays", x.count(8), 6);
        Check.due("the fault stays", x.fault(), 6);
        Check.feed(x, "=293)");
        Check.due("the rest makes it one", x.rule(), true);
        Check.due("d=1|(l=293)", x.go(), 1);
    }

    /** "The TAPE (empty then) is the RULE." */
    private static void theTapeIsEmptyThen() {
        NightMove x = Nights.withTape(100);
        Check.due("rule", x.rule(), true);
        Check.due("empty", x.count(8), 0);
        Check.due("fault", x.fault(), 0);
        Check.due("no byte is left", x.end(1), false);
        Check.due("not twice", x.rule(), false);
        Check.due("the rule stays", x.go(), 0);
        Check.due("a shorter one", goOf(x, "d=0"), 1);
        Check.feed(x, "d=1");
        Check.due("the tape does not touch it", x.go(), 1);
        x.end(0);
        Check.due("nor its end", x.go(), 1);
    }

    /** "one of = < >": at the number, a minute under and a minute over it. */
    private static void lessAndMore() {
        String[] rows = {"l=480:1", "l=479:0", "l=481:0", "l<480:0", "l<481:1", "l<479:0", "l>480:0", "l>479:1",
            "l>481:0", "f=0:1", "f<0:0", "f>0:0", "f<1:1", "d>0:0", "n<1:1", "n=0:1"};
        NightMove x = new NightMove();
        for (String row : rows) {
            int colon = row.indexOf(':');
            Check.due("go of " + row, goOf(x, row.substring(0, colon)), row.charAt(colon + 1) - '0');
        }
    }

    /** "l minutes from NOW to the END (0 if it is over)". */
    private static void minutesToTheEnd() {
        int[][] rows = {{0, 480}, {1, 479}, {479, 1}, {480, 0}, {481, 0}, {2000, 0}};
        for (int[] row : rows) {
            Check.due("l at " + row[0], goOf(Nights.at(row[0]), "l=" + row[1]), 1);
            Check.due("l at " + row[0], goOf(Nights.at(row[0]), "l>" + row[1] + "|l<" + row[1]), 0);
        }
        NightMove x = new NightMove();
        x.set(40, 3, 0);
        Check.due("an end of 0", goOf(x, "l=0"), 1);
        NightMove y = Nights.at(2000);
        y.set(40, 3, 2000);
        Check.due("the last end", goOf(y, "l=0"), 1);
        NightMove z = Nights.at(1999);
        z.set(40, 3, 2000);
        Check.due("a minute ahead of it", goOf(z, "l=1"), 1);
    }

    /** "n minutes from NOW to READY". */
    private static void minutesToReady() {
        Check.due("no stages", goOf(Nights.at(2000), "n=0"), 1);
        Check.due("one runs", goOf(Nights.young(), "n=47"), 1);
        Check.due("it goes back", goOf(Nights.goingBack(), "n=63"), 1);
        NightMove x = Nights.young();
        x.tick(47);
        Check.due("behind it, two are not begun", goOf(x, "n=7"), 1);
        x.begin(1);
        x.tick(2);
        x.begin(3);
        x.tick(4);
        Check.due("the last minute", goOf(x, "n=1"), 1);
        x.tick(1);
        Check.due("all are done", goOf(x, "n=0"), 1);
        x.tick(500);
        Check.due("all are done", goOf(x, "n=0"), 1);
    }

    /** "f FAULTS that are open". */
    private static void faultsThatAreOpen() {
        Check.due("none", goOf(new NightMove(), "f=0"), 1);
        Check.due("two of three", goOf(Nights.young(), "f=2"), 1);
        Check.due("a hundred", goOf(Nights.withFaults(100), "f=100"), 1);
        NightMove x = Nights.withFaults(1);
        x.close(0);
        Check.due("none again", goOf(x, "f=0"), 1);
    }

    /** "d STAGES that are DONE": safe or not, not those that go back. */
    private static void stagesThatAreDone() {
        Check.due("none", goOf(Nights.planned(), "d=0"), 1);
        Check.due("one", goOf(Nights.young(), "d=1"), 1);
        Check.due("it waits to go back", goOf(Nights.goingBack(), "d=0"), 1);
        NightMove x = new NightMove();
        for (int i = 0; i < 10; i++) {
            x.stage(1, 0, 0, i == 4);
        }
        for (int i = 0; i < 10; i++) {
            x.begin(i);
        }
        Check.due("they run", goOf(x, "d=0"), 1);
        x.tick(1);
        Check.due("all ten", goOf(x, "d=10"), 1);
    }

    /** "TESTS: parts with | between; a part: units with & between": all ways that three units can stand. */
    private static void andBeforeOr() {
        NightMove x = new NightMove();
        for (int code = 0; code < 64; code++) {
            boolean a = (code & 1) != 0;
            boolean b = (code & 2) != 0;
            boolean c = (code & 4) != 0;
            String[] units = {a ? "d=0" : "d=1", b ? "d=0" : "d=1", c ? "d=0" : "d=1"};
            boolean firstAnd = (code & 8) != 0;
            boolean secondAnd = (code & 16) != 0;
            boolean grouped = (code & 32) != 0;
            String text = grouped
                ? units[0] + (firstAnd ? "&(" : "|(") + units[1] + (secondAnd ? "&" : "|") + units[2] + ")"
                : units[0] + (firstAnd ? "&" : "|") + units[1] + (secondAnd ? "&" : "|") + units[2];
            boolean inner = secondAnd ? b && c : b || c;
            boolean right = firstAnd ? a && inner : a || inner;
            boolean left = secondAnd ? (firstAnd ? a && b && c : a || b && c) : (firstAnd ? a && b || c : a || b || c);
            Check.due("go of " + text, goOf(x, text), Edge.yes(grouped ? right : left));
            if (code % 16 == 15) {
                x = new NightMove();
            }
        }
    }
}
