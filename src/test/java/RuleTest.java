/** Promises 25 to 27: fault, rule, go. */
public final class RuleTest {
    public static void main(String[] args) {
        faultless();
        faulty();
        taking();
        comparing();
        joining();
        letters();
        Check.finish();
    }

    private static int faultOf(String text) {
        NightMove x = new NightMove();
        Check.due("feed(" + text + ")", Check.feed(x, text), text.length());
        return x.fault();
    }

    private static void faultless() {
        String[] texts = {
            "l=1", "n<12", "f>123", "d=1234", "l=0000", "(l=1)", "((((((((l=1))))))))", "l=1|n=2&f=3|d=4",
            "(l=1|n=2)&(f=3|d=4)", " l = 1 ", "l=1 | n=2", "( ( l < 9999 ) ) ", "(l=1)|((n=1))&(((f=1)))",
            "((((((((l=1))))))))&((((((((l=1))))))))", "l=1&l=1&l=1", "   (  l  >  0  &  d<2  )  ",
        };
        for (String text : texts) {
            Check.due("fault of '" + text + "'", faultOf(text), -1);
        }
    }

    private static void faulty() {
        Object[][] rows = {
            {"", 0}, {" ", 1}, {"   ", 3}, {"l", 1}, {"l ", 2}, {"l=", 2}, {"l= ", 3}, {"x=1", 0}, {"L=1", 0},
            {"=1", 0}, {"1=l", 0}, {"&l=1", 0}, {"|", 0}, {")", 0}, {"()", 1}, {"( )", 2}, {"(", 1}, {"(l=1", 4},
            {"(l=1 ", 5}, {"l=1)", 3}, {"l=1 )", 4}, {"(l=1))", 5}, {"l==1", 2}, {"l<>1", 2}, {"l<=1", 2},
            {"l!1", 1}, {"l=a", 2}, {"l=-1", 2}, {"l=1a", 3}, {"l=12345", 6}, {"l=00000", 6}, {"l=1 2", 4},
            {"l=1234 5", 7}, {"l=1&", 4}, {"l=1|", 4}, {"l=1| ", 5}, {"l=1&&n=1", 4}, {"l=1||n=1", 4},
            {"l=1&|n=1", 4}, {"l=1l=1", 3}, {"l=1 n=1", 4}, {"l=1(n=1)", 3}, {"(l=1)(n=1)", 5}, {"(l=1)l=1", 5},
            {"(l=1)1", 5}, {"(&l=1)", 1}, {"(l=1&)", 5}, {"(l=1|)", 5}, {"(((((((((l=1)))))))))", 8},
            {"((((((((l=1))))))))&(((((((((l=1", 28}, {"((((((((l=1&(n=1", 12}, {"ll=1", 1}, {"l\t=1", 1},
            {"\nl=1", 0}, {"l=1\u00ff", 3}, {"l(=1)", 1}, {"l=(1)", 2}, {"l=1=1", 3}, {"[l=1]", 0},
        };
        for (Object[] row : rows) {
            Check.due("fault of '" + row[0] + "'", faultOf((String) row[0]), (Integer) row[1]);
        }
    }

    private static void taking() {
        NightMove x = new NightMove();
        Check.due("without a rule", x.go(), 1);
        Check.feed(x, "l=1&");
        Check.due("a fault", x.rule(), false);
        Check.due("the tape stays", x.count(8), 4);
        Check.due("still no rule", x.go(), 1);
        x.end(3);
        Check.due("rule", x.rule(), true);
        Check.due("the tape is empty", x.count(8), 0);
        Check.due("go", x.go(), 0);
        Check.due("an empty tape is none", x.rule(), false);
        Check.due("the old rule stays", x.go(), 0);
        Check.feed(x, "l=480|l=1");
        Check.due("what is on the tape is no rule yet", x.go(), 0);
        Check.due("rule", x.rule(), true);
        Check.due("go", x.go(), 1);
        Check.feed(x, "f=9");
        Check.due("a shorter one", x.rule(), true);
        Check.due("go", x.go(), 0);
        Check.feed(x, "x");
        Check.due("the tape does not change the rule", x.go(), 0);
        Check.due("fault asks the tape alone", x.fault(), 0);
        Check.due("go", x.go(), 0);
    }

    private static int goOf(NightMove x, String text) {
        x.end(0);
        Check.feed(x, text);
        Check.due("rule '" + text + "'", x.rule(), true);
        return x.go();
    }

    private static void comparing() {
        NightMove x = new NightMove();
        x.tick(400);
        Check.due("=", goOf(x, "l=80"), 1);
        Check.due("=", goOf(x, "l=79"), 0);
        Check.due("<", goOf(x, "l<80"), 0);
        Check.due("<", goOf(x, "l<81"), 1);
        Check.due(">", goOf(x, "l>80"), 0);
        Check.due(">", goOf(x, "l>79"), 1);
        Check.due("leading zeros", goOf(x, "l=0080"), 1);
        Check.due("blanks", goOf(x, " l = 80 "), 1);
        Check.due("the greatest", goOf(x, "l<9999"), 1);
        Check.due("the least", goOf(x, "f>0"), 0);
    }

    /** Of d=0 (it holds) and d=1 (it does not). */
    private static void joining() {
        NightMove x = new NightMove();
        String[] texts = {
            "0&0:1", "0&1:0", "1&0:0", "1&1:0", "0|0:1", "0|1:1", "1|0:1", "1|1:0", "0|0&1:1", "1&0|0:1",
            "0|1&1:1", "1&1|0:1", "1&(0|0):0", "(0|1)&1:0", "(0|1)&0:1", "1|1|0:1", "0&0&1:0", "1|0&(1|0):1",
            "(1|0)&(0|1)&0:1", "(1|0)&(1|1):0", "((1)|((0)))&0:1", "(0)&(1)|(1):0", "1&0|1&0|0&1:0",
            "0&(0&(0&(0&(0&(0&(0&(0|1))))))):1", "0&(0&(0&(0&(0&(0&(0&(0&1))))))):0", "(1|1)|(1|(1|0)):1",
            "(0&1)|0:1", "(1)|0:1", "0|(1):1", "(0)&(0)&(1|0)&(0|1):1", "1&(1|(0&0))|1:0",
        };
        for (String row : texts) {
            int colon = row.indexOf(':');
            String text = row.substring(0, colon).replace("0", "d=0").replace("1", "d=1");
            if (text.length() <= 100) {
                Check.due("go of '" + text + "'", goOf(x, text), row.charAt(colon + 1) - '0');
            }
        }
    }

    private static void letters() {
        NightMove x = new NightMove();
        x.set(40, 3, 30);
        x.stage(10, 0, 0, false);
        x.stage(20, 1, 0, false);
        Check.due("l, n, f, d", goOf(x, "l=30&n=30&f=0&d=0"), 1);
        x.begin(0);
        x.tick(10);
        x.find();
        x.find();
        x.close(0);
        Check.due("l, n, f, d", goOf(x, "l=20&n=20&f=1&d=1"), 1);
        x.tick(19);
        Check.due("l at the end", goOf(x, "l=1&n=20"), 1);
        x.tick(1);
        Check.due("l at the end", goOf(x, "l=0"), 1);
        x.tick(500);
        Check.due("l behind the end", goOf(x, "l=0&n=20"), 1);
        x.begin(1);
        x.tick(5);
        Check.due("n while it runs", goOf(x, "n=15&d=1"), 1);
        x.tick(15);
        Check.due("n as all is done", goOf(x, "n=0&d=2"), 1);
        x.find();
        Check.due("f", goOf(x, "f=2"), 1);
    }
}
