import java.util.ArrayList;
import java.util.List;

/** What an object tells of itself, now and behind a fixed run of further calls: objects in one state answer alike. */
final class Look {
    private final NightMove x;
    private final List<Integer> answers = new ArrayList<>();

    private Look(NightMove x) {
        this.x = x;
    }

    /** Some 270 calls; the second half shows what no question does (the lates left, the rule, the bytes). */
    static List<Integer> at(NightMove x) {
        Look look = new Look(x);
        look.ask();
        look.goOn();
        look.ask();
        return look.answers;
    }

    private void add(int answer) {
        answers.add(answer);
    }

    private void add(boolean answer) {
        answers.add(answer ? 1 : 0);
    }

    private void ask() {
        for (int what = 0; what < 10; what++) {
            add(x.count(what));
            add(x.share(what));
        }
        int now = x.count(0);
        for (int convoy = 0; convoy < 4; convoy++) {
            for (int what = 0; what < 5; what++) {
                add(x.road(convoy, now, what));
            }
            add(x.road(convoy, 0, 0));
            add(x.many(convoy, 50, now));
        }
        for (int thing = 0; thing < 10; thing++) {
            add(x.place(thing, 45, now));
            add(x.lacks(thing, now));
        }
        for (int stage = 0; stage < 10; stage++) {
            for (int what = 0; what < 4; what++) {
                add(x.told(stage, what));
            }
        }
        add(x.least());
        add(x.back());
        add(x.whole());
        add(x.ready());
        add(x.fault());
        add(x.go());
    }

    private void goOn() {
        add(x.feed('='));
        add(x.feed('7'));
        add(x.feed(')'));
        add(x.fault());
        add(x.find());
        add(x.close(0));
        add(x.close(2));
        add(x.go());
        add(x.stage(3, 0, 2, true));
        add(x.begin(1));
        add(x.thing(0, 2000, 6, 7));
        add(x.convoy(30, 2, 50));
        add(x.least());
        add(x.settle());
        add(x.late(0, 2));
        add(x.late(1, 2));
        add(x.tick(2));
        add(x.begin(3));
        add(x.fail(2));
        add(x.fail(1));
        add(x.tick(3));
        add(x.rule());
        add(x.go());
    }
}
