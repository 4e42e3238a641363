import java.util.Random;

/** All promises: long runs of chance calls (the seeds are fixed) against the plain telling of the document. */
public final class ModelTest {
    private static final int RUNS = 1500;
    private static final int CALLS = 512;
    private static final int[] ODD = {
        Integer.MIN_VALUE, Integer.MAX_VALUE, -1, -2, 0, 1, 2, 10, 11, 31, 32, 40, 41, 60, 61, 100, 120, 121, 200, 201,
        500, 501, 1000, 1001, 2000, 2001, 5000, 5001, 1 << 30,
    };
    private final Random random;
    private final NightMove real = new NightMove();
    private final PlainNight plain = new PlainNight();
    private final int odds;
    private final int settleAt;
    private final int span;
    private final int run;
    private String pending = "";

    private ModelTest(int run) {
        this.run = run;
        random = new Random(1000003L * run);
        odds = run % 4 == 0 ? 10 : 60;
        settleAt = random.nextInt(80);
        span = run % 3 == 0 ? 2000 : 150;
    }

    public static void main(String[] args) {
        for (int run = 0; run < RUNS; run++) {
            ModelTest test = new ModelTest(run);
            for (int call = 0; call < CALLS; call++) {
                test.step(call);
            }
        }
        Check.finish();
    }

    /** Mostly a number from low to high, at times an odd one. */
    private int pick(int low, int high) {
        if (random.nextInt(odds) == 0) {
            return ODD[random.nextInt(ODD.length)];
        }
        return high < low ? low : low + random.nextInt(high - low + 1);
    }

    private void due(String call, long got, long want) {
        Check.due("run " + run + ": " + call, got, want);
    }

    private void due(String call, boolean got, boolean want) {
        Check.due("run " + run + ": " + call, got, want);
    }

    private void step(int call) {
        if (call == settleAt) {
            due("settle", real.settle(), plain.settle());
            return;
        }
        int kind = random.nextInt(100);
        if (kind < 24) {
            moveOfGoods(call < settleAt);
        } else if (kind < 70) {
            stages();
        } else {
            rules();
        }
    }

    private void moveOfGoods(boolean before) {
        int kind = random.nextInt(6);
        int now = real.count(0);
        if (before || random.nextInt(30) == 0) {
            tellGoods(kind);
            return;
        }
        int thing = pick(0, real.count(1) - 1);
        int convoy = pick(0, real.count(2) - 1);
        int q = pick(0, now);
        int minute = pick(0, span + 300);
        if (kind == 0) {
            int minutes = pick(1, 40);
            due("late", real.late(convoy, minutes), plain.late(convoy, minutes));
        } else if (kind == 1) {
            int what = pick(0, 4);
            due("road " + what, real.road(convoy, q, what), plain.road(convoy, q, what));
        } else if (kind == 2) {
            due("place", real.place(thing, minute, q), plain.place(thing, minute, q));
        } else if (kind == 3) {
            due("lacks", real.lacks(thing, q), plain.lacks(thing, q));
        } else if (kind == 4) {
            int place = pick(0, 3);
            due("many", real.many(place, minute, q), plain.many(place, minute, q));
        } else {
            due("share", real.share(thing), plain.share(thing));
        }
    }

    private void tellGoods(int kind) {
        if (kind < 2) {
            int last = pick(0, span / 2);
            int first = last < 0 || last > 2000 ? pick(0, 2000) : pick(last, Math.min(2000, last + span / 2 + 40));
            int load = pick(1, 40);
            int cost = run % 2 == 0 ? pick(0, 4) : pick(0, 1000);
            due("thing", real.thing(last, first, load, cost), plain.thing(last, first, load, cost));
        } else if (kind == 2) {
            int leaves = pick(0, span / 2 + 30);
            int room = pick(1, 4);
            int limit = pick(1, 120);
            due("convoy", real.convoy(leaves, room, limit), plain.convoy(leaves, room, limit));
        } else if (kind == 3) {
            int way = pick(2, 60);
            int headway = pick(0, 30);
            int end = pick(0, span);
            due("set", real.set(way, headway, end), plain.set(way, headway, end));
        } else if (kind == 4) {
            due("least", real.least(), plain.least());
        } else {
            int thing = pick(0, real.count(1) - 1);
            due("share", real.share(thing), plain.share(thing));
        }
    }

    private void stages() {
        int kind = random.nextInt(12);
        int stage = pick(0, real.count(4) - 1);
        if (kind == 0) {
            tellStage();
        } else if (kind < 4) {
            boolean wait = run % 5 != 0 && real.count(4) < 5;
            if (wait) {
                tellStage();
            } else {
                due("begin", real.begin(stage), plain.begin(stage));
            }
        } else if (kind == 4) {
            if (random.nextInt(3) == 0) {
                due("fail", real.fail(stage), plain.fail(stage));
            }
        } else if (kind < 7) {
            int n = pick(0, run % 3 == 0 ? 30 : 9);
            due("tick", real.tick(n), plain.tick(n));
        } else if (kind < 9) {
            int what = pick(0, 3);
            due("told " + what, real.told(stage, what), plain.told(stage, what));
        } else if (kind == 9) {
            due("back", real.back(), plain.back());
        } else if (kind == 10) {
            due("whole", real.whole(), plain.whole());
        } else {
            due("ready", real.ready(), plain.ready());
        }
    }

    private void tellStage() {
        int minutes = pick(1, run % 2 == 0 ? 12 : 60);
        int needs = pick(0, 15) & pick(0, 1023);
        int back = random.nextInt(3) == 0 ? 0 : pick(0, 8);
        boolean point = random.nextInt(4) == 0;
        due("stage", real.stage(minutes, needs, back, point), plain.stage(minutes, needs, back, point));
    }

    private void rules() {
        int kind = random.nextInt(12);
        if (kind == 0) {
            due("find", real.find(), plain.find());
        } else if (kind == 1) {
            int fault = pick(0, 6);
            due("close", real.close(fault), plain.close(fault));
        } else if (kind < 6) {
            int four = nextFour();
            due("feed", real.feed(four), plain.feed(four));
        } else if (kind == 6) {
            int n = random.nextInt(4) == 0 ? 0 : pick(0, real.count(8));
            due("end", real.end(n), plain.end(n));
            pending = n == 0 ? "" : pending;
        } else if (kind == 7) {
            due("fault", real.fault(), plain.fault());
        } else if (kind == 8) {
            due("rule", real.rule(), plain.rule());
        } else if (kind < 11) {
            due("go", real.go(), plain.go());
        } else {
            int what = pick(0, 9);
            due("count", real.count(what), plain.count(what));
        }
    }

    /** Four bytes of a text that is a rule, as a rule; now and then one of them is another. */
    private int nextFour() {
        if (pending.isEmpty()) {
            pending = (real.count(8) > 0 ? random.nextBoolean() ? "|" : "&" : "") + text(3);
        }
        int four = 0;
        for (int i = 0; i < 4; i++) {
            int next = pending.isEmpty() ? 0 : pending.charAt(0);
            pending = pending.isEmpty() ? "" : pending.substring(1);
            if (random.nextInt(120) == 0) {
                next = random.nextBoolean() ? random.nextInt(256) : "()&|=<>lnfd0123456789 ".charAt(random.nextInt(22));
            }
            four = four << 8 | next;
        }
        return four;
    }

    private String text(int depth) {
        String blank = random.nextInt(6) == 0 ? " " : "";
        if (depth > 0 && random.nextInt(3) == 0) {
            String join = random.nextBoolean() ? "&" : "|";
            return text(depth - 1) + blank + join + text(depth - 1);
        }
        if (depth > 0 && random.nextInt(3) == 0) {
            return blank + "(" + text(depth - 1) + ")";
        }
        int most = random.nextBoolean() ? 4 : 200;
        return blank + "lnfd".charAt(random.nextInt(4)) + "=<>".charAt(random.nextInt(3)) + blank
            + random.nextInt(most);
    }
}
