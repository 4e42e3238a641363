import java.util.ArrayList;
import java.util.List;

/** The document told once more in the slowest and plainest way: minute by minute, with lists and recursion. */
final class PlainNight {
    private static final class Broken extends RuntimeException {
        private static final long serialVersionUID = 1L;
        final int at;

        Broken(int at) {
            this.at = at;
        }
    }

    private static final class Step {
        int minutes;
        int needs;
        int back;
        boolean point;
        int state = 0;
        int began = -1;
        int done = -1;
        boolean safe = false;
    }

    private final PlainSharing sharing = new PlainSharing();
    private final List<int[]> lates = new ArrayList<>();
    private final List<Step> steps = new ArrayList<>();
    private final List<Integer> queue = new ArrayList<>();
    private final List<Boolean> faults = new ArrayList<>();
    private int[] fixed = null;
    private int headway = 3;
    private int end = 480;
    private int now = 0;
    private int queueLeft = 0;
    private int failures = 0;
    private String tape = "";
    private String rule = "";
    private String text;
    private int at;

    private static boolean in(int x, int low, int high) {
        return low <= x && x <= high;
    }

    int thing(int last, int first, int load, int cost) {
        boolean good = in(last, 0, 2000) && in(first, last, 2000) && in(load, 1, 40) && in(cost, 0, 1000);
        if (fixed != null || sharing.things == 10 || !good) {
            return -1;
        }
        sharing.thing(last, first, load, cost);
        return sharing.things - 1;
    }

    int convoy(int leaves, int room, int limit) {
        boolean good = in(leaves, 0, 2000) && in(room, 1, 10) && in(limit, 1, 200);
        if (fixed != null || sharing.convoys == 4 || !good) {
            return -1;
        }
        sharing.convoy(leaves, room, limit);
        return sharing.convoys - 1;
    }

    boolean set(int way, int newHeadway, int newEnd) {
        if (fixed != null || !in(way, 2, 120) || !in(newHeadway, 0, 30) || !in(newEnd, 0, 2000)) {
            return false;
        }
        sharing.way = way;
        headway = newHeadway;
        end = newEnd;
        return true;
    }

    private int[] best() {
        return fixed != null ? fixed : sharing.best();
    }

    int least() {
        return sharing.costOf(best());
    }

    int share(int thing) {
        return in(thing, 0, sharing.things - 1) ? best()[thing] : -2;
    }

    int settle() {
        if (fixed != null) {
            return -1;
        }
        fixed = sharing.best();
        return least();
    }

    private int leaves(int convoy, int q) {
        int minute = sharing.convoy[convoy][0];
        for (int[] late : lates) {
            minute += late[0] == convoy && late[2] <= q ? late[1] : 0;
        }
        return minute;
    }

    private int ahead(int convoy) {
        int found = -1;
        for (int c = 0; c < sharing.convoys; c++) {
            if (isAhead(c, convoy) && (found == -1 || isAhead(found, c))) {
                found = c;
            }
        }
        return found;
    }

    private boolean isAhead(int a, int b) {
        int first = sharing.convoy[a][0];
        int second = sharing.convoy[b][0];
        return first < second || first == second && a < b;
    }

    private int bridge(int convoy, int q) {
        int ahead = ahead(convoy);
        int alone = leaves(convoy, q) + sharing.way / 2;
        return ahead == -1 ? alone : Math.max(alone, bridge(ahead, q) + headway);
    }

    private int there(int convoy, int q) {
        return bridge(convoy, q) + (sharing.way + 1) / 2;
    }

    boolean late(int convoy, int minutes) {
        if (fixed == null || !in(convoy, 0, sharing.convoys - 1) || !in(minutes, 1, 200) || lates.size() == 60) {
            return false;
        }
        if (leaves(convoy, now) <= now) {
            return false;
        }
        lates.add(new int[] {convoy, minutes, now});
        return true;
    }

    int road(int convoy, int q, int what) {
        if (fixed == null || !in(convoy, 0, sharing.convoys - 1) || !in(q, 0, now) || !in(what, 0, 4)) {
            return -1;
        }
        int number = 0;
        int load = 0;
        for (int i = 0; i < sharing.things; i++) {
            number += fixed[i] == convoy ? 1 : 0;
            load += fixed[i] == convoy ? sharing.thing[i][2] : 0;
        }
        return new int[] {leaves(convoy, q), bridge(convoy, q), there(convoy, q), number, load}[what];
    }

    int place(int thing, int minute, int q) {
        if (fixed == null || !in(thing, 0, sharing.things - 1) || !in(minute, 0, 5000) || !in(q, 0, now)) {
            return -1;
        }
        int convoy = fixed[thing];
        if (convoy == -1) {
            return 3;
        }
        return minute >= there(convoy, q) ? 2 : minute >= leaves(convoy, q) ? 1 : 0;
    }

    int lacks(int thing, int q) {
        if (fixed == null || !in(thing, 0, sharing.things - 1) || !in(q, 0, now)) {
            return -1;
        }
        return fixed[thing] == -1 ? 0 : Math.max(0, there(fixed[thing], q) - sharing.thing[thing][1]);
    }

    int many(int place, int minute, int q) {
        if (fixed == null || !in(place, 0, 3) || !in(minute, 0, 5000) || !in(q, 0, now)) {
            return -1;
        }
        int number = 0;
        for (int i = 0; i < sharing.things; i++) {
            number += place(i, minute, q) == place ? 1 : 0;
        }
        return number;
    }

    int stage(int minutes, int needs, int back, boolean point) {
        boolean good = in(minutes, 1, 60) && in(back, 0, 60) && in(needs, 0, (1 << steps.size()) - 1);
        for (Step step : steps) {
            good = good && step.state == 0;
        }
        if (!good || steps.size() == 10) {
            return -1;
        }
        Step step = new Step();
        step.minutes = minutes;
        step.needs = needs;
        step.back = back;
        step.point = point;
        steps.add(step);
        return steps.size() - 1;
    }

    boolean begin(int stage) {
        if (!in(stage, 0, steps.size() - 1) || steps.get(stage).state != 0 || !queue.isEmpty()) {
            return false;
        }
        Step step = steps.get(stage);
        for (int i = 0; i < steps.size(); i++) {
            if ((step.needs >> i & 1) == 1 && steps.get(i).state != 2) {
                return false;
            }
        }
        step.state = 1;
        step.began = now;
        step.done = now + step.minutes;
        return true;
    }

    boolean fail(int stage) {
        if (!in(stage, 0, steps.size() - 1) || steps.get(stage).state != 1) {
            return false;
        }
        failures++;
        for (int minute = now; minute >= 0; minute--) {
            for (int i = steps.size() - 1; i >= 0; i--) {
                Step step = steps.get(i);
                if (step.began == minute && !step.safe) {
                    step.state = 3;
                    step.done = -1;
                    queue.add(i);
                }
            }
        }
        queueLeft = steps.get(queue.get(0)).back;
        dropBack();
        return true;
    }

    private void dropBack() {
        while (!queue.isEmpty() && queueLeft == 0) {
            Step step = steps.get(queue.remove(0));
            step.state = 0;
            step.began = -1;
            queueLeft = queue.isEmpty() ? 0 : steps.get(queue.get(0)).back;
        }
    }

    int tick(int n) {
        if (!in(n, 0, 500) || now + n > 2000) {
            return -1;
        }
        for (int i = 0; i < n; i++) {
            minute();
        }
        return now;
    }

    private void minute() {
        now++;
        boolean point = false;
        for (Step step : steps) {
            if (step.state == 1 && step.done == now) {
                step.state = 2;
                point = point || step.point;
            }
        }
        for (Step step : steps) {
            step.safe = step.safe || point && step.state == 2;
        }
        if (!queue.isEmpty()) {
            queueLeft--;
            dropBack();
        }
    }

    int told(int stage, int what) {
        if (!in(stage, 0, steps.size() - 1) || !in(what, 0, 3)) {
            return -1;
        }
        Step step = steps.get(stage);
        return new int[] {step.state, step.began, step.done, step.safe ? 1 : 0}[what];
    }

    int back() {
        return queue.isEmpty() ? -1 : queue.get(0);
    }

    int whole() {
        int minute = now + queueLeft;
        for (int i = 1; i < queue.size(); i++) {
            minute += steps.get(queue.get(i)).back;
        }
        return minute;
    }

    /** Lets the minutes go by, each stage beginning as soon as it can. */
    int ready() {
        int size = steps.size();
        int[] done = new int[size];
        for (int i = 0; i < size; i++) {
            int state = steps.get(i).state;
            done[i] = state == 1 || state == 2 ? steps.get(i).done : -1;
        }
        for (int minute = now; minute < 10000; minute++) {
            boolean all = true;
            int over = 0;
            for (int i = 0; i < size; i++) {
                boolean isOver = done[i] != -1 && done[i] <= minute;
                over |= isOver ? 1 << i : 0;
                all = all && isOver;
            }
            if (all) {
                return minute;
            }
            for (int i = 0; i < size && minute >= whole(); i++) {
                if (done[i] == -1 && (steps.get(i).needs & ~over) == 0) {
                    done[i] = minute + steps.get(i).minutes;
                }
            }
        }
        return -5;
    }

    int find() {
        if (faults.size() == 100) {
            return -1;
        }
        faults.add(true);
        return faults.size() - 1;
    }

    boolean close(int fault) {
        return in(fault, 0, faults.size() - 1) && faults.set(fault, false);
    }

    int feed(int bytes) {
        String more = "";
        for (int shift = 24; shift >= 0; shift -= 8) {
            int next = bytes >> shift & 255;
            more += next == 0 ? "" : String.valueOf((char) next);
        }
        if (tape.length() + more.length() > 100) {
            return -1;
        }
        tape += more;
        return tape.length();
    }

    boolean end(int n) {
        if (!in(n, 0, tape.length())) {
            return false;
        }
        tape = tape.substring(0, n);
        return true;
    }

    int fault() {
        try {
            value(tape);
            return -1;
        } catch (Broken broken) {
            return broken.at;
        }
    }

    boolean rule() {
        if (fault() != -1) {
            return false;
        }
        rule = tape;
        tape = "";
        return true;
    }

    int go() {
        return rule.isEmpty() || value(rule) ? 1 : 0;
    }

    private boolean value(String whole) {
        text = whole;
        at = 0;
        boolean value = tests(0);
        if (at < text.length()) {
            throw new Broken(at);
        }
        return value;
    }

    private char next() {
        while (at < text.length() && text.charAt(at) == ' ') {
            at++;
        }
        return at < text.length() ? text.charAt(at) : 0;
    }

    private boolean tests(int depth) {
        boolean value = part(depth);
        while (next() == '|') {
            at++;
            value |= part(depth);
        }
        return value;
    }

    private boolean part(int depth) {
        boolean value = unit(depth);
        while (next() == '&') {
            at++;
            value &= unit(depth);
        }
        return value;
    }

    private char take(String allowed) {
        char next = next();
        if (next == 0 || allowed.indexOf(next) < 0) {
            throw new Broken(at);
        }
        at++;
        return next;
    }

    private boolean unit(int depth) {
        char first = take(depth < 8 ? "(lnfd" : "lnfd");
        if (first == '(') {
            boolean value = tests(depth + 1);
            take(")");
            return value;
        }
        char sign = take("=<>");
        String number = String.valueOf(take("0123456789"));
        while (number.length() < 4 && at < text.length() && Character.isDigit(text.charAt(at))) {
            number += text.charAt(at++);
        }
        int left = letter(first);
        int right = Integer.parseInt(number);
        return sign == '=' ? left == right : sign == '<' ? left < right : left > right;
    }

    private int letter(char name) {
        return name == 'l' ? Math.max(0, end - now) : name == 'n' ? ready() - now : name == 'f' ? count(7) : count(5);
    }

    int count(int what) {
        int done = 0;
        int safe = 0;
        for (Step step : steps) {
            done += step.state == 2 ? 1 : 0;
            safe += step.safe ? 1 : 0;
        }
        int open = 0;
        for (boolean fault : faults) {
            open += fault ? 1 : 0;
        }
        int[] all = {now, sharing.things, sharing.convoys, fixed != null ? 1 : 0, steps.size(), done, safe, open,
            tape.length(), failures};
        return in(what, 0, 9) ? all[what] : -1;
    }
}
