import java.util.function.Supplier;
import java.util.function.ToIntFunction;

/** Calls at an edge: what is taken on this side of it, what is refused on the other, and that this changes nothing. */
final class Edge {
    static final int NONE = -1;
    static final int LOWEST = Integer.MIN_VALUE;
    static final int HIGHEST = Integer.MAX_VALUE;

    /** A call with one of its numbers left open. */
    interface Open {
        int with(NightMove x, int number);
    }

    private Edge() {
    }

    static int yes(boolean answer) {
        return answer ? 1 : 0;
    }

    static void taken(String call, Supplier<NightMove> night, ToIntFunction<NightMove> asked, int want) {
        Check.due(call, asked.applyAsInt(night.get()), want);
    }

    /** The object that refused must answer on as its twin does that was never asked. */
    static void refused(String call, Supplier<NightMove> night, ToIntFunction<NightMove> asked, int want) {
        NightMove x = night.get();
        NightMove twin = night.get();
        Check.due(call, asked.applyAsInt(x), want);
        Check.due(call + " changed nothing", Look.at(x).equals(Look.at(twin)), true);
    }

    /** low and high are taken; the numbers next to them and the ends of int are refused. */
    static void bounds(String call, Supplier<NightMove> night, Open asked, int[] lowHigh, int[] takenRefused) {
        for (int number : lowHigh) {
            taken(call + ", " + number, night, x -> asked.with(x, number), takenRefused[0]);
        }
        for (int number : new int[] {lowHigh[0] - 1, lowHigh[1] + 1, LOWEST, HIGHEST}) {
            refused(call + ", " + number, night, x -> asked.with(x, number), takenRefused[1]);
        }
    }
}
