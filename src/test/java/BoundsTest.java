import java.util.List;

/**
 * The bounds of every argument of every call: the last value that is taken and the first that is
 * refused on either side, what a refusal answers, and that nothing happens by it.
 */
public final class BoundsTest {
    private static final Check CHECK = new Check("BoundsTest");
    private static final List<Long> UNTOUCHED = Ready.picture(Ready.sea());
    private static final int LAST_SHIP = Ready.SHIPS - 1;
    private static final int NOW = Ready.NOW;

    public static void main(String[] args) {
        sea();
        lines();
        law();
        games();
        stocks();
        townsAndNotes();
        boxesAndCounts();
        CHECK.end();
    }

    /** An argument: what stands there while others are tried, and its least and its most. */
    private record Bound(int usual, int least, int most) {
    }

    private static Bound in(int usual, int least, int most) {
        return new Bound(usual, least, most);
    }

    private static Bound cell() {
        return in(7, 0, 23);
    }

    private static Bound minute() {
        return in(99, 0, 8999);
    }

    private static Bound side() {
        return in(1, 0, 1);
    }

    private static Bound author() {
        return in(1, 0, 2);
    }

    private static Bound ship() {
        return in(1, 0, LAST_SHIP);
    }

    /** A call that may change something when it is taken. */
    private static void changes(String name, long refusal, Bound... bounds) {
        tryBounds(name, refusal, false, bounds);
    }

    /** A call that never changes anything. */
    private static void asks(String name, long refusal, Bound... bounds) {
        tryBounds(name, refusal, true, bounds);
    }

    private static void tryBounds(String name, long refusal, boolean asks, Bound... bounds) {
        for (int i = 0; i < bounds.length; i++) {
            int least = bounds[i].least();
            int most = bounds[i].most();
            for (int good : new int[] {least, most}) {
                taken(name, refusal, asks, with(bounds, i, good));
            }
            for (int bad : new int[] {least - 1, most + 1, least - 65536, most + 65536, Integer.MIN_VALUE, Integer.MAX_VALUE}) {
                refused(name, refusal, with(bounds, i, bad));
            }
        }
    }

    private static int[] with(Bound[] bounds, int place, int value) {
        int[] arguments = new int[bounds.length];
        for (int i = 0; i < bounds.length; i++) {
            arguments[i] = i == place ? value : bounds[i].usual();
        }
        return arguments;
    }

    private static void taken(String name, long refusal, boolean asks, int... arguments) {
        NetsCut x = Ready.sea();
        String call = Calls.told(name, arguments);
        CHECK.due(call + " is refused", Calls.answer(x, name, arguments) == refusal, false);
        if (asks) {
            CHECK.due(call + " changes nothing", Ready.picture(x).equals(UNTOUCHED), true);
        }
    }

    private static void refused(String name, long refusal, int... arguments) {
        NetsCut x = Ready.sea();
        String call = Calls.told(name, arguments);
        CHECK.due(call, Calls.answer(x, name, arguments), refusal);
        CHECK.due(call + " changes nothing", Ready.picture(x).equals(UNTOUCHED), true);
    }

    private static void sea() {
        changes("clock", 0, in(100, NOW, 8999));
        changes("depth", -1, cell(), cell(), in(5, 0, 999));
        changes("ship", -1, side(), in(1, 0, 2), in(2, 1, 3), in(60, 0, 199));
        changes("report", -1, ship(), ship(), in(9, 0, NOW), cell(), cell());
        asks("where", -1, ship(), minute(), minute());
        changes("chain", -1, ship(), minute());
        asks("chained", -1, in(0, 0, Ready.CHAINED - 1));
    }

    private static void lines() {
        changes("point", -1, side(), cell(), cell());
        changes("chart", 0, in(0, -3, 3), in(0, -3, 3));
        asks("reach", -1, side(), minute());
        asks("within", -1, side(), in(1, 0, 1), cell(), cell(), minute());
        asks("inside", -1, side(), in(1, 0, 1), minute(), minute());
        asks("beside", -1, side(), in(3, 0, 40));
    }

    private static void law() {
        changes("end", -1, in(3, 0, Ready.TAPE));
        changes("statute", -1, author(), in(500, NOW, 8999));
        asks("inForce", -1, in(0, 0, Ready.STATUTES - 1), minute());
        asks("may", -1, author(), in(2, 0, 4), ship(), cell(), cell(), minute());
        asks("mesh", 0, author(), ship(), cell(), cell(), minute());
        asks("by", -1, in(0, 0, 2), in(2, 0, 4), ship(), cell(), cell(), minute());
        thingsThatAreNoWhats();
        changes("act", -1, ship(), in(2, 0, 4), cell(), cell(), in(9, 0, NOW));
        asks("kept", -1, in(0, 0, Ready.ACTS - 1), author());
        asks("broken", -1, side(), author());
    }

    /** Each author has clauses of reach and mesh in force, author 1 one of strike: none of them is a WHAT. */
    private static void thingsThatAreNoWhats() {
        for (int author = 0; author < 3; author++) {
            for (int what = 5; what < 16; what++) {
                refused("by", -1, author, what, 1, 7, 7, 99);
                refused("may", -1, author, what, 1, 7, 7, 99);
                refused("act", -1, author, what, 7, 7, 99);
            }
        }
    }

    private static void games() {
        changes("hook", -1, in(5, 1, 5), in(5, 1, 5), in(0, 0, 24), in(1, 0, 24), in(-1, -1, 24), in(8, 0, 8));
        int[][] boxes = {{1, 2}, {2, 1}, {5, 5}, {4, 3}, {3, 4}};
        for (int[] box : boxes) {
            int w = box[0];
            int h = box[1];
            int last = w * h - 1;
            taken("hook", -1, false, w, h, last, 0, -1, 8);
            taken("hook", -1, false, w, h, 0, last, -1, 8);
            taken("hook", -1, false, w, h, 0, 0, last, 8);
            refused("hook", -1, w, h, last + 1, 0, -1, 8);
            refused("hook", -1, w, h, 0, last + 1, -1, 8);
            refused("hook", -1, w, h, 0, 0, last + 1, 8);
            // warder and frigate in one cell, even if the trawler is there too
            refused("hook", -1, w, h, 0, last, last, 8);
            refused("hook", -1, w, h, last, last, last, 8);
        }
        // only the frigate may be NONE, whether or not there is one
        for (int frigate : new int[] {-1, 0, 24}) {
            refused("hook", -1, 5, 5, 7, -1, frigate, 8);
            refused("hook", -1, 5, 5, -1, 7, frigate, 8);
            refused("hook", -1, 5, 5, -1, -1, frigate, 8);
        }
        // a hook in 0 minutes, and one that is not by then, leave hooks() as it was
        taken("hook", -1, true, 5, 5, 7, 7, -1, 8);
        taken("hook", -1, true, 5, 5, 0, 24, -1, 8);
        taken("hooks", -1, true);
        ways();
    }

    private static void ways() {
        for (int s = 0; s < Ready.SHIPS; s++) {
            taken("way", -1, true, s, (s + 1) % Ready.SHIPS, NOW, NOW);
            for (int bad : new int[] {s, -1, Ready.SHIPS, Integer.MIN_VALUE, Integer.MAX_VALUE}) {
                refused("way", -1, s, bad, NOW, NOW);
                refused("way", -1, bad, s, NOW, NOW);
            }
        }
        taken("way", -1, true, 0, 1, 1, 0);
        taken("way", -1, true, 0, 1, 8999, 8999);
        for (int bad : new int[] {-1, 9000, Integer.MIN_VALUE, Integer.MAX_VALUE}) {
            refused("way", -1, 0, 1, bad, NOW);
            refused("way", -1, 0, 1, NOW, bad);
        }
        refused("way", -1, 0, 1, 0, NOW);
    }

    private static void stocks() {
        changes("office", 0, in(0, 0, 1), in(50, 0, 99999999), in(7, 0, 1000));
        changes("year", -1, in(0, 0, 2), in(3, 0, 39), in(50, 0, 9999999));
        asks("stock", -1, in(0, 0, 1), in(3, 0, 39));
        asks("fails", -1, in(0, 0, 1));
        asks("agree", -1, in(0, 0, 1), in(3, 0, 39));
        changes("age", 0, in(3, 0, 7), in(50, 0, 999999), in(50, 0, 199), in(50, 0, 999));
        asks("landed", -1, in(9, 1, 30), in(50, 0, 199), in(50, 0, 1000), in(50, 0, 1000), in(50, 0, 999999));
        asks("pays", -1, in(50, 0, 199), in(60, 0, 199), in(50, 0, 1000), in(50, 0, 1000), in(50, 0, 999999));
    }

    private static void townsAndNotes() {
        changes("town", -1, side(), in(50, 0, 9999), in(50, 0, 9999999), in(50, 0, 99999));
        changes("bar", -1, in(1, 0, Ready.TOWNS - 1), in(20, 0, 30), in(30, 20, 99));
        asks("lost", -1, in(1, 0, Ready.TOWNS - 1), in(20, 0, 99));
        asks("yields", -1, in(1, 0, Ready.TOWNS - 1));
        asks("sideYields", -1, side());
        changes("term", -1, in(5, -9999, 9999), in(5, -9999, 9999));
        asks("sign", -1, in(5, -99999, 99999), in(5, -99999, 99999));
    }

    private static void boxesAndCounts() {
        changes("box", -1, in(50, 0, 9999), in(50, 0, 999), in(50, 0, 99));
        changes("escort", -1, in(3, 0, 12), in(3, 0, 6));
        asks("escorts", -1000000000, in(0, 0, 0));
        asks("escorts", -1000000000, in(101, 100, 99 + Ready.BOXES));
        asks("escorts", -1000000000, in(201, 200, 199 + Ready.BOXES));
        asks("count", -1, in(0, 0, 11));
    }
}
