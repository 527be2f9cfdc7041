import java.util.ArrayList;
import java.util.List;
import java.util.Random;

/** Promises 1 to 8 and 46: a new object, clock, depth, ship, report, where, chain, chained, count. */
public final class SeaTest {
    private static final Check CHECK = new Check("SeaTest");

    public static void main(String[] args) {
        newObject();
        clock();
        depth();
        ships();
        reports();
        where();
        chainByHand();
        chainsByTrying();
        counts();
        CHECK.end();
    }

    private static void newObject() {
        NetsCut x = new NetsCut();
        for (int what = 0; what <= 11; what++) {
            CHECK.due("new count(" + what + ")", x.count(what), 0);
        }
        CHECK.due("new hooks()", x.hooks(), -1);
        CHECK.due("new chained(0)", x.chained(0), -1);
        CHECK.due("new escorts(0)", x.escorts(0), -1000000000);
        CHECK.due("new depth", x.depth(3, 4, 5), 0);
        CHECK.due("new stock", x.stock(0, 39), 0);
        CHECK.due("new reach", x.reach(0, 0), 3);
    }

    private static void clock() {
        NetsCut x = new NetsCut();
        CHECK.due("clock(0)", x.clock(0), true);
        CHECK.due("clock(-1)", x.clock(-1), false);
        CHECK.due("clock(7)", x.clock(7), true);
        CHECK.due("clock(6)", x.clock(6), false);
        CHECK.due("now", x.count(0), 7);
        CHECK.due("clock(9000)", x.clock(9000), false);
        CHECK.due("clock(8999)", x.clock(8999), true);
        CHECK.due("clock(8999) again", x.clock(8999), true);
        CHECK.due("now", x.count(0), 8999);
    }

    private static void depth() {
        NetsCut x = new NetsCut();
        CHECK.due("depth", x.depth(0, 23, 999), 0);
        CHECK.due("depth", x.depth(0, 23, 1000), -1);
        CHECK.due("depth", x.depth(0, 23, -1), -1);
        CHECK.due("depth", x.depth(24, 0, 1), -1);
        CHECK.due("depth", x.depth(0, -1, 1), -1);
        CHECK.due("depth", x.depth(0, 23, 0), 999);
        CHECK.due("depth", x.depth(23, 0, 0), 0);
    }

    private static void ships() {
        NetsCut x = new NetsCut();
        CHECK.due("ship", x.ship(2, 0, 1, 0), -1);
        CHECK.due("ship", x.ship(-1, 0, 1, 0), -1);
        CHECK.due("ship", x.ship(0, 3, 1, 0), -1);
        CHECK.due("ship", x.ship(0, -1, 1, 0), -1);
        CHECK.due("ship", x.ship(0, 0, 0, 0), -1);
        CHECK.due("ship", x.ship(0, 0, 4, 0), -1);
        CHECK.due("ship", x.ship(0, 0, 1, 200), -1);
        CHECK.due("ship", x.ship(0, 0, 1, -1), -1);
        for (int i = 0; i < 40; i++) {
            CHECK.due("ship", x.ship(i % 2, i % 3, 1 + i % 3, i * 5 % 200), i);
        }
        CHECK.due("ship 41", x.ship(0, 0, 1, 0), -1);
        CHECK.due("ships", x.count(1), 40);
    }

    private static void reports() {
        NetsCut x = new NetsCut();
        CHECK.due("no ship", x.report(0, 0, 0, 0, 0), -1);
        x.ship(0, 0, 1, 0);
        x.ship(1, 0, 1, 0);
        x.clock(5);
        CHECK.due("behind now", x.report(0, 0, 6, 0, 0), -1);
        CHECK.due("minute", x.report(0, 0, -1, 0, 0), -1);
        CHECK.due("cell", x.report(0, 0, 5, 24, 0), -1);
        CHECK.due("cell", x.report(0, 0, 5, 0, -1), -1);
        CHECK.due("by", x.report(2, 0, 5, 0, 0), -1);
        CHECK.due("of", x.report(0, -1, 5, 0, 0), -1);
        for (int i = 0; i < 300; i++) {
            CHECK.due("report", x.report(i % 2, 1, i % 6, i % 24, 0), i);
        }
        CHECK.due("report 301", x.report(0, 0, 0, 0, 0), -1);
        CHECK.due("reports", x.count(2), 300);
    }

    private static void where() {
        NetsCut x = new NetsCut();
        x.ship(0, 0, 1, 0);
        x.ship(0, 0, 1, 0);
        CHECK.due("nowhere", x.where(0, 0, 0), -1);
        x.clock(10);
        x.report(0, 0, 4, 2, 3);
        x.report(1, 0, 9, 9, 9);
        x.report(0, 0, 8, 5, 6);
        x.clock(20);
        x.report(0, 0, 8, 7, 23);
        x.report(0, 0, 6, 1, 1);
        CHECK.due("ahead of all", x.where(0, 3, 8999), -1);
        CHECK.due("not known", x.where(0, 9, 9), -1);
        CHECK.due("first", x.where(0, 4, 10), 24 * 3 + 2);
        CHECK.due("between", x.where(0, 7, 10), 24 * 3 + 2);
        CHECK.due("between, known", x.where(0, 7, 20), 24 + 1);
        CHECK.due("latest", x.where(0, 8999, 19), 24 * 6 + 5);
        CHECK.due("last told", x.where(0, 8999, 20), 24 * 23 + 7);
        CHECK.due("others' reports", x.where(1, 8999, 8999), -1);
        CHECK.due("ship", x.where(2, 0, 0), -1);
        CHECK.due("ship", x.where(-1, 0, 0), -1);
        CHECK.due("minute", x.where(0, 9000, 8999), -1);
        CHECK.due("minute", x.where(0, -1, 8999), -1);
        CHECK.due("known", x.where(0, 8999, 9000), -1);
        CHECK.due("known", x.where(0, 8999, -1), -1);
    }

    private static void chainByHand() {
        NetsCut x = new NetsCut();
        x.ship(0, 0, 2, 0);
        x.ship(1, 0, 1, 0);
        CHECK.due("empty chain", x.chain(0, 0), 0);
        x.clock(10);
        x.report(0, 0, 5, 4, 4);
        x.report(1, 0, 5, 5, 4);
        x.report(1, 0, 6, 6, 6);
        x.report(0, 0, 3, 0, 0);
        x.report(1, 0, 5, 4, 4);
        x.clock(11);
        x.report(1, 0, 7, 4, 4);
        CHECK.due("chain", x.chain(0, 10), 4);
        CHECK.due("chained 0", x.chained(0), 3);
        CHECK.due("chained 1", x.chained(1), 0);
        CHECK.due("chained 2", x.chained(2), 4);
        CHECK.due("chained 3", x.chained(3), 2);
        CHECK.due("chained 4", x.chained(4), -1);
        CHECK.due("chained -1", x.chained(-1), -1);
        CHECK.due("without ship", x.chain(2, 10), -1);
        CHECK.due("without minute", x.chain(0, 9000), -1);
        CHECK.due("as before", x.chained(0), 3);
        CHECK.due("chain later", x.chain(0, 11), 5);
        CHECK.due("chained 4", x.chained(4), 5);
        CHECK.due("nothing known", x.chain(0, 9), 0);
        CHECK.due("chained 0", x.chained(0), -1);
    }

    /** All sets are tried: the plainest way that the document's words allow. */
    private static void chainsByTrying() {
        Random random = new Random(11);
        for (int run = 0; run < 300; run++) {
            NetsCut x = new NetsCut();
            int speed = 1 + random.nextInt(3);
            x.ship(0, 0, speed, 0);
            x.ship(1, 0, 1, 0);
            List<int[]> told = new ArrayList<>();
            int now = 0;
            int n = random.nextInt(13);
            for (int i = 0; i < n; i++) {
                now += random.nextInt(3);
                x.clock(now);
                int of = random.nextInt(8) == 0 ? 1 : 0;
                int[] r = {of, random.nextInt(now + 1), random.nextInt(8), random.nextInt(8), now};
                x.report(random.nextInt(2), of, r[1], r[2], r[3]);
                told.add(r);
            }
            for (int known = 0; known <= now; known += 1 + random.nextInt(5)) {
                List<Integer> best = bestSet(told, speed, known);
                CHECK.due("chain of run " + run, x.chain(0, known), best.size());
                for (int k = 0; k < best.size(); k++) {
                    CHECK.due("chained of run " + run, x.chained(k), best.get(k));
                }
                CHECK.due("behind the chain", x.chained(best.size()), -1);
            }
        }
    }

    private static List<Integer> bestSet(List<int[]> told, int speed, int known) {
        List<Integer> order = new ArrayList<>();
        for (int i = 0; i < told.size(); i++) {
            if (told.get(i)[0] == 0 && told.get(i)[4] <= known) {
                order.add(i);
            }
        }
        order.sort((a, b) -> told.get(a)[1] != told.get(b)[1] ? told.get(a)[1] - told.get(b)[1] : a - b);
        List<Integer> best = new ArrayList<>();
        String bestPlaces = "";
        for (int set = 0; set < 1 << order.size(); set++) {
            List<Integer> some = new ArrayList<>();
            StringBuilder places = new StringBuilder();
            for (int i = 0; i < order.size(); i++) {
                if ((set >> i & 1) == 1) {
                    some.add(order.get(i));
                    places.append((char) ('a' + i));
                }
            }
            if (canAllBe(told, some, speed) && (some.size() > best.size()
                    || some.size() == best.size() && places.toString().compareTo(bestPlaces) < 0)) {
                best = some;
                bestPlaces = places.toString();
            }
        }
        return best;
    }

    private static boolean canAllBe(List<int[]> told, List<Integer> some, int speed) {
        for (int a : some) {
            for (int b : some) {
                int[] p = told.get(a);
                int[] q = told.get(b);
                if (Math.max(Math.abs(p[2] - q[2]), Math.abs(p[3] - q[3])) > speed * Math.abs(p[1] - q[1])) {
                    return false;
                }
            }
        }
        return true;
    }

    private static void counts() {
        NetsCut x = new NetsCut();
        x.clock(4);
        x.ship(0, 0, 1, 0);
        x.ship(0, 0, 1, 0);
        x.report(0, 0, 0, 0, 0);
        x.report(0, 0, 0, 0, 0);
        x.report(0, 0, 0, 0, 0);
        x.point(0, 0, 0);
        x.point(1, 0, 0);
        x.point(1, 0, 0);
        Check.enact(x, 0, 4, "reach 1");
        x.act(0, 0, 0, 0, 4);
        x.act(0, 0, 0, 0, 4);
        x.town(0, 1, 1, 1);
        x.bar(0, 0, 0);
        x.bar(0, 0, 0);
        x.bar(0, 0, 0);
        x.term(0, 0);
        x.term(0, 0);
        x.box(0, 0, 0);
        x.feed(0, 0, 0, 0, 0);
        int[] want = {4, 2, 3, 1, 2, 1, 2, 1, 3, 2, 1, 20};
        for (int what = 0; what < want.length; what++) {
            CHECK.due("count(" + what + ")", x.count(what), want[what]);
        }
        CHECK.due("count(12)", x.count(12), -1);
        CHECK.due("count(-1)", x.count(-1), -1);
    }
}
