import java.util.Random;

/** Promises 9 to 14: point, chart, reach, within, inside, beside. */
public final class LineTest {
    private static final Check CHECK = new Check("LineTest");

    public static void main(String[] args) {
        points();
        charts();
        reaches();
        within();
        inside();
        beside();
        linesByTrying();
        shipsByTrying();
        CHECK.end();
    }

    private static void points() {
        NetsCut x = new NetsCut();
        CHECK.due("side", x.point(2, 0, 0), -1);
        CHECK.due("side", x.point(-1, 0, 0), -1);
        CHECK.due("x", x.point(0, 24, 0), -1);
        CHECK.due("y", x.point(0, 0, -1), -1);
        for (int i = 0; i < 16; i++) {
            CHECK.due("point of 1", x.point(1, i, i), i);
        }
        CHECK.due("point 17 of 1", x.point(1, 0, 0), -1);
        CHECK.due("point of 0", x.point(0, 23, 23), 0);
        CHECK.due("points of 0", x.count(3), 1);
        CHECK.due("points of 1", x.count(4), 16);
    }

    private static void charts() {
        NetsCut x = new NetsCut();
        x.point(0, 10, 10);
        CHECK.due("not moved", x.within(0, 1, 13, 10, 0), 1);
        CHECK.due("chart", x.chart(3, -3), true);
        CHECK.due("moved", x.within(0, 1, 13, 7, 0), 1);
        CHECK.due("moved, the far side", x.within(0, 1, 9, 7, 0), 0);
        CHECK.due("chart 0 stays", x.within(0, 0, 7, 10, 0), 1);
        CHECK.due("ox", x.chart(4, 0), false);
        CHECK.due("ox", x.chart(-4, 0), false);
        CHECK.due("oy", x.chart(0, 4), false);
        CHECK.due("oy", x.chart(0, -4), false);
        CHECK.due("as before", x.within(0, 1, 13, 7, 0), 1);
    }

    private static void reaches() {
        NetsCut x = new NetsCut();
        CHECK.due("side", x.reach(2, 0), -1);
        CHECK.due("side", x.reach(-1, 0), -1);
        CHECK.due("minute", x.reach(0, 9000), -1);
        CHECK.due("minute", x.reach(0, -1), -1);
        CHECK.due("statute", Check.enact(x, 0, 5, "reach minute * 2 if minute < 10; reach 0 - 5 if minute = 10"), 0);
        CHECK.due("statute", Check.enact(x, 2, 0, "reach 9"), 1);
        CHECK.due("ahead of it", x.reach(0, 4), 3);
        CHECK.due("from then on", x.reach(0, 5), 10);
        CHECK.due("later", x.reach(0, 9), 18);
        CHECK.due("below 0", x.reach(0, 10), 0);
        CHECK.due("none holds", x.reach(0, 11), 3);
        CHECK.due("the other side", x.reach(1, 9), 3);
        Check.enact(x, 1, 0, "reach 41 + x + y + depth + side + kind + net + speed + inside");
        CHECK.due("above 40", x.reach(1, 0), 40);
        Check.enact(x, 1, 1, "reach 7 + x + y + depth + side + kind + net + speed + inside");
        CHECK.due("all words 0", x.reach(1, 1), 7);
    }

    private static void within() {
        NetsCut x = new NetsCut();
        CHECK.due("no points", x.within(0, 0, 0, 0, 0), 0);
        x.point(0, 0, 0);
        CHECK.due("3, 0", x.within(0, 0, 3, 0, 0), 1);
        CHECK.due("2, 2", x.within(0, 0, 2, 2, 0), 1);
        CHECK.due("3, 1", x.within(0, 0, 3, 1, 0), 0);
        CHECK.due("other side", x.within(1, 0, 0, 0, 0), 0);
        CHECK.due("side", x.within(2, 0, 0, 0, 0), -1);
        CHECK.due("chart", x.within(0, 2, 0, 0, 0), -1);
        CHECK.due("chart", x.within(0, -1, 0, 0, 0), -1);
        CHECK.due("cell", x.within(0, 0, 24, 0, 0), -1);
        CHECK.due("cell", x.within(0, 0, 0, -1, 0), -1);
        CHECK.due("minute", x.within(0, 0, 0, 0, 9000), -1);
        Check.enact(x, 0, 6, "reach 0");
        CHECK.due("reach 0", x.within(0, 0, 0, 0, 6), 1);
        CHECK.due("reach 0, beside", x.within(0, 0, 1, 0, 6), 0);
        CHECK.due("the minute before", x.within(0, 0, 1, 0, 5), 1);
    }

    private static void inside() {
        NetsCut x = new NetsCut();
        for (int i = 0; i < 40; i++) {
            x.ship(i % 2, 0, 1, 0);
        }
        x.point(0, 5, 5);
        x.clock(3);
        x.report(39, 39, 2, 5, 5);
        x.report(38, 38, 2, 5, 5);
        x.report(39, 37, 2, 5, 5);
        x.report(1, 1, 3, 8, 5);
        CHECK.due("inside", x.inside(0, 0, 3, 3), 1L << 39 | 1L << 1);
        CHECK.due("the minute before", x.inside(0, 0, 2, 3), 1L << 39);
        CHECK.due("not known", x.inside(0, 0, 3, 2), 0);
        CHECK.due("of side 1", x.inside(1, 0, 3, 3), 0);
        x.chart(-3, 0);
        CHECK.due("by chart 1", x.inside(0, 1, 3, 3), 1L << 39);
        x.point(1, 0, 0);
        x.report(0, 0, 3, 0, 3);
        CHECK.due("ship 0 inside 1", x.inside(1, 0, 3, 3), 1);
        CHECK.due("side", x.inside(2, 0, 3, 3), -1);
        CHECK.due("chart", x.inside(0, 2, 3, 3), -1);
        CHECK.due("minute", x.inside(0, 0, 9000, 3), -1);
        CHECK.due("known", x.inside(0, 0, 3, -1), -1);
    }

    private static void beside() {
        NetsCut x = new NetsCut();
        x.ship(0, 0, 1, 0);
        x.ship(1, 0, 1, 0);
        x.point(0, 5, 5);
        x.clock(3);
        x.report(1, 1, 0, 5, 5);
        x.report(1, 1, 0, 5, 5);
        x.report(1, 1, 1, 9, 8);
        x.report(0, 1, 1, 5, 5);
        x.report(0, 0, 1, 5, 5);
        CHECK.due("reach 0", x.beside(0, 0), 2);
        CHECK.due("reach 4", x.beside(0, 4), 2);
        CHECK.due("reach 5", x.beside(0, 5), 3);
        CHECK.due("reach 40", x.beside(0, 40), 3);
        CHECK.due("no points", x.beside(1, 40), 0);
        x.point(1, 0, 0);
        CHECK.due("nothing there", x.beside(1, 0), 0);
        CHECK.due("a report of ship 0", x.beside(1, 8), 1);
        x.chart(3, 3);
        CHECK.due("by chart 0", x.beside(0, 0), 2);
        CHECK.due("reach 41", x.beside(0, 41), -1);
        CHECK.due("reach -1", x.beside(0, -1), -1);
        CHECK.due("side", x.beside(2, 0), -1);
    }

    private static void linesByTrying() {
        Random random = new Random(5);
        for (int run = 0; run < 100; run++) {
            NetsCut x = new NetsCut();
            int n = random.nextInt(17);
            int[][] points = new int[n][];
            for (int i = 0; i < n; i++) {
                points[i] = new int[] {random.nextInt(24), random.nextInt(24)};
                x.point(1, points[i][0], points[i][1]);
            }
            int ox = random.nextInt(7) - 3;
            int oy = random.nextInt(7) - 3;
            x.chart(ox, oy);
            int reach = random.nextInt(9);
            Check.enact(x, 1, 0, "reach " + reach);
            for (int i = 0; i < 100; i++) {
                int chart = random.nextInt(2);
                int cx = random.nextInt(24);
                int cy = random.nextInt(24);
                int near = 0;
                for (int[] p : points) {
                    double dx = cx - (p[0] + chart * ox);
                    double dy = cy - (p[1] + chart * oy);
                    near = Math.sqrt(dx * dx + dy * dy) <= reach ? 1 : near;
                }
                CHECK.due("within", x.within(1, chart, cx, cy, 0), near);
            }
        }
    }

    /** inside() and beside() against within(), report by report and ship by ship. */
    private static void shipsByTrying() {
        Random random = new Random(6);
        for (int run = 0; run < 60; run++) {
            NetsCut x = new NetsCut();
            int[] side = new int[12];
            int[] place = new int[12];
            for (int s = 0; s < side.length; s++) {
                side[s] = random.nextInt(2);
                x.ship(side[s], 0, 1, 0);
                x.point(random.nextInt(2), random.nextInt(24), random.nextInt(24));
            }
            x.chart(random.nextInt(7) - 3, random.nextInt(7) - 3);
            int[] reach = {random.nextInt(9), random.nextInt(9)};
            Check.enact(x, 0, 0, "reach " + reach[0]);
            Check.enact(x, 1, 0, "reach " + reach[1]);
            int[] beside = new int[2];
            for (int r = 0; r < 40; r++) {
                int by = random.nextInt(side.length);
                int of = random.nextInt(3) == 0 ? random.nextInt(side.length) : by;
                place[by] = by == of ? 1 + random.nextInt(576) : place[by];
                int cell = by == of ? place[by] - 1 : random.nextInt(576);
                x.report(by, of, 0, cell % 24, cell / 24);
                beside[1 - side[of]] += by == of ? x.within(1 - side[of], 0, cell % 24, cell / 24, 0) : 0;
            }
            for (int of = 0; of < 2; of++) {
                CHECK.due("beside", x.beside(of, reach[of]), beside[of]);
                for (int chart = 0; chart < 2; chart++) {
                    long inside = 0;
                    for (int s = 0; s < side.length; s++) {
                        boolean is = side[s] != of && place[s] > 0;
                        inside |= is ? (long) x.within(of, chart, (place[s] - 1) % 24, (place[s] - 1) / 24, 0) << s : 0;
                    }
                    CHECK.due("inside", x.inside(of, chart, 0, 0), inside);
                }
            }
        }
    }
}
