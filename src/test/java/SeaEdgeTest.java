/** The sentences of the document's parts I and II, one by one, at their edges. */
public final class SeaEdgeTest {
    private static final Check CHECK = new Check("SeaEdgeTest");

    public static void main(String[] args) {
        nowIsAtFirst0();
        nowNeverGoesBack();
        depthsAreAsToldLast();
        shipsHaveBoundsOfTheirOwn();
        reportsAreNotBehindNow();
        reportsAreKnownFromNowOn();
        whereIsTheLatestNotBehind();
        whereIsTheLastTold();
        whereIsByItself();
        bothCanBeUpToTheSpeed();
        oneMinuteIsOneCell();
        bothCanBeByItsOwnSpeed();
        chainsAreInOrder();
        firstOfSeveralChains();
        chainsOfAll();
        latestChain();
        linesEndAtReach();
        chartsMovePoints();
        pointsMoveOutOfTheSea();
        reachIsHeld();
        reachIsOfTheMinute();
        insideIsOfTheOtherSide();
        besideIsInWhateverMinute();
        CHECK.end();
    }

    // ---- I.

    private static void nowIsAtFirst0() {
        NetsCut x = new NetsCut();
        x.ship(0, 0, 1, 0);
        CHECK.due("now", x.count(0), 0);
        CHECK.due("a report of minute 0", x.report(0, 0, 0, 0, 0), 0);
        CHECK.due("a report of minute 1", x.report(0, 0, 1, 0, 0), -1);
        CHECK.due("an act of minute 0", x.act(0, 0, 0, 0, 0), 0);
        CHECK.due("an act of minute 1", x.act(0, 0, 0, 0, 1), -1);
        CHECK.due("a statute from minute 0 on", Check.enact(x, 0, 0, "may cut"), 0);
        CHECK.due("another object's own", new NetsCut().count(5), 0);
    }

    private static void nowNeverGoesBack() {
        NetsCut x = new NetsCut();
        CHECK.due("its own minute", x.clock(0), true);
        CHECK.due("one later", x.clock(1), true);
        CHECK.due("one back", x.clock(0), false);
        CHECK.due("now", x.count(0), 1);
        CHECK.due("one before the last", x.clock(8998), true);
        CHECK.due("behind the last", x.clock(9000), false);
        CHECK.due("now", x.count(0), 8998);
        CHECK.due("the last", x.clock(8999), true);
        CHECK.due("back by one", x.clock(8998), false);
        CHECK.due("the last again", x.clock(8999), true);
        CHECK.due("behind the last", x.clock(9000), false);
        CHECK.due("now", x.count(0), 8999);
    }

    private static void depthsAreAsToldLast() {
        NetsCut x = new NetsCut();
        int[] ends = {0, 23};
        int told = 1;
        for (int cx : ends) {
            for (int cy : ends) {
                CHECK.due("0 at first", x.depth(cx, cy, told), 0);
                told++;
            }
        }
        told = 1;
        for (int cx : ends) {
            for (int cy : ends) {
                CHECK.due("each cell's own", x.depth(cx, cy, 999), told);
                CHECK.due("too deep", x.depth(cx, cy, 1000), -1);
                CHECK.due("too shallow", x.depth(cx, cy, -1), -1);
                CHECK.due("as told last", x.depth(cx, cy, 0), 999);
                CHECK.due("as told last", x.depth(cx, cy, 0), 0);
                told++;
            }
        }
        CHECK.due("x and y are two", x.depth(3, 4, 7), 0);
        CHECK.due("x and y are two", x.depth(4, 3, 8), 0);
        CHECK.due("x and y are two", x.depth(3, 4, 0), 7);
    }

    private static void shipsHaveBoundsOfTheirOwn() {
        NetsCut x = new NetsCut();
        CHECK.due("the least", x.ship(0, 0, 1, 0), 0);
        CHECK.due("the most", x.ship(1, 2, 3, 199), 1);
        Check.enact(x, 2, 0, "mesh side*10000+kind*1000+speed*0+net");
        CHECK.due("the least", x.mesh(2, 0, 0, 0, 0), 0);
        CHECK.due("the most", x.mesh(2, 1, 0, 0, 0), 12199);
        CHECK.due("a refused one takes no number", x.ship(0, 0, 4, 0), -1);
        CHECK.due("the next number", x.ship(0, 0, 3, 0), 2);
    }

    private static void reportsAreNotBehindNow() {
        NetsCut x = new NetsCut();
        x.ship(0, 0, 1, 0);
        x.ship(1, 0, 1, 0);
        x.clock(8998);
        CHECK.due("now", x.report(0, 1, 8998, 0, 0), 0);
        CHECK.due("behind now", x.report(0, 1, 8999, 0, 0), -1);
        CHECK.due("the first minute", x.report(1, 1, 0, 23, 23), 1);
        CHECK.due("of itself", x.report(0, 0, 5, 1, 1), 2);
        x.clock(8999);
        CHECK.due("the last minute", x.report(0, 1, 8999, 0, 0), 3);
        CHECK.due("there is none behind it", x.report(0, 1, 9000, 0, 0), -1);
        CHECK.due("reports", x.count(2), 4);
    }

    private static void reportsAreKnownFromNowOn() {
        NetsCut x = new NetsCut();
        x.ship(0, 0, 1, 0);
        x.ship(1, 0, 1, 0);
        x.point(0, 5, 5);
        x.clock(10);
        x.report(1, 1, 0, 5, 5);
        x.report(0, 0, 0, 6, 5);
        CHECK.due("where, a minute ahead", x.where(1, 0, 9), -1);
        CHECK.due("where, from now on", x.where(1, 0, 10), 24 * 5 + 5);
        CHECK.due("chain, a minute ahead", x.chain(1, 9), 0);
        CHECK.due("chain, from now on", x.chain(1, 10), 1);
        CHECK.due("inside, a minute ahead", x.inside(0, 0, 0, 9), 0);
        CHECK.due("inside, from now on", x.inside(0, 0, 0, 10), 2);
        CHECK.due("way, a minute ahead", x.way(0, 1, 1, 9), -2);
        CHECK.due("way, from now on", x.way(0, 1, 1, 10), 0);
        CHECK.due("beside needs no minute", x.beside(0, 0), 1);
    }

    private static void whereIsTheLatestNotBehind() {
        NetsCut x = new NetsCut();
        x.ship(0, 0, 1, 0);
        x.clock(20);
        x.report(0, 0, 15, 3, 0);
        x.report(0, 0, 5, 1, 0);
        x.report(0, 0, 10, 2, 0);
        CHECK.due("ahead of the first", x.where(0, 4, 20), -1);
        CHECK.due("the first", x.where(0, 5, 20), 1);
        CHECK.due("ahead of the second", x.where(0, 9, 20), 1);
        CHECK.due("the second", x.where(0, 10, 20), 2);
        CHECK.due("ahead of the third", x.where(0, 14, 20), 2);
        CHECK.due("the third", x.where(0, 15, 20), 3);
        CHECK.due("behind now", x.where(0, 8999, 20), 3);
        x.report(0, 0, 20, 23, 23);
        CHECK.due("the last cell", x.where(0, 8999, 8999), 575);
        x.report(0, 0, 0, 0, 0);
        CHECK.due("the first cell", x.where(0, 0, 20), 0);
    }

    private static void whereIsTheLastTold() {
        NetsCut x = new NetsCut();
        x.ship(0, 0, 1, 0);
        x.clock(5);
        x.report(0, 0, 5, 1, 0);
        x.report(0, 0, 5, 2, 0);
        x.clock(6);
        x.report(0, 0, 5, 3, 0);
        x.report(0, 0, 4, 4, 0);
        CHECK.due("of those known by 5", x.where(0, 5, 5), 2);
        CHECK.due("of those known by 6", x.where(0, 5, 6), 3);
        CHECK.due("told last, but of an earlier minute", x.where(0, 4, 6), 4);
        CHECK.due("not known by 5", x.where(0, 4, 5), -1);
    }

    private static void whereIsByItself() {
        NetsCut x = new NetsCut();
        x.ship(0, 0, 1, 0);
        x.ship(0, 0, 1, 0);
        x.clock(5);
        x.report(1, 0, 5, 1, 0);
        CHECK.due("of it by another", x.where(0, 5, 5), -1);
        CHECK.due("by it of another", x.where(1, 5, 5), -1);
        x.report(0, 0, 3, 2, 0);
        CHECK.due("by itself, though earlier", x.where(0, 5, 5), 2);
    }

    private static int both(int speed, int minutes, int dx, int dy) {
        NetsCut x = new NetsCut();
        x.ship(0, 0, speed, 0);
        x.clock(100);
        x.report(0, 0, 50, 11, 11);
        x.report(0, 0, 50 + minutes, 11 + dx, 11 + dy);
        return x.chain(0, 100) - 1;
    }

    private static void bothCanBeUpToTheSpeed() {
        for (int speed = 1; speed <= 3; speed++) {
            for (int minutes : new int[] {-3, -2, -1, 1, 2, 3}) {
                int way = speed * Math.abs(minutes);
                for (int sign = -1; sign <= 1; sign += 2) {
                    CHECK.due("in x", both(speed, minutes, sign * way, 0), 1);
                    CHECK.due("in y", both(speed, minutes, 0, sign * way), 1);
                    CHECK.due("in both", both(speed, minutes, sign * way, -sign * way), 1);
                    CHECK.due("one too far in x", both(speed, minutes, sign * (way + 1), 0), 0);
                    CHECK.due("one too far in y", both(speed, minutes, way, sign * (way + 1)), 0);
                }
            }
        }
    }

    private static void oneMinuteIsOneCell() {
        for (int speed = 1; speed <= 3; speed++) {
            CHECK.due("the same cell", both(speed, 0, 0, 0), 1);
            CHECK.due("the next in x", both(speed, 0, 1, 0), 0);
            CHECK.due("the next in y", both(speed, 0, 0, -1), 0);
        }
    }

    /** Each ship's speed is its own, whoever reports it. */
    private static void bothCanBeByItsOwnSpeed() {
        NetsCut x = new NetsCut();
        for (int ship = 0; ship < 6; ship++) {
            x.ship(ship % 2, ship % 3, 1 + ship % 3, 0);
        }
        x.clock(2);
        for (int ship = 0; ship < 6; ship++) {
            x.report(5 - ship, ship, 0, 10, 10);
            x.report(5 - ship, ship, 2, 10, 14);
        }
        for (int ship = 0; ship < 6; ship++) {
            CHECK.due("4 in 2 minutes with speed " + (1 + ship % 3), x.chain(ship, 2), ship % 3 == 0 ? 1 : 2);
            CHECK.due("its first report", x.chained(0), 2 * ship);
        }
    }

    private static void chained(NetsCut x, int ship, int known, int... want) {
        CHECK.due("chain(" + ship + ", " + known + ")", x.chain(ship, known), want.length);
        for (int k = 0; k < want.length; k++) {
            CHECK.due("chained(" + k + ")", x.chained(k), want[k]);
        }
        CHECK.due("chained behind the last", x.chained(want.length), -1);
        CHECK.due("chained ahead of the first", x.chained(-1), -1);
    }

    private static void chainsAreInOrder() {
        NetsCut x = new NetsCut();
        x.ship(0, 0, 1, 0);
        x.ship(1, 0, 1, 0);
        x.clock(9);
        x.report(1, 0, 9, 5, 5);
        x.report(0, 0, 3, 5, 5);
        x.report(0, 1, 3, 5, 5);
        x.report(1, 0, 6, 5, 5);
        x.report(0, 0, 3, 5, 5);
        chained(x, 0, 9, 1, 4, 3, 0);
        chained(x, 1, 9, 2);
    }

    private static void firstOfSeveralChains() {
        NetsCut x = new NetsCut();
        x.ship(0, 0, 1, 0);
        x.clock(9);
        // of one minute, each with a cell of its own: the lower number
        x.report(0, 0, 5, 20, 0);
        x.report(0, 0, 5, 10, 0);
        chained(x, 0, 9, 0);
        // an earlier minute goes ahead of a lower number
        x.report(0, 0, 4, 0, 20);
        chained(x, 0, 9, 2);
        // a longer one goes ahead of an earlier one
        x.report(0, 0, 6, 11, 0);
        chained(x, 0, 9, 1, 3);
        // the second one decides
        x.report(0, 0, 6, 9, 0);
        x.report(0, 0, 7, 20, 20);
        chained(x, 0, 9, 1, 3);
        // of three each: 1, 3 could go on only with 6, 1, 4 with 7; 6 has the lower number
        x.report(0, 0, 8, 13, 0);
        x.report(0, 0, 8, 7, 0);
        chained(x, 0, 9, 1, 3, 6);
        // both can go on with 8, so the second one stays 3
        x.report(0, 0, 9, 12, 0);
        chained(x, 0, 9, 1, 3, 6, 8);
    }

    private static void chainsOfAll() {
        NetsCut x = new NetsCut();
        x.ship(0, 0, 1, 0);
        x.clock(299);
        for (int i = 0; i < 300; i++) {
            x.report(0, 0, 299 - i, Math.floorMod(i, 46) < 23 ? i % 23 : 22 - i % 23, 4);
        }
        CHECK.due("all 300", x.chain(0, 299), 300);
        CHECK.due("the first", x.chained(0), 299);
        CHECK.due("the last", x.chained(299), 0);
        CHECK.due("behind the last", x.chained(300), -1);
        CHECK.due("far behind", x.chained(Integer.MAX_VALUE), -1);
        CHECK.due("far ahead", x.chained(Integer.MIN_VALUE), -1);
    }

    private static void latestChain() {
        NetsCut x = new NetsCut();
        x.ship(0, 0, 1, 0);
        x.ship(1, 0, 1, 0);
        x.clock(3);
        x.report(0, 0, 1, 5, 5);
        CHECK.due("a chain", x.chain(0, 3), 1);
        for (int[] wrong : new int[][] {{2, 3}, {-1, 3}, {0, 9000}, {0, -1}}) {
            CHECK.due("a refused chain", x.chain(wrong[0], wrong[1]), -1);
            CHECK.due("the latest that was not NONE", x.chained(0), 0);
        }
        x.report(0, 0, 0, 5, 5);
        CHECK.due("later reports leave it", x.chained(0), 0);
        CHECK.due("a chain of none", x.chain(1, 3), 0);
        CHECK.due("is the latest, too", x.chained(0), -1);
    }

    // ---- II.

    private static void linesEndAtReach() {
        for (int reach = 0; reach <= 40; reach++) {
            NetsCut x = new NetsCut();
            x.point(0, 0, 0);
            x.point(1, 23, 23);
            Check.enact(x, 0, 0, "reach " + reach);
            Check.enact(x, 1, 0, "reach " + reach);
            for (int i = 0; i < 24; i++) {
                for (int cy : new int[] {0, i / 2, i}) {
                    int near = i * i + cy * cy <= reach * reach ? 1 : 0;
                    CHECK.due("within " + reach, x.within(0, 0, i, cy, 0), near);
                    CHECK.due("within " + reach, x.within(1, 0, 23 - i, 23 - cy, 0), near);
                }
            }
        }
    }

    private static void chartsMovePoints() {
        for (int ox = -3; ox <= 3; ox++) {
            NetsCut x = new NetsCut();
            x.point(1, 10, 10);
            Check.enact(x, 1, 0, "reach 0");
            CHECK.due("chart", x.chart(ox, -ox), true);
            CHECK.due("moved", x.within(1, 1, 10 + ox, 10 - ox, 0), 1);
            CHECK.due("not the other way", x.within(1, 1, 10 - ox, 10 + ox, 0), ox == 0 ? 1 : 0);
            CHECK.due("chart 0", x.within(1, 0, 10, 10, 0), 1);
            CHECK.due("too far", x.chart(4, -ox), false);
            CHECK.due("too far", x.chart(ox, -4), false);
            CHECK.due("as it was", x.within(1, 1, 10 + ox, 10 - ox, 0), 1);
            CHECK.due("points told later are moved, too", x.point(1, 20, 3), 1);
            CHECK.due("moved", x.within(1, 1, 20 + ox, 3 - ox, 0), 1);
        }
    }

    private static void pointsMoveOutOfTheSea() {
        NetsCut x = new NetsCut();
        x.point(0, 0, 0);
        x.point(1, 23, 23);
        x.chart(-3, 0);
        CHECK.due("at (-3, 0)", x.within(0, 1, 0, 0, 0), 1);
        CHECK.due("at (-3, 0)", x.within(0, 1, 1, 0, 0), 0);
        CHECK.due("at (-3, 0)", x.within(0, 1, 0, 1, 0), 0);
        x.chart(3, 3);
        CHECK.due("at (26, 26)", x.within(1, 1, 23, 23, 0), 0);
        Check.enact(x, 1, 0, "reach 5");
        CHECK.due("at (26, 26)", x.within(1, 1, 23, 23, 0), 1);
        CHECK.due("at (26, 26)", x.within(1, 1, 22, 23, 0), 1);
        CHECK.due("at (26, 26)", x.within(1, 1, 22, 22, 0), 0);
    }

    private static int reach(String sum) {
        NetsCut x = new NetsCut();
        CHECK.due(sum, Check.enact(x, 1, 0, "reach " + sum), 0);
        return x.reach(1, 0);
    }

    private static void reachIsHeld() {
        CHECK.due("0", reach("0"), 0);
        CHECK.due("1", reach("1"), 1);
        CHECK.due("-1", reach("0-1"), 0);
        CHECK.due("39", reach("39"), 39);
        CHECK.due("40", reach("40"), 40);
        CHECK.due("41", reach("41"), 40);
        CHECK.due("99999", reach("99999"), 40);
        CHECK.due("2^32 + 5", reach("65536*65536+5"), 40);
        CHECK.due("5 - 2^32", reach("5-65536*65536"), 0);
        CHECK.due("2^63 - 1", reach("65536*65536*65536*32768-1"), 40);
        CHECK.due("2^63 goes round", reach("65536*65536*65536*32768"), 0);
        CHECK.due("2^64 goes round", reach("65536*65536*65536*65536+7"), 7);
    }

    private static void reachIsOfTheMinute() {
        NetsCut x = new NetsCut();
        x.point(0, 0, 0);
        x.ship(1, 0, 1, 0);
        x.clock(10);
        x.report(0, 0, 0, 9, 0);
        Check.enact(x, 0, 20, "reach 9 if minute<30");
        CHECK.due("ahead of the statute", x.reach(0, 19), 3);
        CHECK.due("from its minute on", x.reach(0, 20), 9);
        CHECK.due("while its condition holds", x.reach(0, 29), 9);
        CHECK.due("and no longer", x.reach(0, 30), 3);
        CHECK.due("within", x.within(0, 0, 9, 0, 19), 0);
        CHECK.due("within", x.within(0, 0, 9, 0, 20), 1);
        CHECK.due("within", x.within(0, 0, 9, 0, 30), 0);
        CHECK.due("inside", x.inside(0, 0, 19, 10), 0);
        CHECK.due("inside", x.inside(0, 0, 20, 10), 1);
        CHECK.due("inside", x.inside(0, 0, 29, 10), 1);
        CHECK.due("inside", x.inside(0, 0, 30, 10), 0);
        Check.enact(x, 2, 10, "reach 20");
        CHECK.due("the court draws no line", x.reach(0, 10), 3);
    }

    private static void insideIsOfTheOtherSide() {
        NetsCut x = new NetsCut();
        for (int s = 0; s < 40; s++) {
            x.ship(s < 20 ? 0 : 1, 0, 1, 0);
            x.report(s, s, 0, 5, s == 0 || s == 39 ? 9 : 5);
        }
        x.point(0, 5, 5);
        x.point(1, 5, 5);
        CHECK.due("ships 20 to 38", x.inside(0, 0, 0, 0), (1L << 39) - (1L << 20));
        CHECK.due("ships 1 to 19", x.inside(1, 0, 0, 0), (1L << 20) - 2);
        x.chart(0, 3);
        CHECK.due("ships 20 to 39", x.inside(0, 1, 0, 0), (1L << 40) - (1L << 20));
        CHECK.due("ships 0 to 19", x.inside(1, 1, 0, 0), (1L << 20) - 1);
        CHECK.due("side 2", x.inside(2, 0, 0, 0), -1);
    }

    private static void besideIsInWhateverMinute() {
        NetsCut x = new NetsCut();
        x.ship(0, 0, 1, 0);
        x.ship(1, 0, 1, 0);
        x.point(0, 0, 0);
        x.clock(8999);
        x.report(1, 1, 0, 0, 0);
        x.report(1, 1, 8999, 3, 4);
        x.report(1, 1, 8999, 23, 23);
        x.report(0, 1, 8999, 0, 0);
        x.report(1, 0, 8999, 0, 0);
        Check.enact(x, 0, 8999, "reach 1");
        CHECK.due("reach 0", x.beside(0, 0), 1);
        CHECK.due("reach 4", x.beside(0, 4), 1);
        CHECK.due("reach 5", x.beside(0, 5), 2);
        CHECK.due("reach 32", x.beside(0, 32), 2);
        CHECK.due("reach 33", x.beside(0, 33), 3);
        CHECK.due("reach 40", x.beside(0, 40), 3);
        CHECK.due("side 1 has no points", x.beside(1, 40), 0);
    }
}
