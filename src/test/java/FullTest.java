import java.util.function.Consumer;

/**
 * What is full: the calls that fill it up, the next one, which is refused and by which nothing
 * happens, and that nothing else is full by it. And what is empty: the answers of a new object.
 */
public final class FullTest {
    private static final Check CHECK = new Check("FullTest");

    public static void main(String[] args) {
        seaIsFull();
        lawIsFull();
        tapeIsFull();
        reckoningsAreFull();
        sidesAreFullApart();
        fullOnesAreUsed();
        emptySea();
        emptyLaw();
        emptyReckonings();
        CHECK.end();
    }

    /** The call that tells number i. */
    private interface Telling {
        int tell(NetsCut x, int i);
    }

    /** Fills two objects alike; of these only one is told more, and both must look the same. */
    private static void fills(String name, int most, int firstAnswer, Consumer<NetsCut> begin, Telling telling) {
        NetsCut x = new NetsCut();
        NetsCut twin = new NetsCut();
        begin.accept(x);
        begin.accept(twin);
        for (int i = 0; i < most; i++) {
            CHECK.due(name + " " + i, telling.tell(x, i), firstAnswer + i);
            telling.tell(twin, i);
        }
        CHECK.due(name + ", one more", telling.tell(x, most), -1);
        CHECK.due(name + ", one more like the first", telling.tell(x, 0), -1);
        CHECK.due(name + ": nothing has happened", Ready.picture(x).equals(Ready.picture(twin)), true);
    }

    private static void seaIsFull() {
        fills("ship", 40, 0, x -> { }, (x, i) -> x.ship(i % 2, i % 3, 1 + i % 3, 3 * i));
        fills("report", 300, 0, x -> {
            x.ship(0, 0, 1, 0);
            x.ship(1, 0, 3, 0);
            x.clock(300);
        }, (x, i) -> x.report(i % 2, i % 2, i, i % 24, i / 24));
        fills("point of side 0", 16, 0, x -> x.point(1, 9, 9), (x, i) -> x.point(0, i, 23 - i));
        fills("point of side 1", 16, 0, x -> x.point(0, 9, 9), (x, i) -> x.point(1, i, 23 - i));
    }

    private static void lawIsFull() {
        // the refused text stays on the tape, so the twin gets it there too
        NetsCut x = new NetsCut();
        NetsCut twin = new NetsCut();
        for (int i = 0; i < 12; i++) {
            CHECK.due("statute " + i, Check.enact(x, i % 3, i, "reach " + i), i);
            Check.enact(twin, i % 3, i, "reach " + i);
        }
        Check.type(twin, "reach 99");
        CHECK.due("statute 12", Check.enact(x, 0, 12, "reach 99"), -1);
        CHECK.due("statute 12, with a fault", x.statute(1, 12), -1);
        CHECK.due("the tape", x.count(11), 8);
        CHECK.due("statute 12: nothing has happened", Ready.picture(x).equals(Ready.picture(twin)), true);
        fills("act", 150, 0, y -> {
            y.ship(0, 0, 1, 0);
            y.ship(1, 0, 1, 0);
            y.clock(150);
        }, (y, i) -> y.act(i % 2, i % 5, i % 24, i / 24, i));
    }

    private static void tapeIsFull() {
        int blanks = 0x20202020;
        int[] reach = {0x72656163, 0x68203520};
        fills("feed", 20, 1, x -> { }, (x, i) -> {
            int bytes = i == 0 ? x.feed(reach[0], reach[1], blanks, blanks, blanks)
                    : x.feed(blanks, blanks, blanks, blanks, i < 20 ? blanks : 0x3b3b3b3b);
            return bytes < 0 ? bytes : bytes / 20;
        });
        for (int kept = 380; kept <= 400; kept++) {
            NetsCut x = new NetsCut();
            for (int i = 0; i < 20; i++) {
                x.feed(-1, -1, -1, -1, -1);
            }
            CHECK.due("end(" + kept + ")", x.end(kept), kept);
            CHECK.due("feed behind " + kept, x.feed(0, 0, 0, 0, 0), kept == 380 ? 400 : -1);
            CHECK.due("bytes behind " + kept, x.count(11), kept == 380 ? 400 : kept);
        }
    }

    private static void reckoningsAreFull() {
        fills("town", 8, 0, x -> { }, (x, i) -> x.town(i % 2, 10 + i, 5 * i, 1 + i));
        fills("bar", 20, 1, x -> {
            x.town(0, 10, 5, 1);
            x.town(1, 10, 5, 1);
        }, (x, i) -> x.bar(i % 2, 2 * i, 2 * i + 1));
        fills("term", 9, 0, x -> { }, (x, i) -> x.term(i - 4, 3 - i));
        fills("box", 6, 0, x -> { }, (x, i) -> x.box(10 - i, i, 7 * i));
    }

    private static void sidesAreFullApart() {
        NetsCut x = new NetsCut();
        for (int i = 0; i < 16; i++) {
            CHECK.due("point of side 0", x.point(0, i, 0), i);
        }
        CHECK.due("point 16 of side 0", x.point(0, 0, 0), -1);
        for (int i = 0; i < 16; i++) {
            CHECK.due("point of side 1", x.point(1, i, 0), i);
        }
        CHECK.due("point 16 of side 1", x.point(1, 0, 0), -1);
        CHECK.due("point 16 of side 0 again", x.point(0, 0, 0), -1);
        CHECK.due("points of side 0", x.count(3), 16);
        CHECK.due("points of side 1", x.count(4), 16);
    }

    /** The last one that was taken counts like any other. */
    private static void fullOnesAreUsed() {
        NetsCut x = new NetsCut();
        for (int i = 0; i < 40; i++) {
            x.ship(i == 39 ? 1 : 0, i == 39 ? 2 : 0, i == 39 ? 3 : 1, i == 39 ? 199 : 0);
        }
        for (int i = 0; i < 16; i++) {
            x.point(0, i == 15 ? 20 : 0, i == 15 ? 20 : 0);
        }
        for (int i = 0; i < 12; i++) {
            Check.enact(x, 0, 0, i == 11 ? "may cut if kind=2 and speed=3 and net=199" : "not cut");
        }
        for (int i = 0; i < 299; i++) {
            x.report(0, 0, 0, 0, 0);
        }
        CHECK.due("report 299", x.report(39, 39, 0, 20, 20), 299);
        CHECK.due("ship 39", x.where(39, 0, 0), 24 * 20 + 20);
        CHECK.due("ship 39 is inside by point 15", x.inside(0, 0, 0, 0), 1L << 39);
        CHECK.due("report 299 is beside", x.beside(0, 0), 1);
        CHECK.due("statute 11", x.by(0, 2, 39, 0, 0, 0), 16 * 11);
        CHECK.due("statute 11 in force", x.inForce(11, 0), 1);
        CHECK.due("a chain of 299", x.chain(0, 0), 299);
        CHECK.due("its last", x.chained(298), 298);
        CHECK.due("behind its last", x.chained(299), -1);
        NetsCut y = new NetsCut();
        y.ship(1, 0, 1, 0);
        for (int i = 0; i < 149; i++) {
            y.act(0, 0, 0, 0, 0);
        }
        CHECK.due("all kept", y.broken(1, 0), 0);
        CHECK.due("act 149", y.act(0, 1, 0, 0, 0), 149);
        CHECK.due("act 149 was not kept", y.kept(149, 0), 0);
        CHECK.due("act 149 is broken", y.broken(1, 0), 1);
        for (int i = 0; i < 8; i++) {
            y.town(0, i == 7 ? 100 : 1, 1, 1);
        }
        CHECK.due("bar of town 7", y.bar(7, 99, 99), 1);
        CHECK.due("town 7", y.yields(7), 99);
        CHECK.due("by town 7", y.sideYields(0), 99);
        for (int i = 0; i < 9; i++) {
            y.term(i == 8 ? 1 : 0, 0);
        }
        CHECK.due("term 8", y.sign(1, 0), 256);
        for (int i = 0; i < 6; i++) {
            y.box(0, 0, i == 5 ? 0 : 9);
        }
        CHECK.due("box 5", y.escort(12, 0), 0);
        CHECK.due("in box 5", y.escorts(105), 12);
    }

    private static void emptySea() {
        NetsCut x = new NetsCut();
        CHECK.due("no ship reports", x.report(0, 0, 0, 0, 0), -1);
        CHECK.due("no ship is anywhere", x.where(0, 0, 0), -1);
        CHECK.due("no ship has a chain", x.chain(0, 0), -1);
        CHECK.due("no chain was found", x.chained(0), -1);
        CHECK.due("no ship is inside", x.inside(0, 0, 0, 0), 0);
        CHECK.due("no report is beside", x.beside(0, 40), 0);
        CHECK.due("no ships give way", x.way(0, 1, 1, 0), -1);
        CHECK.due("chart 1 is not moved", x.point(0, 10, 10), 0);
        for (int dx = -4; dx <= 4; dx++) {
            CHECK.due("chart 1", x.within(0, 1, 10 + dx, 10, 0), x.within(0, 0, 10 + dx, 10, 0));
            CHECK.due("chart 1", x.within(0, 1, 10, 10 + dx, 0), x.within(0, 0, 10, 10 + dx, 0));
        }
        CHECK.due("no point of side 1", x.within(1, 0, 10, 10, 0), 0);
        x.ship(0, 0, 1, 0);
        x.ship(1, 0, 1, 0);
        x.point(0, 0, 0);
        CHECK.due("no report: nowhere", x.where(0, 8999, 8999), -1);
        CHECK.due("no report: a chain of none", x.chain(0, 8999), 0);
        CHECK.due("a chain of none has no first", x.chained(0), -1);
        CHECK.due("no report: not inside", x.inside(0, 0, 8999, 8999), 0);
        CHECK.due("no report: no course", x.way(0, 1, 1, 8999), -2);
        for (int cell = 0; cell < 24; cell++) {
            CHECK.due("no depth", x.depth(cell, 23 - cell, 0), 0);
        }
    }

    private static void emptyLaw() {
        NetsCut x = new NetsCut();
        x.ship(0, 0, 1, 0);
        CHECK.due("an empty tape's end", x.end(0), 0);
        CHECK.due("an empty tape", x.statute(0, 0), Check.fault(0, 0));
        CHECK.due("no statute", x.count(5), 0);
        CHECK.due("no statute in force", x.inForce(0, 0), -1);
        CHECK.due("no act", x.kept(0, 0), -1);
        int[] without = {1, 0, 0, 0, 1};
        for (int author = 0; author < 3; author++) {
            CHECK.due("no act was not kept", x.broken(0, author), 0);
            CHECK.due("no mesh", x.mesh(author, 0, 0, 0, 0), 0);
            for (int what = 0; what < 5; what++) {
                CHECK.due("may without", x.may(author, what, 0, 0, 0, 0), without[what]);
                CHECK.due("by none", x.by(author, what, 0, 0, 0, 0), -1);
            }
        }
        for (int what = 0; what < 5; what++) {
            CHECK.due("act", x.act(0, what, 0, 0, 0), what);
            CHECK.due("kept without statutes", x.kept(what, 2), without[what]);
        }
        CHECK.due("not kept without statutes", x.broken(0, 1), 3);
        CHECK.due("reach of side 0", x.reach(0, 8999), 3);
        CHECK.due("reach of side 1", x.reach(1, 0), 3);
    }

    private static void emptyReckonings() {
        NetsCut x = new NetsCut();
        CHECK.due("no hook", x.hooks(), -1);
        for (int office = 0; office < 2; office++) {
            CHECK.due("no stock", x.stock(office, 0), 0);
            CHECK.due("no stock", x.stock(office, 39), 0);
            CHECK.due("no failure", x.fails(office), -2);
            CHECK.due("all losses alike", x.agree(office, 39), 0);
        }
        for (int row = 0; row < 3; row++) {
            for (int y = 0; y < 40; y++) {
                CHECK.due("no recruits, no catch", x.year(row, y, 0), 0);
            }
        }
        CHECK.due("no fish", x.landed(30, 0, 1000, 0, 999999), 0);
        CHECK.due("nothing pays at once", x.pays(0, 199, 1000, 0, 999999), 1);
        CHECK.due("no town", x.bar(0, 0, 0), -1);
        CHECK.due("no town", x.lost(0, 0), -1);
        CHECK.due("no town", x.yields(0), -1);
        CHECK.due("no towns of side 0", x.sideYields(0), -2);
        CHECK.due("no towns of side 1", x.sideYields(1), -2);
        CHECK.due("no terms", x.sign(0, 0), 0);
        CHECK.due("no terms", x.sign(-99999, -99999), 0);
        CHECK.due("no terms", x.sign(1, 0), -2);
        CHECK.due("no terms", x.sign(0, 1), -2);
        for (int what : new int[] {0, 100, 200}) {
            CHECK.due("no escort", x.escorts(what), -1000000000);
        }
        CHECK.due("no boxes", x.escort(1, 0), -2);
        CHECK.due("no boxes", x.escort(0, 1), -2);
        CHECK.due("no boxes, too many", x.escort(0, 7), -1);
        CHECK.due("still no escort", x.escorts(0), -1000000000);
        CHECK.due("no boxes, none of both", x.escort(0, 0), 0);
        CHECK.due("nothing caught", x.escorts(0), 0);
        CHECK.due("no box 0", x.escorts(100), -1000000000);
        CHECK.due("no box 0", x.escorts(200), -1000000000);
        CHECK.due("no boxes again", x.escort(12, 6), -2);
        CHECK.due("as it was", x.escorts(0), 0);
    }
}
