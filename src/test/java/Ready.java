import java.util.ArrayList;
import java.util.List;

/** An object with something of everything, and a picture of all that an object can be asked. */
final class Ready {
    static final int NOW = 100;
    static final int SHIPS = 3;
    static final int STATUTES = 4;
    static final int ACTS = 4;
    static final int TOWNS = 3;
    static final int BOXES = 3;
    static final int TAPE = 7;
    static final int CHAINED = 3;

    private Ready() {
    }

    /** Some 80 calls: each call of the face has an answer of its own here that is no refusal. */
    static NetsCut sea() {
        NetsCut x = new NetsCut();
        x.ship(0, 0, 1, 10);
        x.ship(1, 1, 2, 60);
        x.ship(0, 2, 3, 199);
        for (int s = 0; s < SHIPS; s++) {
            x.report(s, s, 0, 3 * s + 2, 4);
            String mesh = s == 2 ? "net*99+kind*9+side*5+speed" : "9+speed";
            Check.enact(x, s, 0, "mesh " + mesh + ";may fish;may stop;not cut;may lean;not land;reach 4");
        }
        Check.enact(x, 1, 50, "strike 1;reach 6;may cut if inside=1 and depth<60;mesh x+1");
        x.clock(NOW);
        x.report(0, 0, 99, 3, 5);
        x.report(1, 0, 100, 4, 5);
        x.report(1, 1, 100, 7, 7);
        x.chain(0, NOW);
        x.point(0, 5, 5);
        x.point(1, 7, 7);
        x.point(1, 9, 9);
        x.chart(1, -2);
        x.depth(1, 1, 50);
        x.depth(23, 0, 77);
        for (int a = 0; a < ACTS; a++) {
            x.act(a % SHIPS, a == 3 ? 2 : 0, 7, 8 - a, NOW - a);
        }
        x.hook(3, 1, 0, 2, -1, 8);
        x.office(0, 1000, 100);
        x.office(1, 900, 30);
        for (int row = 0; row < 3; row++) {
            x.year(row, 0, 20 + row);
            x.year(row, 39, 30 + row);
        }
        x.age(0, 100, 20, 3);
        x.age(7, 200, 90, 40);
        for (int t = 0; t < TOWNS; t++) {
            x.town(t % 2, 5 + t, 20, 10);
            x.bar(t, 3, 4 + t);
        }
        x.term(4, 1);
        x.term(-2, 3);
        for (int b = 0; b < BOXES; b++) {
            x.box(10 + b, 1, 5 * b);
        }
        x.escort(5, 1);
        Check.type(x, "reach 5");
        return x;
    }

    /** Some 180 calls: first those that only ask, then those that show what is held by changing it. */
    static List<Long> picture(NetsCut x) {
        List<Long> seen = new ArrayList<>();
        askSea(x, seen);
        askLaw(x, seen);
        askReckonings(x, seen);
        changeAll(x, seen);
        return seen;
    }

    private static void see(List<Long> seen, long... answers) {
        for (long answer : answers) {
            seen.add(answer);
        }
    }

    private static void askSea(NetsCut x, List<Long> seen) {
        for (int what = 0; what < 12; what++) {
            see(seen, x.count(what));
        }
        for (int k = 0; k <= CHAINED; k++) {
            see(seen, x.chained(k), x.where(k, 8999, 8999), x.where(k, 0, 0));
        }
        for (int side = 0; side < 2; side++) {
            see(seen, x.reach(side, 0), x.reach(side, 8999), x.beside(side, 2), x.beside(side, 40));
            for (int chart = 0; chart < 2; chart++) {
                see(seen, x.within(side, chart, 5, 8, 0), x.within(side, chart, 8, 4, 0),
                        x.inside(side, chart, 8999, 8999));
            }
        }
        see(seen, x.way(0, 1, NOW, 8999), x.way(0, 2, NOW, 8999), x.hooks());
    }

    private static void askLaw(NetsCut x, List<Long> seen) {
        for (int author = 0; author < 3; author++) {
            for (int what = 0; what < 5; what++) {
                see(seen, x.by(author, what, 1, 7, 7, NOW));
            }
            for (int ship = 0; ship < SHIPS; ship++) {
                see(seen, x.mesh(author, ship, 7, 7, NOW), x.kept(ship, author));
            }
            see(seen, x.may(author, 2, 0, 1, 1, 8999), x.broken(0, author), x.broken(1, author));
        }
        for (int s = 0; s <= STATUTES; s++) {
            see(seen, x.inForce(s, NOW));
        }
    }

    private static void askReckonings(NetsCut x, List<Long> seen) {
        for (int office = 0; office < 2; office++) {
            see(seen, x.stock(office, 0), x.stock(office, 1), x.stock(office, 39), x.fails(office), x.agree(office, 2));
        }
        see(seen, x.landed(9, 10, 500, 100, 10), x.pays(10, 30, 100, 10, 1000));
        for (int t = 0; t <= TOWNS; t++) {
            see(seen, x.lost(t, 99), x.yields(t), x.escorts(100 + t), x.escorts(200 + t));
        }
        see(seen, x.sideYields(0), x.sideYields(1), x.sign(1, 1), x.sign(2, 4), x.escorts(0));
    }

    private static void changeAll(NetsCut x, List<Long> seen) {
        see(seen, x.depth(0, 0, 1), x.depth(1, 1, 1), x.depth(23, 0, 1), x.depth(0, 23, 1));
        for (int row = 0; row < 3; row++) {
            see(seen, x.year(row, 0, 1), x.year(row, 1, 1), x.year(row, 39, 1));
        }
        see(seen, x.statute(0, 8999), x.reach(0, 8999), x.mesh(0, 1, 7, 7, 8999));
        for (int what = 0; what < 5; what++) {
            see(seen, x.by(0, what, 1, 7, 7, 8999), x.may(0, what, 1, 7, 7, 8999));
        }
        for (int s = 0; s < SHIPS; s++) {
            see(seen, x.chain(s, 8999), x.chained(0), x.chained(1), x.chained(2));
        }
        see(seen, x.escort(7, 2), x.escorts(0), x.escorts(100), x.escorts(202));
        see(seen, x.ship(0, 0, 1, 0), x.report(0, 0, 0, 0, 0), x.point(0, 0, 0), x.point(1, 0, 0));
        see(seen, x.act(0, 0, 0, 0, 0), x.town(0, 0, 0, 0), x.bar(0, 0, 0), x.term(0, 0), x.box(0, 0, 0));
    }
}
