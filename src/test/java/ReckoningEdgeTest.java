/** The sentences of the document's parts IV to VIII, one by one, at their edges. */
public final class ReckoningEdgeTest {
    private static final Check CHECK = new Check("ReckoningEdgeTest");
    private static final int NOT_TOLD = -1000000000;

    public static void main(String[] args) {
        hookedAtFirst();
        hookedByThen();
        goesOneCellToASide();
        frigatesAreInTheWay();
        hooksOfTheLatest();
        allFourMustBe();
        overtakesOrNot();
        toTheRightOrNot();
        stockOfEachYear();
        stocksDownwards();
        failsAbove();
        agreesNearest();
        meshesHold();
        agesGoOn();
        paysBehindAYear();
        losesOnceAWeek();
        givesWayByPatience();
        moreThanHalf();
        signedByBoth();
        cutAndCaught();
        firstOfSeveralEscorts();
        escortsOfTheLatest();
        CHECK.end();
    }

    // ---- IV.

    private static void hookedAtFirst() {
        NetsCut x = new NetsCut();
        for (int n = 0; n <= 8; n++) {
            CHECK.due("in one cell at first", x.hook(1, 1, 0, 0, -1, n), 0);
            CHECK.due("in one cell at first", x.hook(5, 5, 24, 24, 0, n), 0);
        }
        CHECK.due("0 is not above 0", x.hooks(), -1);
        CHECK.due("no cell for a frigate", x.hook(1, 1, 0, 0, 0, 8), -1);
        CHECK.due("no cell 1", x.hook(1, 1, 1, 0, -1, 8), -1);
    }

    private static void hookedByThen() {
        for (int length = 2; length <= 5; length++) {
            for (int n = 0; n <= 8; n++) {
                NetsCut x = new NetsCut();
                int want = n >= length - 1 ? length - 1 : -2;
                CHECK.due("along a row", x.hook(length, 1, 0, length - 1, -1, n), want);
                CHECK.due("it goes there", x.hooks(), want < 0 ? -1 : length - 2);
                CHECK.due("along a column", x.hook(1, length, length - 1, 0, -1, n), want);
                CHECK.due("it goes there", x.hooks(), want < 0 ? -1 : 1);
            }
        }
    }

    private static void goesOneCellToASide() {
        for (int trawler = 0; trawler < 25; trawler++) {
            for (int warder = 0; warder < 25; warder++) {
                NetsCut x = new NetsCut();
                int way = Math.abs(trawler % 5 - warder % 5) + Math.abs(trawler / 5 - warder / 5);
                CHECK.due("beside or not", x.hook(5, 5, trawler, warder, -1, 1), way > 1 ? -2 : way);
                CHECK.due("goes there", x.hooks(), way == 1 ? trawler : -1);
            }
        }
        NetsCut x = new NetsCut();
        CHECK.due("not from a row's end to the next row", x.hook(4, 2, 3, 4, -1, 1), -2);
        CHECK.due("not across a corner", x.hook(2, 2, 0, 3, -1, 1), -2);
    }

    private static void frigatesAreInTheWay() {
        NetsCut x = new NetsCut();
        CHECK.due("between", x.hook(5, 1, 0, 2, 1, 8), -2);
        CHECK.due("with the trawler", x.hook(5, 1, 0, 1, 0, 8), -2);
        CHECK.due("behind the warder", x.hook(5, 1, 0, 3, 4, 8), 3);
        CHECK.due("it goes there", x.hooks(), 2);
        // a frigate beyond the trawler can come to it before the warder does
        CHECK.due("beyond the trawler", x.hook(3, 1, 1, 0, 2, 8), 1);
        CHECK.due("beyond the trawler, in time", x.hook(4, 1, 2, 0, 3, 8), -2);
        CHECK.due("the trawler goes under the frigate", x.hook(4, 1, 1, 3, 0, 8), -2);
    }

    private static void hooksOfTheLatest() {
        NetsCut x = new NetsCut();
        x.hook(5, 1, 0, 4, -1, 8);
        CHECK.due("told", x.hooks(), 3);
        x.hook(5, 5, 0, 24, -1, 8);
        CHECK.due("not by then leaves it", x.hooks(), 3);
        x.hook(5, 5, 3, 3, -1, 8);
        CHECK.due("0 leaves it", x.hooks(), 3);
        x.hook(6, 5, 0, 1, -1, 8);
        CHECK.due("a refusal leaves it", x.hooks(), 3);
        x.hook(5, 5, 24, 23, -1, 1);
        CHECK.due("the next", x.hooks(), 24);
        x.hook(2, 1, 0, 1, -1, 1);
        CHECK.due("the next", x.hooks(), 0);
    }

    // ---- V.

    private static NetsCut two(int... cells) {
        NetsCut x = new NetsCut();
        x.ship(0, 0, 1, 0);
        x.ship(1, 0, 1, 0);
        x.clock(8999);
        for (int s = 0; s < 2; s++) {
            x.report(s, s, 8998, cells[4 * s], cells[4 * s + 1]);
            x.report(s, s, 8999, cells[4 * s + 2], cells[4 * s + 3]);
        }
        return x;
    }

    private static void way(String name, int want, int... cells) {
        NetsCut x = two(cells);
        CHECK.due(name, x.way(0, 1, 8999, 8999), want);
        CHECK.due(name + ", the other way round", x.way(1, 0, 8999, 8999), want == 1 ? 2 : want == 2 ? 1 : want);
    }

    private static void allFourMustBe() {
        for (int missing = 0; missing < 3; missing++) {
            NetsCut x = new NetsCut();
            x.ship(0, 0, 1, 0);
            x.ship(1, 0, 1, 0);
            x.clock(6);
            x.report(0, 0, 5, 3, 3);
            if (missing > 0) {
                x.report(1, 1, missing == 1 ? 6 : 5, 4, 4);
            }
            CHECK.due("all four in 6", x.way(0, 1, 6, 6), missing == 2 ? 0 : -2);
            CHECK.due("all four in 6", x.way(1, 0, 6, 6), missing == 2 ? 0 : -2);
            CHECK.due("the minute before 5 there is none", x.way(0, 1, 5, 6), -2);
            CHECK.due("all four in 7", x.way(0, 1, 7, 6), missing == 0 ? -2 : 0);
            CHECK.due("not known", x.way(0, 1, 7, 5), -2);
        }
        CHECK.due("minute 0", two(0, 0, 1, 1, 2, 2, 3, 3).way(0, 1, 0, 8999), -1);
        CHECK.due("minute 1", two(0, 0, 1, 1, 2, 2, 3, 3).way(0, 1, 1, 8999), -2);
        CHECK.due("minute 8999", two(0, 0, 1, 1, 2, 2, 3, 3).way(0, 1, 8999, 8999), 1);
        CHECK.due("minute 9000", two(0, 0, 1, 1, 2, 2, 3, 3).way(0, 1, 9000, 8999), -1);
    }

    private static void overtakesOrNot() {
        way("straight behind", 1, 5, 5, 6, 5, 8, 5, 9, 5);
        way("behind, to the left of it", 1, 5, 4, 6, 4, 8, 5, 9, 5);
        way("behind, to the right of it", 1, 5, 6, 6, 6, 8, 5, 9, 5);
        way("beside is not behind: the left one gives way", 1, 5, 4, 6, 4, 5, 5, 6, 5);
        way("in one cell", 0, 5, 5, 6, 5, 5, 5, 6, 5);
        way("courses at a right angle are not above 0", 0, 5, 5, 6, 5, 8, 5, 8, 4);
        way("courses at a right angle, b from the right", 1, 5, 5, 6, 5, 8, 6, 8, 5);
        way("against one another in one line", 0, 5, 5, 6, 5, 8, 5, 7, 5);
        way("a lies still behind b", 0, 5, 5, 5, 5, 8, 5, 9, 5);
        way("b lies still ahead of a", 0, 5, 5, 6, 5, 8, 5, 8, 5);
        way("each overtakes the other, and neither has to", 0, 5, 6, 6, 7, 5, 5, 7, 4);
        way("from end to end", 1, 0, 0, 23, 23, 1, 0, 23, 23);
        way("from end to end and back", 0, 0, 0, 23, 23, 23, 23, 0, 0);
    }

    private static void toTheRightOrNot() {
        // a goes right, down, left, up, with b one to the left, in line, one to the right of its course
        int[][] courses = {{1, 0}, {0, 1}, {-1, 0}, {0, -1}};
        for (int[] c : courses) {
            for (int off = -1; off <= 1; off++) {
                int bx = 10 + 3 * c[0] - off * c[1];
                int by = 10 + 3 * c[1] + off * c[0];
                way("right of (" + c[0] + ", " + c[1] + "): " + off, off > 0 ? 1 : 0, 10, 10, 10 + c[0], 10 + c[1], bx, by, bx, by);
            }
        }
        way("neither goes", 0, 10, 10, 10, 10, 11, 11, 11, 11);
        way("both to the right of one another", 3, 5, 5, 6, 5, 9, 6, 8, 6);
        way("both to the left of one another", 0, 5, 6, 6, 6, 9, 5, 8, 5);
    }

    // ---- VI.

    private static void stockOfEachYear() {
        NetsCut x = new NetsCut();
        x.office(0, 99999999, 0);
        x.office(1, 0, 1000);
        for (int y = 0; y < 40; y++) {
            CHECK.due("0 at first", x.year(0, y, y + 1), 0);
            CHECK.due("0 at first", x.year(1, y, 9999999 - y), 0);
        }
        long stock = 99999999;
        for (int y = 0; y < 40; y++) {
            CHECK.due("stock of year " + y, x.stock(0, y), stock);
            CHECK.due("all is lost each year", x.stock(1, y), y == 0 ? 0 : 9999999 - (y - 1));
            stock += y + 1;
        }
        CHECK.due("recruits of year 39 are in none", x.year(0, 39, 9999999), 40);
        CHECK.due("recruits of year 39 are in none", x.stock(0, 39), 99999999 + 39 * 40 / 2);
        CHECK.due("recruits of year 38 are in the last", x.year(0, 38, 0), 39);
        CHECK.due("recruits of year 38 are in the last", x.stock(0, 39), 99999999 + 38 * 39 / 2);
        CHECK.due("catch of year 39", x.year(2, 39, 9999999), 0);
        CHECK.due("is in none", x.stock(0, 39), 99999999 + 38 * 39 / 2);
        CHECK.due("catch of year 38", x.year(2, 38, 9999999), 0);
        CHECK.due("is in the last of both", x.stock(0, 39), 99999999 + 38 * 39 / 2 - 9999999);
    }

    private static void stocksDownwards() {
        NetsCut x = new NetsCut();
        x.office(0, 1999, 999);
        CHECK.due("1.999", x.stock(0, 1), 1);
        x.office(0, 999, 999);
        CHECK.due("0.999", x.stock(0, 1), 0);
        x.office(0, 1000, 999);
        CHECK.due("1", x.stock(0, 1), 1);
        x.office(0, 1, 1);
        CHECK.due("0.999", x.stock(0, 1), 0);
        x.office(0, 99999999, 1);
        CHECK.due("99899999.001", x.stock(0, 1), 99899999);
        x.office(0, 100, 0);
        x.year(2, 0, 100);
        CHECK.due("all caught", x.stock(0, 1), 0);
        x.year(2, 0, 101);
        CHECK.due("0 at least", x.stock(0, 1), 0);
        x.year(0, 0, 7);
        CHECK.due("and the recruits", x.stock(0, 1), 7);
        x.year(2, 0, 99);
        CHECK.due("one left", x.stock(0, 1), 8);
    }

    private static void failsAbove() {
        for (int year = 0; year < 40; year++) {
            NetsCut x = new NetsCut();
            x.office(0, 50, 0);
            x.office(1, 51, 0);
            x.year(2, year, 51);
            CHECK.due("above the stock", x.fails(0), year);
            CHECK.due("as much as the stock", x.fails(1), -2);
        }
        NetsCut x = new NetsCut();
        x.year(2, 3, 1);
        x.year(2, 5, 1);
        CHECK.due("the first of two", x.fails(0), 3);
        x.year(0, 2, 1);
        CHECK.due("the next of two", x.fails(0), 5);
        CHECK.due("the other office", x.fails(1), 3);
    }

    private static void agreesNearest() {
        NetsCut x = new NetsCut();
        x.office(0, 2000, 77);
        int[][] cases = {{2001, 0}, {2000, 0}, {1999, 0}, {1998, 1}, {1997, 1}, {1996, 2}, {3, 998}, {2, 999}, {1, 999}, {0, 1000}};
        for (int[] c : cases) {
            x.office(1, c[0], 0);
            CHECK.due("nearest to " + c[0], x.agree(0, 1), c[1]);
            CHECK.due("in year 0 all are alike", x.agree(0, 0), 0);
        }
        CHECK.due("its own loss stays", x.stock(0, 1), 2000 * 923 / 1000);
        x.office(0, 10, 0);
        x.office(1, 7, 0);
        CHECK.due("the least of many", x.agree(0, 1), 201);
        x.office(1, 99999999, 0);
        CHECK.due("too much for it", x.agree(0, 39), 0);
        x.year(2, 0, 10);
        CHECK.due("nothing is left anyway", x.agree(0, 1), 0);
        x.office(0, 99999999, 0);
        x.office(1, 0, 0);
        CHECK.due("nothing is wanted", x.agree(0, 1), 1000);
    }

    private static void meshesHold() {
        NetsCut x = new NetsCut();
        x.age(3, 1000, 60, 5);
        x.age(5, 999999, 199, 999);
        CHECK.due("length not below the mesh", x.landed(1, 60, 1000, 0, 0), 5000 + 999999L * 999);
        CHECK.due("length below the mesh", x.landed(1, 61, 1000, 0, 0), 999999L * 999);
        CHECK.due("the greatest mesh", x.landed(1, 199, 1000, 0, 0), 999999L * 999);
        CHECK.due("no effort", x.landed(1, 0, 0, 0, 0), 0);
        CHECK.due("one thousandth, downwards", x.landed(1, 0, 1, 0, 0), 5 + 999 * 999);
        x.age(3, 999, 60, 5);
        x.age(5, 0, 0, 0);
        CHECK.due("0.999", x.landed(1, 0, 1, 0, 0), 0);
        CHECK.due("as told last", x.landed(1, 0, 1000, 0, 0), 999 * 5);
    }

    private static void agesGoOn() {
        // a hundred of age 0 come to each age once
        for (int age = 0; age < 7; age++) {
            for (int years = 1; years <= 30; years++) {
                NetsCut x = new NetsCut();
                x.age(0, 100, 0, 0);
                x.age(age, age == 0 ? 100 : 0, 10, 1);
                CHECK.due("age " + age + " in " + years, x.landed(years, 10, 100, 0, 0), years > age ? 10 : 0);
            }
        }
        NetsCut x = new NetsCut();
        x.age(7, 1000, 10, 1);
        CHECK.due("7 stays 7", x.landed(2, 10, 500, 0, 0), 500 + 250);
        CHECK.due("what is left, downwards", x.landed(2, 10, 500, 1, 0), 500 + 499 / 2);
        CHECK.due("all is lost", x.landed(2, 10, 500, 1000, 0), 500);
        x.age(6, 3, 10, 0);
        CHECK.due("with those that come", x.landed(2, 10, 500, 0, 0), 500 + (500 + 2) / 2);
        NetsCut y = new NetsCut();
        y.age(0, 0, 10, 1);
        CHECK.due("newcomers come behind the first year", y.landed(1, 10, 1000, 0, 999999), 0);
        CHECK.due("each year anew", y.landed(2, 10, 1000, 0, 999999), 999999);
        CHECK.due("each year anew", y.landed(30, 10, 1000, 0, 999999), 29L * 999999);
    }

    private static void paysBehindAYear() {
        NetsCut x = new NetsCut();
        x.age(0, 1370, 50, 1);
        x.age(7, 0, 60, 11);
        CHECK.due("year 31 would be the first", x.pays(50, 60, 10, 15, 708), -2);
        boolean never = true;
        for (int y = 1; y <= 30; y++) {
            never &= x.landed(y, 60, 10, 15, 708) < x.landed(y, 50, 10, 15, 708);
        }
        CHECK.due("below it in all 30 years", never, true);
        CHECK.due("the other way round at once", x.pays(60, 50, 10, 15, 708), 1);
        CHECK.due("the same mesh at once", x.pays(199, 199, 10, 15, 708), 1);
        NetsCut y = new NetsCut();
        y.age(0, 10, 50, 1);
        y.age(1, 0, 60, 1);
        CHECK.due("as much is not below", y.pays(50, 60, 1000, 0, 0), 2);
        y.age(0, 11, 50, 1);
        CHECK.due("one below for good", y.pays(50, 60, 1000, 100, 0), -2);
    }

    // ---- VII.

    private static void losesOnceAWeek() {
        NetsCut x = new NetsCut();
        x.town(0, 1, 9999999, 99999);
        x.town(1, 1, 9999900, 99999);
        CHECK.due("weeks 0 to 99", x.bar(0, 0, 99), 1);
        CHECK.due("week 99 alone", x.bar(1, 99, 99), 2);
        CHECK.due("week 0 alone", x.bar(1, 0, 0), 3);
        for (int week = 0; week < 100; week++) {
            CHECK.due("each week", x.lost(0, week), 99999 * (week + 1));
            CHECK.due("the first and the last", x.lost(1, week), week == 99 ? 199998 : 99999);
        }
        CHECK.due("9999900 of 9999999", x.yields(0), -2);
        CHECK.due("barred again", x.bar(0, 5, 50), 4);
        CHECK.due("once a week", x.lost(0, 99), 9999900);
        CHECK.due("barred once more", x.bar(1, 0, 99), 5);
        CHECK.due("9999900 of 9999900", x.yields(1), 99);
        CHECK.due("from b to a", x.bar(0, 1, 0), -1);
    }

    private static int yields(int patience, int coins, int a, int b) {
        NetsCut x = new NetsCut();
        x.town(0, 1, patience, coins);
        x.bar(0, a, b);
        return x.yields(0);
    }

    private static void givesWayByPatience() {
        CHECK.due("patience to the coin", yields(30, 10, 5, 9), 7);
        CHECK.due("one coin less", yields(29, 10, 5, 9), 7);
        CHECK.due("one coin more", yields(31, 10, 5, 9), 8);
        CHECK.due("to the last week", yields(50, 10, 5, 9), 9);
        CHECK.due("never", yields(51, 10, 5, 9), -2);
        CHECK.due("no patience, in the first week that costs", yields(0, 10, 5, 9), 5);
        CHECK.due("no patience, but nothing lost", yields(0, 0, 0, 99), -2);
        CHECK.due("in week 0", yields(1, 1, 0, 0), 0);
        CHECK.due("in week 99", yields(1, 1, 99, 99), 99);
        NetsCut x = new NetsCut();
        x.town(0, 1, 0, 10);
        CHECK.due("no bar", x.yields(0), -2);
        CHECK.due("no bar", x.lost(0, 99), 0);
    }

    private static int sideYields(int... votes) {
        NetsCut x = new NetsCut();
        for (int t = 0; t < votes.length; t++) {
            x.town(1, votes[t], 1, 1);
            if (t < votes.length - 1) {
                x.bar(t, 10 * t, 10 * t);
            }
        }
        CHECK.due("the other side", x.sideYields(0), -2);
        return x.sideYields(1);
    }

    private static void moreThanHalf() {
        CHECK.due("half", sideYields(5, 5), -2);
        CHECK.due("more than half", sideYields(6, 5), 0);
        CHECK.due("less than half", sideYields(5, 6), -2);
        CHECK.due("by the second", sideYields(3, 3, 5), 10);
        CHECK.due("half by the second, more by the third", sideYields(3, 2, 1, 4), 20);
        CHECK.due("a town without votes", sideYields(5, 0, 5), -2);
        CHECK.due("no votes at all", sideYields(0, 0), -2);
        CHECK.due("the most votes", sideYields(9999, 9999, 9999, 9999, 9999, 9999, 9999, 9999), 40);
        NetsCut x = new NetsCut();
        x.town(0, 1, 1, 1);
        x.town(1, 9999, 1, 1);
        x.bar(0, 7, 8);
        CHECK.due("the other side's votes are not counted", x.sideYields(0), 7);
        CHECK.due("nor its losses", x.sideYields(1), -2);
    }

    private static void signedByBoth() {
        NetsCut x = new NetsCut();
        CHECK.due("the empty set", x.sign(0, 0), 0);
        CHECK.due("it is worth no coin", x.sign(0, 1), -2);
        x.term(10, -4);
        x.term(-4, 10);
        x.term(6, 6);
        CHECK.due("the empty set, as the fewest", x.sign(0, 0), 0);
        CHECK.due("not below a", x.sign(6, 6), 4);
        CHECK.due("one above it", x.sign(7, 6), 7);
        CHECK.due("not below a, not below b", x.sign(10, -4), 1);
        CHECK.due("one above b", x.sign(10, -3), 5);
        CHECK.due("the least difference", x.sign(-4, -4), 0);
        CHECK.due("all of it", x.sign(12, 12), 7);
        CHECK.due("more than all", x.sign(17, -99999), -2);
        NetsCut y = new NetsCut();
        y.term(5, 7);
        y.term(7, 5);
        y.term(6, 9);
        CHECK.due("one difference, the least number", y.sign(5, 5), 1);
        CHECK.due("fewer go ahead of nearer", y.sign(6, 6), 4);
        CHECK.due("two, the least difference", y.sign(12, 12), 3);
        NetsCut z = new NetsCut();
        for (int i = 0; i < 9; i++) {
            z.term(9999, -9999);
        }
        CHECK.due("all nine", z.sign(89991, -89991), 511);
        CHECK.due("beyond all nine", z.sign(89992, -99999), -2);
        CHECK.due("five of nine", z.sign(49995, -49995), 31);
        CHECK.due("below what five are worth", z.sign(49995, -49994), -2);
    }

    // ---- VIII.

    private static int escort(int risk, int trawlers, int frigates) {
        NetsCut x = new NetsCut();
        x.box(9999, 999, risk);
        int cut = x.escort(trawlers, frigates);
        CHECK.due("caught", x.escorts(0), trawlers * 9999 - trawlers * (trawlers - 1) * 999);
        CHECK.due("trawlers", x.escorts(100), trawlers);
        CHECK.due("frigates", x.escorts(200), frigates);
        return cut;
    }

    private static void cutAndCaught() {
        CHECK.due("no trawlers", escort(99, 0, 0), 0);
        CHECK.due("no trawlers, but frigates", escort(99, 0, 6), 0);
        CHECK.due("no frigates", escort(99, 12, 0), 1188);
        CHECK.due("all frigates", escort(99, 12, 6), 1128);
        CHECK.due("no risk", escort(0, 12, 0), 0);
        CHECK.due("20 less 10", escort(20, 1, 1), 10);
        CHECK.due("20 less 20", escort(20, 1, 2), 0);
        CHECK.due("0 at least", escort(20, 1, 3), 0);
        CHECK.due("11 less 10", escort(11, 1, 1), 1);
        NetsCut x = new NetsCut();
        x.box(0, 1, 0);
        CHECK.due("below 0", x.escort(2, 0), 0);
        CHECK.due("below 0", x.escorts(0), -2);
        NetsCut y = new NetsCut();
        y.box(0, 999, 0);
        CHECK.due("far below 0", y.escort(12, 0), 0);
        CHECK.due("far below 0", y.escorts(0), -131868);
        // one cut less goes ahead of the most that can be caught more
        NetsCut z = new NetsCut();
        z.box(9999, 0, 1);
        z.box(0, 999, 0);
        CHECK.due("the least cut", z.escort(12, 0), 0);
        CHECK.due("whatever is caught", z.escorts(0), -131868);
        CHECK.due("all in box 1", z.escorts(101), 12);
    }

    private static void firstOfSeveralEscorts() {
        NetsCut x = new NetsCut();
        x.box(10, 1, 0);
        x.box(10, 1, 0);
        CHECK.due("all alike", x.escort(3, 2), 0);
        CHECK.due("box 0 with the fewest trawlers", x.escorts(100), 1);
        CHECK.due("box 1", x.escorts(101), 2);
        CHECK.due("of several the fewest frigates", x.escorts(200), 0);
        CHECK.due("box 1", x.escorts(201), 2);
        CHECK.due("caught", x.escorts(0), 10 + 20 - 2);
        NetsCut y = new NetsCut();
        for (int b = 0; b < 6; b++) {
            y.box(0, 0, 0);
        }
        CHECK.due("nothing matters", y.escort(12, 6), 0);
        for (int b = 0; b < 6; b++) {
            CHECK.due("all in the last", y.escorts(100 + b), b == 5 ? 12 : 0);
            CHECK.due("all in the last", y.escorts(200 + b), b == 5 ? 6 : 0);
        }
        NetsCut z = new NetsCut();
        z.box(0, 0, 10);
        z.box(0, 0, 10);
        z.box(0, 0, 10);
        CHECK.due("one cut is left", z.escort(2, 1), 10);
        CHECK.due("box 0 has none", z.escorts(100), 0);
        CHECK.due("box 1 has none", z.escorts(101), 0);
        CHECK.due("the frigate is where they are", z.escorts(202), 1);
    }

    private static void escortsOfTheLatest() {
        NetsCut x = new NetsCut();
        x.box(7, 0, 5);
        CHECK.due("ahead of any", x.escorts(100), NOT_TOLD);
        CHECK.due("a cut", x.escort(4, 1), 10);
        x.box(9, 0, 0);
        CHECK.due("caught then", x.escorts(0), 28);
        CHECK.due("box 0 then", x.escorts(100), 4);
        CHECK.due("no box 1 then", x.escorts(101), NOT_TOLD);
        CHECK.due("no box 1 then", x.escorts(201), NOT_TOLD);
        CHECK.due("refused", x.escort(13, 0), -1);
        CHECK.due("refused", x.escort(4, 7), -1);
        CHECK.due("as it was", x.escorts(100), 4);
        CHECK.due("a cut", x.escort(0, 0), 0);
        CHECK.due("caught", x.escorts(0), 0);
        CHECK.due("box 1", x.escorts(101), 0);
        CHECK.due("box 1", x.escorts(201), 0);
        for (int what : new int[] {-1, 1, 2, 99, 102, 105, 106, 199, 202, 205, 206, 300}) {
            CHECK.due("another what", x.escorts(what), NOT_TOLD);
        }
    }
}
