import java.util.Random;

/** Promises 28 to 35: office, year, stock, fails, agree, age, landed, pays. */
public final class StockTest {
    private static final Check CHECK = new Check("StockTest");

    public static void main(String[] args) {
        offices();
        years();
        stocks();
        fails();
        agree();
        agreeByTrying();
        ages();
        landed();
        pays();
        meshesByTrying();
        CHECK.end();
    }

    private static void offices() {
        NetsCut x = new NetsCut();
        CHECK.due("office", x.office(0, 99999999, 1000), true);
        CHECK.due("office", x.office(2, 0, 0), false);
        CHECK.due("office", x.office(-1, 0, 0), false);
        CHECK.due("begin", x.office(0, 100000000, 0), false);
        CHECK.due("begin", x.office(0, -1, 0), false);
        CHECK.due("loss", x.office(0, 0, 1001), false);
        CHECK.due("loss", x.office(0, 0, -1), false);
        CHECK.due("as before", x.stock(0, 0), 99999999);
        CHECK.due("the other one", x.stock(1, 0), 0);
    }

    private static void years() {
        NetsCut x = new NetsCut();
        CHECK.due("recruits", x.year(0, 39, 9999999), 0);
        CHECK.due("recruits", x.year(0, 39, 5), 9999999);
        CHECK.due("of the other", x.year(1, 39, 6), 0);
        CHECK.due("catch", x.year(2, 39, 7), 0);
        CHECK.due("catch", x.year(2, 39, 8), 7);
        CHECK.due("office", x.year(3, 0, 0), -1);
        CHECK.due("office", x.year(-1, 0, 0), -1);
        CHECK.due("year", x.year(0, 40, 0), -1);
        CHECK.due("year", x.year(0, -1, 0), -1);
        CHECK.due("n", x.year(0, 39, 10000000), -1);
        CHECK.due("n", x.year(0, 39, -1), -1);
        CHECK.due("as before", x.year(0, 39, 0), 5);
    }

    private static void stocks() {
        NetsCut x = new NetsCut();
        x.office(0, 1000, 333);
        x.year(0, 0, 50);
        x.year(0, 1, 7);
        x.year(2, 0, 101);
        x.year(2, 1, 5000);
        CHECK.due("year 0", x.stock(0, 0), 1000);
        CHECK.due("year 1", x.stock(0, 1), 899 * 667 / 1000 + 50);
        CHECK.due("year 2", x.stock(0, 2), 7);
        CHECK.due("year 3", x.stock(0, 3), 4);
        CHECK.due("office", x.stock(2, 0), -1);
        CHECK.due("office", x.stock(-1, 0), -1);
        CHECK.due("year", x.stock(0, 40), -1);
        CHECK.due("year", x.stock(0, -1), -1);
        x.office(1, 99999999, 0);
        for (int y = 0; y < 40; y++) {
            x.year(1, y, 9999999);
            x.year(2, y, 0);
        }
        CHECK.due("the greatest", x.stock(1, 39), 99999999L + 39L * 9999999L);
    }

    private static void fails() {
        NetsCut x = new NetsCut();
        CHECK.due("nothing caught", x.fails(0), -2);
        x.office(0, 100, 0);
        x.office(1, 99, 0);
        x.year(2, 0, 100);
        CHECK.due("all caught", x.fails(0), -2);
        CHECK.due("one too many", x.fails(1), 0);
        x.year(0, 38, 5);
        x.year(2, 39, 6);
        CHECK.due("the last year", x.fails(0), 39);
        x.year(2, 39, 5);
        CHECK.due("enough", x.fails(0), -2);
        CHECK.due("office", x.fails(2), -1);
        CHECK.due("office", x.fails(-1), -1);
    }

    private static void agree() {
        NetsCut x = new NetsCut();
        x.office(0, 1000, 100);
        x.office(1, 1000, 300);
        CHECK.due("year 0: all the same", x.agree(0, 0), 0);
        CHECK.due("year 1", x.agree(0, 1), 300);
        CHECK.due("year 1", x.agree(1, 1), 100);
        x.office(1, 1001, 300);
        CHECK.due("700 of 1000", x.agree(0, 1), 300);
        CHECK.due("900 of 1001, the first", x.agree(1, 1), 100);
        x.office(1, 5000, 0);
        CHECK.due("never so many", x.agree(0, 3), 0);
        x.office(1, 0, 0);
        CHECK.due("nothing is left", x.agree(0, 1), 1000);
        CHECK.due("nothing is left, the first", x.agree(0, 39), firstOfNothing(1000, 39));
        CHECK.due("office", x.agree(2, 0), -1);
        CHECK.due("office", x.agree(-1, 0), -1);
        CHECK.due("year", x.agree(0, 40), -1);
        CHECK.due("year", x.agree(0, -1), -1);
    }

    private static int firstOfNothing(long begin, int years) {
        for (int loss = 0; loss <= 1000; loss++) {
            long stock = begin;
            for (int y = 0; y < years; y++) {
                stock = stock * (1000 - loss) / 1000;
            }
            if (stock == 0) {
                return loss;
            }
        }
        return -1;
    }

    private static long stock(int begin, int loss, int[] recruits, int[] caught, int year) {
        long stock = begin;
        for (int y = 0; y < year; y++) {
            stock = Math.max(0, stock - caught[y]) * (1000 - loss) / 1000 + recruits[y];
        }
        return stock;
    }

    private static void agreeByTrying() {
        Random random = new Random(21);
        for (int run = 0; run < 400; run++) {
            NetsCut x = new NetsCut();
            int size = run % 2 == 0 ? 300 : 99999999;
            int[] begin = {random.nextInt(size), random.nextInt(size)};
            int[] loss = {random.nextInt(1001), random.nextInt(1001)};
            int[][] told = new int[3][40];
            for (int o = 0; o < 2; o++) {
                x.office(o, begin[o], loss[o]);
            }
            for (int row = 0; row < 3; row++) {
                for (int y = 0; y < 40; y++) {
                    told[row][y] = random.nextInt(Math.min(9999999, size / (row == 2 ? 3 : 2)));
                    x.year(row, y, told[row][y]);
                }
            }
            for (int i = 0; i < 5; i++) {
                int year = random.nextInt(40);
                int o = random.nextInt(2);
                CHECK.due("stock", x.stock(o, year), stock(begin[o], loss[o], told[o], told[2], year));
                long aim = stock(begin[1 - o], loss[1 - o], told[1 - o], told[2], year);
                int best = 0;
                long gap = Long.MAX_VALUE;
                for (int l = 0; l <= 1000; l++) {
                    long now = Math.abs(stock(begin[o], l, told[o], told[2], year) - aim);
                    if (now < gap) {
                        gap = now;
                        best = l;
                    }
                }
                CHECK.due("agree", x.agree(o, year), best);
                int first = -2;
                for (int y = 39; y >= 0; y--) {
                    first = told[2][y] > stock(begin[o], loss[o], told[o], told[2], y) ? y : first;
                }
                CHECK.due("fails", x.fails(o), first);
            }
        }
    }

    private static void ages() {
        NetsCut x = new NetsCut();
        CHECK.due("age", x.age(7, 999999, 199, 999), true);
        CHECK.due("age", x.age(0, 0, 0, 0), true);
        CHECK.due("age", x.age(8, 0, 0, 0), false);
        CHECK.due("age", x.age(-1, 0, 0, 0), false);
        CHECK.due("many", x.age(7, 1000000, 0, 0), false);
        CHECK.due("many", x.age(7, -1, 0, 0), false);
        CHECK.due("length", x.age(7, 0, 200, 0), false);
        CHECK.due("length", x.age(7, 0, -1, 0), false);
        CHECK.due("worth", x.age(7, 0, 0, 1000), false);
        CHECK.due("worth", x.age(7, 0, 0, -1), false);
        CHECK.due("as before", x.landed(1, 199, 1000, 0, 0), 999999L * 999L);
    }

    private static void landed() {
        NetsCut x = new NetsCut();
        CHECK.due("no fish", x.landed(30, 0, 1000, 0, 999999), 0);
        x.age(0, 1000, 10, 1);
        x.age(1, 2000, 20, 3);
        CHECK.due("both", x.landed(1, 10, 500, 0, 0), 500 + 1000 * 3);
        CHECK.due("the older", x.landed(1, 11, 500, 0, 0), 1000 * 3);
        CHECK.due("none", x.landed(1, 21, 500, 0, 0), 0);
        // year 2: age 0 has 7, age 1 has 500 * 901 / 1000, age 2 has what no mesh holds (length 0)
        CHECK.due("two years", x.landed(2, 10, 500, 99, 7), 500 + 3000 + 7 * 500 / 1000 + 500 * 901 / 1000 / 2 * 3);
        CHECK.due("nothing is kept in the object", x.landed(1, 10, 500, 0, 0), 500 + 1000 * 3);
        NetsCut y = new NetsCut();
        y.age(6, 100, 5, 0);
        y.age(7, 1000, 5, 1);
        // of age 7 half is caught, half is left and joined by all of age 6, half of which is caught too
        CHECK.due("7 stays 7", y.landed(2, 5, 500, 0, 0), 500 + (500 + 50) / 2);
        CHECK.due("no effort, all lost", x.landed(30, 0, 0, 1000, 999999), 0);
        CHECK.due("all caught", x.landed(30, 0, 1000, 1000, 0), 1000 + 6000);
        CHECK.due("years", x.landed(0, 0, 0, 0, 0), -1);
        CHECK.due("years", x.landed(31, 0, 0, 0, 0), -1);
        CHECK.due("mesh", x.landed(1, 200, 0, 0, 0), -1);
        CHECK.due("mesh", x.landed(1, -1, 0, 0, 0), -1);
        CHECK.due("effort", x.landed(1, 0, 1001, 0, 0), -1);
        CHECK.due("effort", x.landed(1, 0, -1, 0, 0), -1);
        CHECK.due("loss", x.landed(1, 0, 0, 1001, 0), -1);
        CHECK.due("loss", x.landed(1, 0, 0, -1, 0), -1);
        CHECK.due("newcomers", x.landed(1, 0, 0, 0, 1000000), -1);
        CHECK.due("newcomers", x.landed(1, 0, 0, 0, -1), -1);
    }

    private static void pays() {
        NetsCut x = new NetsCut();
        CHECK.due("nothing is not below nothing", x.pays(0, 100, 500, 0, 0), 1);
        x.age(0, 1000, 10, 1);
        x.age(1, 0, 20, 10);
        CHECK.due("the same", x.pays(5, 5, 500, 0, 0), 1);
        CHECK.due("never, for fish of no length", x.pays(10, 30, 500, 0, 1000), -2);
        CHECK.due("the next year", x.pays(10, 20, 500, 0, 1000), 2);
        CHECK.due("the smaller mesh at once", x.pays(20, 10, 500, 0, 1000), 1);
        // 51516 of 51517 behind year 29, 55206 of 55177 behind year 30
        NetsCut y = new NetsCut();
        y.age(0, 2395, 50, 1);
        y.age(7, 0, 60, 18);
        CHECK.due("one coin short in year 29", y.pays(50, 60, 13, 51, 1849), 30);
        CHECK.due("with 29 years", y.landed(29, 60, 13, 51, 1849), 51516);
        CHECK.due("a", x.pays(200, 0, 0, 0, 0), -1);
        CHECK.due("a", x.pays(-1, 0, 0, 0, 0), -1);
        CHECK.due("b", x.pays(0, 200, 0, 0, 0), -1);
        CHECK.due("b", x.pays(0, -1, 0, 0, 0), -1);
        CHECK.due("effort", x.pays(0, 0, 1001, 0, 0), -1);
        CHECK.due("effort", x.pays(0, 0, -1, 0, 0), -1);
        CHECK.due("loss", x.pays(0, 0, 0, 1001, 0), -1);
        CHECK.due("loss", x.pays(0, 0, 0, -1, 0), -1);
        CHECK.due("newcomers", x.pays(0, 0, 0, 0, 1000000), -1);
        CHECK.due("newcomers", x.pays(0, 0, 0, 0, -1), -1);
    }

    private static long landed(int[][] ages, int years, int mesh, int effort, int loss, int newcomers) {
        long[] fish = new long[8];
        for (int a = 0; a < 8; a++) {
            fish[a] = ages[a][0];
        }
        long coins = 0;
        for (int y = 0; y < years; y++) {
            long[] next = new long[8];
            next[0] = newcomers;
            for (int a = 0; a < 8; a++) {
                long caught = ages[a][1] < mesh ? 0 : fish[a] * effort / 1000;
                coins += caught * ages[a][2];
                next[Math.min(7, a + 1)] += (fish[a] - caught) * (1000 - loss) / 1000;
            }
            fish = next;
        }
        return coins;
    }

    private static void meshesByTrying() {
        Random random = new Random(31);
        for (int run = 0; run < 500; run++) {
            NetsCut x = new NetsCut();
            int[][] ages = new int[8][];
            for (int a = 0; a < 8; a++) {
                ages[a] = new int[] {random.nextInt(5000), Math.min(199, 20 * a + random.nextInt(30)),
                    Math.min(999, 10 * a * a + random.nextInt(20))};
                x.age(a, ages[a][0], ages[a][1], ages[a][2]);
            }
            int effort = random.nextInt(1001);
            int loss = random.nextInt(400);
            int newcomers = random.nextInt(10000);
            int a = random.nextInt(200);
            int b = random.nextInt(200);
            int first = -2;
            for (int y = 30; y >= 1; y--) {
                long withA = landed(ages, y, a, effort, loss, newcomers);
                CHECK.due("landed", x.landed(y, a, effort, loss, newcomers), withA);
                first = landed(ages, y, b, effort, loss, newcomers) >= withA ? y : first;
            }
            CHECK.due("pays", x.pays(a, b, effort, loss, newcomers), first);
        }
    }
}
