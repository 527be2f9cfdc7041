import java.util.Random;

/** Promises 36 to 42: town, bar, lost, yields, sideYields, term, sign. */
public final class TownTest {
    private static final Check CHECK = new Check("TownTest");

    public static void main(String[] args) {
        towns();
        bars();
        losses();
        sides();
        townsByTrying();
        terms();
        signs();
        signsByTrying();
        CHECK.end();
    }

    private static void towns() {
        NetsCut x = new NetsCut();
        CHECK.due("side", x.town(2, 0, 0, 0), -1);
        CHECK.due("side", x.town(-1, 0, 0, 0), -1);
        CHECK.due("votes", x.town(0, 10000, 0, 0), -1);
        CHECK.due("votes", x.town(0, -1, 0, 0), -1);
        CHECK.due("patience", x.town(0, 0, 10000000, 0), -1);
        CHECK.due("patience", x.town(0, 0, -1, 0), -1);
        CHECK.due("coins", x.town(0, 0, 0, 100000), -1);
        CHECK.due("coins", x.town(0, 0, 0, -1), -1);
        for (int i = 0; i < 8; i++) {
            CHECK.due("town", x.town(i % 2, 9999, 9999999, 99999), i);
        }
        CHECK.due("town 9", x.town(0, 0, 0, 0), -1);
        CHECK.due("towns", x.count(7), 8);
    }

    private static void bars() {
        NetsCut x = new NetsCut();
        CHECK.due("no town", x.bar(0, 0, 0), -1);
        x.town(0, 1, 1, 1);
        CHECK.due("town", x.bar(-1, 0, 0), -1);
        CHECK.due("a", x.bar(0, -1, 0), -1);
        CHECK.due("b", x.bar(0, 0, 100), -1);
        CHECK.due("from the later one", x.bar(0, 5, 4), -1);
        for (int i = 1; i <= 20; i++) {
            CHECK.due("bar", x.bar(0, 99, 99), i);
        }
        CHECK.due("bar 21", x.bar(0, 0, 0), -1);
        CHECK.due("bars", x.count(8), 20);
        CHECK.due("not barred", x.lost(0, 98), 0);
        CHECK.due("barred once", x.lost(0, 99), 1);
    }

    private static void losses() {
        NetsCut x = new NetsCut();
        x.town(0, 1, 30, 10);
        x.town(0, 1, 0, 10);
        x.town(0, 1, 0, 0);
        x.town(0, 1, 31, 10);
        x.bar(0, 2, 3);
        x.bar(0, 3, 4);
        x.bar(1, 7, 7);
        x.bar(2, 0, 99);
        x.bar(3, 2, 4);
        CHECK.due("ahead", x.lost(0, 1), 0);
        CHECK.due("in it", x.lost(0, 2), 10);
        CHECK.due("twice barred", x.lost(0, 3), 20);
        CHECK.due("behind", x.lost(0, 99), 30);
        CHECK.due("gives way", x.yields(0), 4);
        CHECK.due("no patience", x.yields(1), 7);
        CHECK.due("loses nothing", x.yields(2), -2);
        CHECK.due("one coin more", x.yields(3), -2);
        CHECK.due("town", x.lost(4, 0), -1);
        CHECK.due("town", x.lost(-1, 0), -1);
        CHECK.due("week", x.lost(0, 100), -1);
        CHECK.due("week", x.lost(0, -1), -1);
        CHECK.due("town", x.yields(4), -1);
        CHECK.due("town", x.yields(-1), -1);
    }

    private static void sides() {
        NetsCut x = new NetsCut();
        CHECK.due("no towns", x.sideYields(0), -2);
        x.town(0, 50, 1, 1);
        x.town(0, 50, 1, 1);
        x.town(1, 0, 1, 1);
        x.bar(0, 3, 3);
        x.bar(2, 3, 3);
        CHECK.due("half is not enough", x.sideYields(0), -2);
        CHECK.due("no votes at all", x.sideYields(1), -2);
        x.bar(1, 9, 9);
        CHECK.due("both", x.sideYields(0), 9);
        x.town(0, 1, 1, 1);
        x.bar(3, 5, 5);
        CHECK.due("51 of 101", x.sideYields(0), 5);
        CHECK.due("side", x.sideYields(2), -1);
        CHECK.due("side", x.sideYields(-1), -1);
    }

    private static void townsByTrying() {
        Random random = new Random(41);
        for (int run = 0; run < 500; run++) {
            NetsCut x = new NetsCut();
            int n = random.nextInt(9);
            int[][] town = new int[n][];
            for (int i = 0; i < n; i++) {
                town[i] = new int[] {random.nextInt(2), random.nextInt(20), random.nextInt(200), random.nextInt(20)};
                x.town(town[i][0], town[i][1], town[i][2], town[i][3]);
            }
            boolean[][] barred = new boolean[n][100];
            for (int i = 0; n > 0 && i < 15; i++) {
                int t = random.nextInt(n);
                int a = random.nextInt(100);
                int b = a + random.nextInt(Math.min(30, 100 - a));
                x.bar(t, a, b);
                for (int w = a; w <= b; w++) {
                    barred[t][w] = true;
                }
            }
            int[] lost = new int[n];
            int[] gave = new int[n];
            int[] side = {-2, -2};
            for (int w = 0; w < 100; w++) {
                int[] all = new int[2];
                int[] given = new int[2];
                for (int t = 0; t < n; t++) {
                    lost[t] += barred[t][w] ? town[t][3] : 0;
                    CHECK.due("lost", x.lost(t, w), lost[t]);
                    if (gave[t] == 0 && lost[t] > 0 && lost[t] >= town[t][2]) {
                        gave[t] = w + 1;
                    }
                    all[town[t][0]] += town[t][1];
                    given[town[t][0]] += gave[t] > 0 ? town[t][1] : 0;
                }
                for (int s = 0; s < 2; s++) {
                    side[s] = side[s] == -2 && given[s] > all[s] / 2.0 ? w : side[s];
                }
            }
            for (int t = 0; t < n; t++) {
                CHECK.due("yields", x.yields(t), gave[t] == 0 ? -2 : gave[t] - 1);
            }
            CHECK.due("side 0", x.sideYields(0), side[0]);
            CHECK.due("side 1", x.sideYields(1), side[1]);
        }
    }

    private static void terms() {
        NetsCut x = new NetsCut();
        CHECK.due("a", x.term(10000, 0), -1);
        CHECK.due("a", x.term(-10000, 0), -1);
        CHECK.due("b", x.term(0, 10000), -1);
        CHECK.due("b", x.term(0, -10000), -1);
        NetsCut y = new NetsCut();
        CHECK.due("the ends", y.term(-9999, 9999), 0);
        CHECK.due("the ends", y.sign(-9999, 9999), 1);
        for (int i = 0; i < 9; i++) {
            CHECK.due("term", x.term(9999, -9999), i);
        }
        CHECK.due("term 10", x.term(0, 0), -1);
        CHECK.due("terms", x.count(9), 9);
        CHECK.due("all", x.sign(89991, -99999), 511);
    }

    private static void signs() {
        NetsCut x = new NetsCut();
        CHECK.due("the empty set", x.sign(0, 0), 0);
        CHECK.due("nothing is worth 1", x.sign(1, 0), -2);
        x.term(5, 1);
        x.term(1, 5);
        x.term(3, 3);
        x.term(4, 4);
        CHECK.due("the empty set", x.sign(0, -1), 0);
        CHECK.due("least difference", x.sign(1, 1), 4);
        CHECK.due("one is enough", x.sign(4, 4), 8);
        CHECK.due("two, by number", x.sign(6, 6), 3);
        CHECK.due("two", x.sign(7, 7), 12);
        CHECK.due("for side 0", x.sign(5, 0), 1);
        CHECK.due("all", x.sign(13, 13), 15);
        CHECK.due("too much", x.sign(14, 0), -2);
        CHECK.due("a", x.sign(100000, 0), -1);
        CHECK.due("a", x.sign(-100000, 0), -1);
        CHECK.due("b", x.sign(0, 100000), -1);
        CHECK.due("b", x.sign(0, -100000), -1);
        CHECK.due("the ends", x.sign(-99999, -99999), 0);
        CHECK.due("the ends", x.sign(99999, 99999), -2);
    }

    private static void signsByTrying() {
        Random random = new Random(51);
        for (int run = 0; run < 500; run++) {
            NetsCut x = new NetsCut();
            int n = random.nextInt(10);
            int[][] term = new int[n][];
            for (int i = 0; i < n; i++) {
                int most = run % 3 == 0 ? 9999 : 10;
                term[i] = new int[] {random.nextInt(2 * most + 1) - most, random.nextInt(2 * most + 1) - most};
                x.term(term[i][0], term[i][1]);
            }
            for (int i = 0; i < 10; i++) {
                int times = run % 3 == 0 ? 999 : 1;
                int a = (random.nextInt(60) - 20) * times;
                int b = (random.nextInt(60) - 20) * times;
                int best = -2;
                int[] bestKey = null;
                for (int set = 0; set < 1 << n; set++) {
                    int[] sum = new int[3];
                    for (int t = 0; t < n; t++) {
                        if ((set & 1 << t) != 0) {
                            sum[0] += term[t][0];
                            sum[1] += term[t][1];
                            sum[2]++;
                        }
                    }
                    int[] key = {sum[2], Math.abs(sum[0] - sum[1])};
                    if (sum[0] >= a && sum[1] >= b && (bestKey == null || key[0] < bestKey[0]
                            || key[0] == bestKey[0] && key[1] < bestKey[1])) {
                        best = set;
                        bestKey = key;
                    }
                }
                CHECK.due("sign", x.sign(a, b), best);
            }
        }
    }
}
