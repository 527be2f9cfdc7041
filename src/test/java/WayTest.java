import java.util.Random;

/** Promise 27: way. */
public final class WayTest {
    private static final Check CHECK = new Check("WayTest");

    public static void main(String[] args) {
        CHECK.due("crossing, b to the right", way(5, 5, 6, 5, 8, 8, 8, 7), 1);
        CHECK.due("crossing, a to the right", way(8, 8, 8, 7, 5, 5, 6, 5), 2);
        CHECK.due("crossing, both to the left", way(5, 5, 6, 5, 8, 2, 8, 1), 0);
        CHECK.due("head on, in one line", way(5, 5, 6, 5, 9, 5, 8, 5), 0);
        CHECK.due("head on, each to the right", way(5, 5, 6, 5, 9, 6, 8, 6), 3);
        CHECK.due("a overtakes", way(5, 5, 7, 5, 8, 5, 9, 5), 1);
        CHECK.due("b overtakes", way(8, 5, 9, 5, 5, 5, 7, 5), 2);
        CHECK.due("overtaken, though to its right", way(5, 5, 7, 5, 8, 6, 9, 6), 1);
        CHECK.due("overtaken with the other one to its right", way(5, 6, 7, 6, 8, 5, 9, 5), 1);
        CHECK.due("side by side", way(5, 5, 6, 5, 5, 8, 6, 8), 1);
        CHECK.due("both lie still", way(5, 5, 5, 5, 6, 6, 6, 6), 0);
        CHECK.due("a lies still", way(5, 5, 5, 5, 4, 4, 4, 5), 0);
        CHECK.due("b lies still to the right", way(5, 5, 6, 5, 6, 7, 6, 7), 1);
        CHECK.due("each overtakes the other", way(5, 6, 6, 7, 5, 5, 7, 4), 0);
        wrongInputs();
        laterOnesDoNotCount();
        byTrying();
        CHECK.end();
    }

    private static int way(int ax, int ay, int ax1, int ay1, int bx, int by, int bx1, int by1) {
        NetsCut x = new NetsCut();
        x.ship(0, 0, 1, 0);
        x.ship(1, 0, 1, 0);
        x.clock(7);
        x.report(0, 0, 4, ax, ay);
        x.report(0, 0, 5, ax1, ay1);
        x.report(1, 1, 4, bx, by);
        x.report(1, 1, 5, bx1, by1);
        return x.way(0, 1, 5, 7);
    }

    private static void wrongInputs() {
        NetsCut x = new NetsCut();
        x.ship(0, 0, 1, 0);
        x.ship(1, 0, 1, 0);
        CHECK.due("nowhere", x.way(0, 1, 1, 0), -2);
        x.clock(1);
        x.report(0, 0, 0, 1, 1);
        x.report(1, 1, 1, 1, 1);
        CHECK.due("one nowhere the minute before", x.way(0, 1, 1, 1), -2);
        CHECK.due("the other one nowhere the minute before", x.way(1, 0, 1, 1), -2);
        CHECK.due("the minute behind", x.way(0, 1, 2, 1), 0);
        CHECK.due("not known", x.way(0, 1, 2, 0), -2);
        CHECK.due("minute 0", x.way(0, 1, 0, 1), -1);
        CHECK.due("minute 9000", x.way(0, 1, 9000, 1), -1);
        CHECK.due("known", x.way(0, 1, 1, 9000), -1);
        CHECK.due("known", x.way(0, 1, 1, -1), -1);
        CHECK.due("one ship", x.way(0, 0, 2, 1), -1);
        CHECK.due("a", x.way(2, 0, 2, 1), -1);
        CHECK.due("b", x.way(0, -1, 2, 1), -1);
    }

    /** Each ship's course is of the minute, though more is known of it later. */
    private static void laterOnesDoNotCount() {
        int[] cells = {5, 5, 6, 5, 8, 8, 8, 7};
        for (int later = 0; later < 2; later++) {
            NetsCut x = new NetsCut();
            x.ship(0, 0, 1, 0);
            x.ship(1, 0, 1, 0);
            x.clock(9);
            for (int s = 0; s < 2; s++) {
                x.report(s, s, 4, cells[4 * s], cells[4 * s + 1]);
                x.report(s, s, 5, cells[4 * s + 2], cells[4 * s + 3]);
            }
            x.report(later, later, 6, 20 * later, 20 - 20 * later);
            x.report(later, later, 8, 23 - 20 * later, 20 * later);
            CHECK.due("a has to in 5", x.way(0, 1, 5, 9), 1);
            CHECK.due("b the other way round", x.way(1, 0, 5, 9), 2);
            x.clock(10);
            x.report(later, later, 5, cells[4 * later], cells[4 * later + 1]);
            CHECK.due("as known in 9", x.way(0, 1, 5, 9), 1);
            CHECK.due("as known in 10 one lay still", x.way(0, 1, 5, 10), later == 0 ? 0 : 1);
        }
    }

    private static void byTrying() {
        Random random = new Random(8);
        for (int run = 0; run < 3000; run++) {
            int[] c = new int[8];
            for (int i = 0; i < 8; i++) {
                c[i] = random.nextInt(5);
            }
            boolean aOver = overtakes(c, 0, 4);
            boolean bOver = overtakes(c, 4, 0);
            int want = 0;
            if (goes(c, 0) && (aOver || right(c, 0, 4)) && !bOver) {
                want += 1;
            }
            if (goes(c, 4) && (bOver || right(c, 4, 0)) && !aOver) {
                want += 2;
            }
            CHECK.due("way " + run, way(c[0], c[1], c[2], c[3], c[4], c[5], c[6], c[7]), want);
        }
    }

    private static boolean goes(int[] c, int a) {
        return c[a] != c[a + 2] || c[a + 1] != c[a + 3];
    }

    private static boolean overtakes(int[] c, int a, int b) {
        int courses = (c[a + 2] - c[a]) * (c[b + 2] - c[b]) + (c[a + 3] - c[a + 1]) * (c[b + 3] - c[b + 1]);
        int behind = (c[a] - c[b]) * (c[b + 2] - c[b]) + (c[a + 1] - c[b + 1]) * (c[b + 3] - c[b + 1]);
        return courses > 0 && behind < 0;
    }

    private static boolean right(int[] c, int a, int b) {
        int p = c[b] - c[a];
        int q = c[b + 1] - c[a + 1];
        return (c[a + 2] - c[a]) * q - (c[a + 3] - c[a + 1]) * p > 0;
    }
}
