import java.util.Random;

/** Promises 43 to 45: box, escort, escorts. */
public final class BoxTest {
    private static final Check CHECK = new Check("BoxTest");
    private static final int NOT_TOLD = -1000000000;

    private int[][] boxes;
    private int[] bestTrawlers;
    private int[] bestFrigates;
    private long bestCut;
    private long bestCaught;

    public static void main(String[] args) {
        boxes();
        byHand();
        byTrying();
        CHECK.end();
    }

    private static void boxes() {
        NetsCut x = new NetsCut();
        CHECK.due("fish", x.box(10000, 0, 0), -1);
        CHECK.due("fish", x.box(-1, 0, 0), -1);
        CHECK.due("crowd", x.box(0, 1000, 0), -1);
        CHECK.due("crowd", x.box(0, -1, 0), -1);
        CHECK.due("risk", x.box(0, 0, 100), -1);
        CHECK.due("risk", x.box(0, 0, -1), -1);
        for (int i = 0; i < 6; i++) {
            CHECK.due("box", x.box(9999, 999, 99), i);
        }
        CHECK.due("box 7", x.box(0, 0, 0), -1);
        CHECK.due("boxes", x.count(10), 6);
    }

    private static void byHand() {
        NetsCut x = new NetsCut();
        CHECK.due("ahead of any", x.escorts(0), NOT_TOLD);
        CHECK.due("trawlers, no boxes", x.escort(1, 0), -2);
        CHECK.due("frigates, no boxes", x.escort(0, 1), -2);
        CHECK.due("still ahead of any", x.escorts(0), NOT_TOLD);
        CHECK.due("wrong, no boxes", x.escort(13, 0), -1);
        CHECK.due("none of both, no boxes", x.escort(0, 0), 0);
        CHECK.due("caught", x.escorts(0), 0);
        CHECK.due("no box", x.escorts(100), NOT_TOLD);
        x.box(100, 10, 20);
        CHECK.due("no box then", x.escorts(100), NOT_TOLD);
        CHECK.due("one box", x.escort(3, 2), 40);
        CHECK.due("caught", x.escorts(0), 300 - 60);
        CHECK.due("trawlers", x.escorts(100), 3);
        CHECK.due("frigates", x.escorts(200), 2);
        x.box(50, 0, 0);
        CHECK.due("no such box then", x.escorts(101), NOT_TOLD);
        CHECK.due("two boxes", x.escort(3, 2), 0);
        CHECK.due("caught", x.escorts(0), 200);
        CHECK.due("trawlers", x.escorts(100), 1);
        CHECK.due("trawlers", x.escorts(101), 2);
        CHECK.due("trawlers", x.escorts(102), NOT_TOLD);
        CHECK.due("frigates", x.escorts(200), 2);
        CHECK.due("frigates", x.escorts(201), 0);
        CHECK.due("frigates", x.escorts(202), NOT_TOLD);
        CHECK.due("trawlers", x.escort(13, 0), -1);
        CHECK.due("trawlers", x.escort(-1, 0), -1);
        CHECK.due("frigates", x.escort(0, 7), -1);
        CHECK.due("frigates", x.escort(0, -1), -1);
        CHECK.due("as before", x.escorts(0), 200);
        for (int what : new int[] {-1, 1, 99, 199, 300, Integer.MAX_VALUE, Integer.MIN_VALUE}) {
            CHECK.due("another what", x.escorts(what), NOT_TOLD);
        }
        NetsCut six = new NetsCut();
        for (int b = 0; b < 6; b++) {
            six.box(9999, 999, 99);
        }
        CHECK.due("all of all", six.escort(12, 6), 12 * 99 - 60);
        CHECK.due("caught", six.escorts(0), 12 * 9999 - 6 * 2 * 999);
        for (int b = 0; b < 6; b++) {
            CHECK.due("two each", six.escorts(100 + b), 2);
            CHECK.due("the frigates last", six.escorts(200 + b), b == 5 ? 6 : 0);
        }
        NetsCut y = new NetsCut();
        y.box(0, 999, 0);
        CHECK.due("below 0", y.escort(12, 6), 0);
        CHECK.due("below 0", y.escorts(0), -12 * 11 * 999);
    }

    private static void byTrying() {
        Random random = new Random(61);
        for (int run = 0; run < 400; run++) {
            BoxTest plain = new BoxTest();
            int n = 1 + random.nextInt(run % 10 == 0 ? 6 : 4);
            NetsCut x = new NetsCut();
            plain.boxes = new int[n][];
            for (int b = 0; b < n; b++) {
                boolean great = run % 3 == 0;
                plain.boxes[b] = new int[] {random.nextInt(great ? 10000 : 60), random.nextInt(great ? 1000 : 6),
                    random.nextInt(great ? 100 : 15)};
                x.box(plain.boxes[b][0], plain.boxes[b][1], plain.boxes[b][2]);
            }
            int t = random.nextInt(n > 4 ? 5 : 13);
            int f = random.nextInt(n > 4 ? 3 : 7);
            plain.tryAll(0, t, f, new int[n], new int[n]);
            CHECK.due("escort", x.escort(t, f), plain.bestCut);
            CHECK.due("caught", x.escorts(0), plain.bestCaught);
            for (int b = 0; b < n; b++) {
                CHECK.due("trawlers", x.escorts(100 + b), plain.bestTrawlers[b]);
                CHECK.due("frigates", x.escorts(200 + b), plain.bestFrigates[b]);
            }
        }
    }

    /** Goes through all ways in the document's order, so that the first of equals stays. */
    private void tryAll(int b, int t, int f, int[] trawlers, int[] frigates) {
        if (b == boxes.length) {
            if (t == 0 && f == 0) {
                compare(trawlers, frigates);
            }
            return;
        }
        for (int i = 0; i <= t; i++) {
            for (int j = 0; j <= f; j++) {
                trawlers[b] = i;
                frigates[b] = j;
                tryAll(b + 1, t - i, f - j, trawlers, frigates);
            }
        }
    }

    private void compare(int[] trawlers, int[] frigates) {
        long cut = 0;
        long caught = 0;
        for (int b = 0; b < boxes.length; b++) {
            int t = trawlers[b];
            cut += Math.min(t * boxes[b][2], Math.max(0, t * boxes[b][2] - 10 * frigates[b]));
            caught += t * boxes[b][0] - t * (t - 1) * boxes[b][1];
        }
        if (bestTrawlers == null || cut < bestCut || cut == bestCut && caught > bestCaught) {
            bestCut = cut;
            bestCaught = caught;
            bestTrawlers = trawlers.clone();
            bestFrigates = frigates.clone();
        }
    }
}
