import java.util.Random;

/** Promises 25 and 26: hook, hooks. Small games are played out as the document tells them. */
public final class HookTest {
    private static final Check CHECK = new Check("HookTest");
    private static final int LATE = 99;

    private int w;
    private int h;
    /** What is known of the warder's games already, 0 if nothing. */
    private final int[] known = new int[9 * 25 * 25 * 26];

    public static void main(String[] args) {
        byHand();
        wrongInputs();
        byPlaying();
        gamesInTurn();
        CHECK.end();
    }

    private static void byHand() {
        NetsCut x = new NetsCut();
        CHECK.due("ahead of any", x.hooks(), -1);
        CHECK.due("one cell", x.hook(5, 5, 7, 7, -1, 0), 0);
        CHECK.due("0 is not above 0", x.hooks(), -1);
        CHECK.due("beside, no minute", x.hook(5, 5, 7, 8, -1, 0), -2);
        CHECK.due("beside", x.hook(5, 5, 7, 8, -1, 1), 1);
        CHECK.due("goes there", x.hooks(), 7);
        CHECK.due("a row", x.hook(5, 1, 4, 0, -1, 8), 4);
        CHECK.due("goes", x.hooks(), 1);
        CHECK.due("a row, too few", x.hook(5, 1, 4, 0, -1, 3), -2);
        CHECK.due("as before", x.hooks(), 1);
        CHECK.due("a column", x.hook(1, 3, 0, 2, -1, 8), 2);
        CHECK.due("a frigate between", x.hook(5, 1, 4, 0, 2, 8), -2);
        CHECK.due("a frigate upon the trawler", x.hook(2, 1, 0, 1, 0, 8), -2);
        CHECK.due("a corner", x.hook(2, 2, 0, 3, -1, 8), -2);
        CHECK.due("warder upon trawler, with a frigate", x.hook(2, 2, 0, 0, 3, 8), 0);
        CHECK.due("as before", x.hooks(), 1);
    }

    private static void wrongInputs() {
        NetsCut x = new NetsCut();
        CHECK.due("w", x.hook(0, 5, 0, 0, -1, 8), -1);
        CHECK.due("w", x.hook(6, 5, 0, 0, -1, 8), -1);
        CHECK.due("h", x.hook(5, 0, 0, 0, -1, 8), -1);
        CHECK.due("h", x.hook(5, 6, 0, 0, -1, 8), -1);
        CHECK.due("w and h", x.hook(65536, 65536, 0, 0, -1, 8), -1);
        CHECK.due("n", x.hook(5, 5, 0, 0, -1, 9), -1);
        CHECK.due("n", x.hook(5, 5, 0, 0, -1, -1), -1);
        CHECK.due("trawler", x.hook(2, 3, 6, 0, -1, 8), -1);
        CHECK.due("trawler", x.hook(2, 3, -1, 0, -1, 8), -1);
        CHECK.due("warder", x.hook(2, 3, 0, 6, -1, 8), -1);
        CHECK.due("warder", x.hook(2, 3, 0, -1, -1, 8), -1);
        CHECK.due("frigate", x.hook(2, 3, 0, 1, 6, 8), -1);
        CHECK.due("frigate", x.hook(2, 3, 0, 1, -2, 8), -1);
        CHECK.due("warder and frigate", x.hook(2, 3, 0, 1, 1, 8), -1);
        CHECK.due("hooks", x.hooks(), -1);
    }

    private static void byPlaying() {
        Random random = new Random(3);
        for (int w = 1; w <= 5; w++) {
            for (int h = 1; h <= 5; h++) {
                HookTest game = new HookTest();
                game.w = w;
                game.h = h;
                for (int run = 0; run < 600; run++) {
                    game.compare(random);
                }
            }
        }
    }

    private void compare(Random random) {
        int cells = w * h;
        int trawler = random.nextInt(cells);
        int warder = random.nextInt(cells);
        int frigate = random.nextInt(2) * (1 + random.nextInt(cells)) - 1;
        int n = random.nextInt(9);
        if (warder == frigate) {
            return;
        }
        NetsCut x = new NetsCut();
        compareOn(x, -1, trawler, warder, frigate, n);
    }

    /** Plays one game on an object whose hooks() is known so far: what it has to be then. */
    private int compareOn(NetsCut x, int hooks, int trawler, int warder, int frigate, int n) {
        int value = warderGoes(trawler, warder, frigate, n);
        String call = "hook(" + w + ", " + h + ", " + trawler + ", " + warder + ", " + frigate + ", " + n + ")";
        CHECK.due(call, x.hook(w, h, trawler, warder, frigate, n), value > n ? -2 : value);
        int due = value == 0 || value > n ? hooks : firstMove(trawler, warder, frigate, n, value);
        CHECK.due("hooks by " + call, x.hooks(), due);
        return due;
    }

    /** Games in boxes of all forms one behind the other on one object: none leaves anything for the next. */
    private static void gamesInTurn() {
        Random random = new Random(8);
        HookTest[] games = new HookTest[25];
        for (int i = 0; i < 25; i++) {
            games[i] = new HookTest();
            games[i].w = 1 + i % 5;
            games[i].h = 1 + i / 5;
        }
        for (int run = 0; run < 60; run++) {
            NetsCut x = new NetsCut();
            int hooks = -1;
            for (int call = 0; call < 250; call++) {
                HookTest game = games[random.nextInt(25)];
                int cells = game.w * game.h;
                int warder = random.nextInt(cells);
                int frigate = random.nextInt(2) * (1 + random.nextInt(cells)) - 1;
                if (warder != frigate) {
                    hooks = game.compareOn(x, hooks, random.nextInt(cells), warder, frigate, random.nextInt(9));
                }
            }
        }
    }

    private int firstMove(int t, int wa, int f, int n, int value) {
        for (int to = 0; to < w * h; to++) {
            if (isStep(wa, to) && to != f && 1 + frigateGoes(t, to, f, n) == value) {
                return to;
            }
        }
        return -1;
    }

    private boolean isStep(int from, int to) {
        return Math.abs(from % w - to % w) + Math.abs(from / w - to / w) <= 1;
    }

    /** In how many minutes from now it is hooked; n are left. */
    private int warderGoes(int t, int wa, int f, int n) {
        if (t == wa) {
            return 0;
        }
        if (n == 0) {
            return LATE;
        }
        int place = ((n * 25 + t) * 25 + wa) * 26 + f + 1;
        if (known[place] > 0) {
            return known[place];
        }
        int best = LATE;
        for (int to = 0; to < w * h; to++) {
            if (isStep(wa, to) && to != f) {
                best = Math.min(best, 1 + frigateGoes(t, to, f, n));
            }
        }
        known[place] = best;
        return best;
    }

    private int frigateGoes(int t, int wa, int f, int n) {
        if (t == wa) {
            return 0;
        }
        if (f < 0) {
            return trawlerGoes(t, wa, f, n);
        }
        int worst = 0;
        for (int to = 0; to < w * h; to++) {
            if (isStep(f, to) && to != wa) {
                worst = Math.max(worst, trawlerGoes(t, wa, to, n));
            }
        }
        return worst;
    }

    private int trawlerGoes(int t, int wa, int f, int n) {
        int worst = 0;
        for (int to = 0; to < w * h; to++) {
            if (isStep(t, to)) {
                worst = Math.max(worst, to == wa ? 0 : warderGoes(to, wa, f, n - 1));
            }
        }
        return worst;
    }
}
