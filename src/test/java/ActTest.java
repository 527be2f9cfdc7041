import java.util.Random;

/** Promises 22 to 24: act, kept, broken. */
public final class ActTest {
    private static final Check CHECK = new Check("ActTest");

    public static void main(String[] args) {
        acts();
        kept();
        broken();
        keptAsItMay();
        CHECK.end();
    }

    private static void acts() {
        NetsCut x = new NetsCut();
        CHECK.due("no ship", x.act(0, 0, 0, 0, 0), -1);
        x.ship(0, 0, 1, 0);
        x.clock(4);
        CHECK.due("ship", x.act(-1, 0, 0, 0, 0), -1);
        CHECK.due("what", x.act(0, 5, 0, 0, 0), -1);
        CHECK.due("what", x.act(0, -1, 0, 0, 0), -1);
        CHECK.due("x", x.act(0, 0, 24, 0, 0), -1);
        CHECK.due("y", x.act(0, 0, 0, -1, 0), -1);
        CHECK.due("behind now", x.act(0, 0, 0, 0, 5), -1);
        CHECK.due("minute", x.act(0, 0, 0, 0, -1), -1);
        for (int i = 0; i < 150; i++) {
            CHECK.due("act", x.act(0, i % 5, i % 24, i % 23, i % 5), i);
        }
        CHECK.due("act 151", x.act(0, 0, 0, 0, 0), -1);
        CHECK.due("acts", x.count(6), 150);
    }

    private static void kept() {
        NetsCut x = new NetsCut();
        x.ship(0, 0, 1, 60);
        x.point(1, 10, 10);
        Check.enact(x, 1, 0, "not fish if inside = 1;mesh 60;mesh 0");
        Check.enact(x, 0, 0, "mesh 61;may cut");
        x.clock(3);
        x.act(0, 0, 10, 10, 1);
        x.act(0, 0, 20, 20, 1);
        x.act(0, 2, 20, 20, 1);
        CHECK.due("inside", x.kept(0, 1), 0);
        CHECK.due("outside, with the mesh", x.kept(1, 1), 1);
        CHECK.due("too small a mesh", x.kept(1, 0), 0);
        CHECK.due("no mesh told", x.kept(1, 2), 1);
        CHECK.due("the mesh is for fish alone", x.kept(2, 0), 1);
        CHECK.due("may not cut", x.kept(2, 1), 0);
        NetsCut y = new NetsCut();
        y.ship(0, 0, 1, 0);
        Check.enact(y, 0, 0, "may cut if x = 3 and y = 9;may lean if minute = 2");
        y.clock(2);
        y.act(0, 2, 3, 9, 0);
        y.act(0, 2, 9, 3, 0);
        y.act(0, 3, 0, 0, 2);
        y.act(0, 3, 0, 0, 1);
        CHECK.due("the cell", y.kept(0, 0), 1);
        CHECK.due("another cell", y.kept(1, 0), 0);
        CHECK.due("the minute", y.kept(2, 0), 1);
        CHECK.due("another minute", y.kept(3, 0), 0);
        CHECK.due("act", x.kept(3, 0), -1);
        CHECK.due("act", x.kept(-1, 0), -1);
        CHECK.due("author", x.kept(0, 3), -1);
        CHECK.due("author", x.kept(0, -1), -1);
        Check.enact(x, 1, 4, "not fish");
        CHECK.due("a later statute", x.kept(1, 1), 1);
        Check.enact(x, 2, 3, "mesh 0 - 5");
        x.act(0, 0, 20, 20, 3);
        CHECK.due("a mesh below 0", x.kept(3, 2), 1);
        Check.enact(x, 2, 3, "mesh 99999 * 99999");
        CHECK.due("a mesh beyond 32 bits", x.kept(3, 2), 0);
    }

    private static void broken() {
        NetsCut one = new NetsCut();
        one.ship(0, 0, 1, 0);
        Check.enact(one, 0, 0, "not fish");
        CHECK.due("no acts", one.broken(0, 0), 0);
        one.act(0, 0, 0, 0, 0);
        CHECK.due("the first act", one.broken(0, 0), 1);
        NetsCut x = new NetsCut();
        x.ship(0, 0, 1, 60);
        x.ship(1, 0, 1, 50);
        Check.enact(x, 2, 0, "mesh 55;may stop if side = 0");
        for (int ship = 0; ship < 2; ship++) {
            for (int what = 0; what < 5; what++) {
                x.act(ship, what, 0, 0, 0);
            }
        }
        CHECK.due("side 1 by side 1", x.broken(1, 1), 3);
        CHECK.due("side 0 by the court", x.broken(0, 2), 2);
        CHECK.due("side 1 by the court", x.broken(1, 2), 4);
        CHECK.due("side 1 by side 0", x.broken(1, 0), 3);
        CHECK.due("side", x.broken(2, 0), -1);
        CHECK.due("side", x.broken(-1, 0), -1);
        CHECK.due("author", x.broken(0, 3), -1);
        CHECK.due("author", x.broken(0, -1), -1);
    }

    /** An act is kept if may() and mesh() say so for the same ship, cell and minute; broken() counts the others. */
    private static void keptAsItMay() {
        String[] words = {"minute", "x", "y", "depth", "side", "kind", "net", "speed", "inside"};
        Random random = new Random(31);
        for (int run = 0; run < 100; run++) {
            NetsCut x = new NetsCut();
            int[] net = new int[5];
            for (int s = 0; s < net.length; s++) {
                net[s] = random.nextInt(200);
                x.ship(random.nextInt(2), random.nextInt(3), 1 + random.nextInt(3), net[s]);
                x.point(random.nextInt(2), random.nextInt(24), random.nextInt(24));
            }
            for (int author = 0; author < 3; author++) {
                String word = words[random.nextInt(words.length)];
                Check.enact(x, author, random.nextInt(3), "mesh " + word + "*" + (1 + random.nextInt(9)) + "+" + random.nextInt(90)
                        + " unless " + words[random.nextInt(words.length)] + "=" + random.nextInt(9));
                Check.enact(x, author, random.nextInt(3), "not fish if " + words[random.nextInt(words.length)] + "<" + random.nextInt(5)
                        + ";may cut if " + words[random.nextInt(words.length)] + ">" + random.nextInt(9));
            }
            x.clock(9);
            keptAsItMay(x, net, random);
        }
    }

    private static void keptAsItMay(NetsCut x, int[] net, Random random) {
        int[][] broken = new int[net.length][3];
        for (int a = 0; a < 30; a++) {
            int ship = random.nextInt(net.length);
            int what = random.nextInt(3) == 0 ? random.nextInt(5) : 0;
            int cx = random.nextInt(24);
            int cy = random.nextInt(24);
            int minute = random.nextInt(10);
            CHECK.due("act", x.act(ship, what, cx, cy, minute), a);
            for (int author = 0; author < 3; author++) {
                boolean may = x.may(author, what, ship, cx, cy, minute) == 1;
                boolean kept = may && (what != 0 || net[ship] >= x.mesh(author, ship, cx, cy, minute));
                CHECK.due("kept", x.kept(a, author), kept ? 1 : 0);
                broken[ship][author] += kept ? 0 : 1;
            }
        }
        for (int author = 0; author < 3; author++) {
            int all = 0;
            for (int[] of : broken) {
                all += of[author];
            }
            CHECK.due("broken by both sides", x.broken(0, author) + x.broken(1, author), all);
        }
    }
}
