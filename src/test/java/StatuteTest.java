/** Promises 15 to 21: feed, end, statute with its faults, inForce, may, mesh, by. */
public final class StatuteTest {
    private static final Check CHECK = new Check("StatuteTest");

    public static void main(String[] args) {
        tape();
        statutes();
        badPlaces();
        numbersAndStrikes();
        tooDeep();
        tooMany();
        leastOfOnePlace();
        inForce();
        mayWithout();
        order();
        words();
        conditions();
        sums();
        wrongInputs();
        CHECK.end();
    }

    private static void tape() {
        NetsCut x = new NetsCut();
        CHECK.due("end(0)", x.end(0), 0);
        CHECK.due("end(1)", x.end(1), -1);
        for (int i = 1; i <= 20; i++) {
            CHECK.due("feed", x.feed(-1, 0, 1, 2, 3), 20 * i);
        }
        CHECK.due("feed above 400", x.feed(0, 0, 0, 0, 0), -1);
        CHECK.due("bytes", x.count(11), 400);
        CHECK.due("end(401)", x.end(401), -1);
        CHECK.due("end(-1)", x.end(-1), -1);
        CHECK.due("end(400)", x.end(400), 400);
        CHECK.due("end(381)", x.end(381), 381);
        CHECK.due("feed above 400", x.feed(0, 0, 0, 0, 0), -1);
        CHECK.due("bytes", x.count(11), 381);
        CHECK.due("end(380)", x.end(380), 380);
        CHECK.due("feed to 400", x.feed(0, 0, 0, 0, 0), 400);
        x.end(0);
        // 'reac' 'h 3 ' '    ', the highest byte first
        x.feed(0x72656163, 0x68203320, 0x20202020, 0x20202020, 0x20202020);
        CHECK.due("statute", x.statute(0, 0), 0);
    }

    private static void statutes() {
        NetsCut x = new NetsCut();
        x.clock(5);
        Check.type(x, "reach 3");
        CHECK.due("author", x.statute(3, 5), -1);
        CHECK.due("author", x.statute(-1, 5), -1);
        CHECK.due("ahead of now", x.statute(0, 4), -1);
        CHECK.due("minute", x.statute(0, 9000), -1);
        CHECK.due("the tape stays", x.count(11), 7);
        CHECK.due("statute", x.statute(0, 8999), 0);
        CHECK.due("the tape is empty", x.count(11), 0);
        CHECK.due("fault", Check.enact(x, 0, 5, "reach"), Check.fault(5, 0));
        CHECK.due("the tape is empty", x.count(11), 0);
        CHECK.due("statutes", x.count(5), 1);
        for (int i = 1; i < 12; i++) {
            CHECK.due("statute", Check.enact(x, i % 3, 5, "may cut"), i);
        }
        Check.type(x, "reach 3");
        CHECK.due("statute 13", x.statute(0, 5), -1);
        CHECK.due("the tape stays", x.count(11), 7);
        CHECK.due("statutes", x.count(5), 12);
    }

    private static void faultOf(String text, int place, int kind) {
        NetsCut x = new NetsCut();
        Check.enact(x, 0, 0, "may fish");
        Check.enact(x, 1, 0, "may fish");
        CHECK.due("'" + text + "'", Check.enact(x, 0, 0, text), Check.fault(place, kind));
        CHECK.due("statutes behind '" + text + "'", x.count(5), 2);
    }

    private static void fine(String text) {
        NetsCut x = new NetsCut();
        Check.enact(x, 0, 0, "may fish");
        Check.enact(x, 1, 0, "may fish");
        CHECK.due("'" + text + "'", Check.enact(x, 0, 0, text), 2);
    }

    private static void badPlaces() {
        faultOf("", 0, 0);
        faultOf("   ", 3, 0);
        faultOf("reach", 5, 0);
        faultOf("reach  ", 7, 0);
        faultOf("reaches 3", 0, 0);
        faultOf("Reach 3", 0, 0);
        faultOf("3", 0, 0);
        faultOf("may", 3, 0);
        faultOf("may sail", 4, 0);
        faultOf("may fis", 4, 0);
        faultOf("may fish fish", 9, 0);
        faultOf("mayfish", 0, 0);
        faultOf("may fishif x=1", 4, 0);
        faultOf("not fish when", 9, 0);
        faultOf("mesh 1;", 7, 0);
        faultOf("mesh 1; ", 8, 0);
        faultOf(";mesh 1", 0, 0);
        faultOf("mesh 1;;", 7, 0);
        faultOf("reach x = 1", 8, 0);
        faultOf("reach 3 [", 8, 0);
        faultOf("reach 3 4", 8, 0);
        faultOf("reach (3", 8, 0);
        faultOf("reach (3]", 8, 0);
        faultOf("reach 3)", 7, 0);
        faultOf("reach -3", 6, 0);
        faultOf("reach 3 + * 3", 10, 0);
        faultOf("reach fish", 6, 0);
        faultOf("reach 3 if", 10, 0);
        faultOf("reach 3 if 1", 12, 0);
        faultOf("reach 3 if 1;", 12, 0);
        faultOf("reach 3 if 1 and 2 = 2", 13, 0);
        faultOf("reach 3 if 1 < = 2", 15, 0);
        faultOf("reach 3 if 1 == 2", 14, 0);
        faultOf("reach 3 if 1 => 2", 14, 0);
        faultOf("reach 3 if 1 <> 2", 14, 0);
        faultOf("reach 3 if 1 = 2 = 3", 17, 0);
        faultOf("reach 3 if [1 = 2", 17, 0);
        faultOf("reach 3 if [1 = 2)", 17, 0);
        faultOf("reach 3 if (1 = 2)", 14, 0);
        faultOf("reach 3 if 1 = 2]", 16, 0);
        faultOf("reach 3 if 1 = 2 or", 19, 0);
        faultOf("reach 3 if 1 = 2 unless 1 = 1", 17, 0);
        faultOf("reach 3 if no", 13, 0);
        faultOf("reach 3 if nono 1 = 1", 11, 0);
        faultOf("reach no", 6, 0);
        faultOf("reach 3 if 1 = no 1", 15, 0);
        faultOf("strike", 6, 0);
        faultOf("strike x", 7, 0);
        faultOf("strike 0 if 1 = 1", 9, 0);
        faultOf("strike 0 0", 9, 0);
        faultOf("reach\0003", 5, 0);
        faultOf("reach\t3", 5, 0);
        faultOf("reach \u00e93", 6, 0);
        faultOf("may cut if 1=1]", 14, 0);
        fine("reach3if minute>5");
        fine("  reach  3+x*(y-2)  unless no[ 1 <= x and y<2 or 3>=4 ]  ");
        fine("may fish;not fish;may stop;not cut;may lean if 1=1;not land unless 1=1");
        fine("strike 0");
        fine("strike00;strike 00000");
        fine("mesh 00099 + 99999");
        fine("may cut if 1<2and 2<3or no no 1=1");
    }

    private static void numbersAndStrikes() {
        faultOf("reach 123456", 6, 1);
        faultOf("reach 000000", 6, 1);
        faultOf("reach 1 + 1234567890123456789012", 10, 1);
        faultOf("reach 3 123456", 8, 0);
        faultOf("may 123456", 4, 0);
        faultOf("strike 2", 7, 1);
        faultOf("strike 1", 7, 1);
        faultOf("strike 99999", 7, 1);
        faultOf("strike 000000", 7, 1);
        faultOf("strike 0;strike 9", 16, 1);
    }

    private static String many(int n, String text) {
        return text.repeat(n);
    }

    private static void tooDeep() {
        fine("reach " + many(10, "(") + "1" + many(10, ")"));
        faultOf("reach " + many(11, "(") + "1" + many(11, ")"), 16, 2);
        fine("may cut if " + many(10, "[") + "1=1" + many(10, "]"));
        faultOf("may cut if " + many(11, "[") + "1=1" + many(11, "]"), 21, 2);
        fine("may cut if " + many(10, "no ") + "1=1");
        faultOf("may cut if " + many(11, "no ") + "1=1", 41, 2);
        faultOf("may cut if " + many(10, "no ") + "(1)=1", 41, 2);
        faultOf("may cut if " + many(10, "no ") + "[1=1]", 41, 2);
        faultOf("may cut if " + many(5, "no[") + "1=(1)" + many(5, "]"), 28, 2);
        fine("may cut if " + many(4, "no[") + "no (1)=(1)" + many(4, "]"));
        faultOf("may cut if " + many(4, "no[") + "no (1)=((1))" + many(4, "]"), 31, 2);
        fine("may cut if no 1=1 and " + many(9, "no ") + "1=1 or " + many(10, "[") + "1=1" + many(10, "]"));
        fine("may cut if " + many(10, "no ") + "1=1 and " + many(10, "no ") + "1=1");
    }

    private static void tooMany() {
        fine("reach 1" + many(79, "+1"));
        faultOf("reach 1" + many(80, "+1"), 166, 3);
        // each (1) counts two
        fine("reach (1)" + many(39, "+(1)"));
        faultOf("reach (1)" + many(40, "+(1)"), 166, 3);
        faultOf("reach 1" + many(39, "+(1)") + "+(1)", 7 + 4 * 39 + 2, 3);
        // each 1=1 counts three: 78 with 26 of them
        fine("may cut if 1=1" + many(25, "or 1=1"));
        faultOf("may cut if 1=1" + many(26, "or 1=1"), 14 + 25 * 6 + 5, 3);
        faultOf("may cut if 1=1" + many(25, "or 1=1") + "or 1+1=1", 14 + 25 * 6 + 6, 3);
        faultOf("may cut if 1=1" + many(25, "or 1=1") + "or 1*x*1=1", 14 + 25 * 6 + 7, 3);
        // over all clauses
        fine("reach 1" + many(39, "+1") + ";mesh 1" + many(39, "+1"));
        faultOf("reach 1" + many(39, "+1") + ";mesh 1" + many(40, "+1"), 85 + 6 + 80, 3);
        // what is struck is no value
        fine("strike 0;reach 1" + many(79, "+1"));
        // twelve clauses
        fine("may cut" + many(11, ";may cut"));
        faultOf("may cut" + many(12, ";may cut"), 96, 4);
        faultOf("may cut" + many(11, ";may cut") + ";  reach", 98, 4);
    }

    private static void leastOfOnePlace() {
        faultOf("may cut" + many(11, ";may cut") + ";cut", 96, 0);
        faultOf("may cut" + many(11, ";may cut") + ";", 96, 0);
        faultOf("reach 1" + many(79, "+1") + "+123456", 166, 1);
        faultOf("reach 1" + many(79, "+1") + "+cut", 166, 0);
        faultOf("reach " + many(10, "(") + "1" + many(69, "+1") + "+(1", 6 + 10 + 1 + 138 + 1, 2);
        faultOf("reach 1" + many(79, "+1") + "+(1)", 166, 3);
    }

    private static void inForce() {
        NetsCut x = new NetsCut();
        Check.enact(x, 0, 5, "may cut");
        Check.enact(x, 0, 10, "strike 0;may stop");
        Check.enact(x, 0, 20, "strike 1");
        Check.enact(x, 0, 7, "strike 0");
        CHECK.due("ahead of it", x.inForce(0, 4), 0);
        CHECK.due("from then on", x.inForce(0, 5), 1);
        CHECK.due("not struck yet", x.inForce(0, 6), 1);
        CHECK.due("struck by the later told", x.inForce(0, 7), 0);
        CHECK.due("struck", x.inForce(0, 10), 0);
        CHECK.due("what is struck strikes", x.inForce(0, 20), 0);
        CHECK.due("striker", x.inForce(1, 10), 1);
        CHECK.due("striker", x.inForce(1, 19), 1);
        CHECK.due("striker struck", x.inForce(1, 20), 0);
        CHECK.due("striker of strikers", x.inForce(2, 8999), 1);
        CHECK.due("statute", x.inForce(4, 0), -1);
        CHECK.due("statute", x.inForce(-1, 0), -1);
        CHECK.due("minute", x.inForce(0, 9000), -1);
        CHECK.due("minute", x.inForce(0, -1), -1);

        NetsCut y = new NetsCut();
        y.ship(0, 0, 1, 0);
        Check.enact(y, 0, 5, "may cut");
        Check.enact(y, 0, 5, "strike 0");
        Check.enact(y, 0, 5, "strike 1");
        CHECK.due("struck by a struck one", y.inForce(0, 5), 0);
        CHECK.due("may by a struck one", y.may(0, 2, 0, 0, 0, 5), 0);
        CHECK.due("by", y.by(0, 2, 0, 0, 0, 5), -1);
    }

    private static void mayWithout() {
        NetsCut x = new NetsCut();
        x.ship(1, 0, 1, 0);
        int[] want = {1, 0, 0, 0, 1};
        for (int author = 0; author < 3; author++) {
            for (int what = 0; what < 5; what++) {
                CHECK.due("may without", x.may(author, what, 0, 0, 0, 0), want[what]);
                CHECK.due("by without", x.by(author, what, 0, 0, 0, 0), -1);
            }
            CHECK.due("mesh without", x.mesh(author, 0, 0, 0, 0), 0);
        }
    }

    private static void order() {
        NetsCut x = new NetsCut();
        x.ship(1, 0, 1, 0);
        Check.enact(x, 0, 9, "may cut;not cut");
        Check.enact(x, 0, 5, "mesh 4;not cut;may stop");
        Check.enact(x, 0, 9, "not cut if x = 1;may lean;mesh 7 if y = 1");
        Check.enact(x, 1, 9, "not cut;not land");
        CHECK.due("the earlier one", x.by(0, 2, 0, 0, 0, 8), 16 + 1);
        CHECK.due("the earlier one", x.may(0, 2, 0, 0, 0, 8), 0);
        CHECK.due("the first clause", x.by(0, 2, 0, 0, 0, 9), 0);
        CHECK.due("the first clause", x.may(0, 2, 0, 0, 0, 9), 1);
        CHECK.due("the one told last", x.by(0, 2, 0, 1, 0, 9), 32);
        CHECK.due("the one told last", x.may(0, 2, 0, 1, 0, 9), 0);
        CHECK.due("stop", x.by(0, 1, 0, 0, 0, 9), 16 + 2);
        CHECK.due("lean", x.by(0, 3, 0, 0, 0, 9), 32 + 1);
        CHECK.due("fish", x.by(0, 0, 0, 0, 0, 9), -1);
        CHECK.due("mesh", x.mesh(0, 0, 0, 0, 9), 4);
        CHECK.due("mesh", x.mesh(0, 0, 0, 1, 9), 7);
        CHECK.due("author 1", x.by(1, 4, 0, 0, 0, 9), 48 + 1);
        CHECK.due("author 1", x.may(1, 4, 0, 0, 0, 9), 0);
        CHECK.due("ahead of all", x.by(1, 4, 0, 0, 0, 8), -1);
    }

    private static void words() {
        NetsCut x = new NetsCut();
        x.ship(1, 2, 3, 150);
        x.depth(6, 7, 321);
        x.point(0, 6, 7);
        x.point(1, 20, 20);
        String[] names = {"minute", "x", "y", "depth", "side", "kind", "net", "speed", "inside"};
        long[] values = {1234, 6, 7, 321, 1, 2, 150, 3, 0};
        for (int i = 0; i < names.length; i++) {
            Check.enact(x, 2, 0, "mesh " + names[i]);
            CHECK.due("mesh " + names[i], x.mesh(2, 0, 6, 7, 1234), values[i]);
        }
        Check.enact(x, 2, 0, "may cut if inside = 1;mesh 5 unless inside = 0;mesh 6");
        CHECK.due("inside by the court", x.may(2, 2, 0, 6, 7, 0), 1);
        CHECK.due("inside by the court", x.may(2, 2, 0, 20, 20, 0), 0);
        CHECK.due("inside for mesh", x.mesh(2, 0, 6, 7, 0), 6);
        Check.enact(x, 1, 0, "may cut if inside = 1;reach 2");
        CHECK.due("inside by side 1", x.may(1, 2, 0, 6, 7, 0), 0);
        CHECK.due("inside by side 1", x.may(1, 2, 0, 20, 22, 0), 1);
        CHECK.due("inside by side 1", x.may(1, 2, 0, 20, 23, 0), 0);
        x.chart(3, 3);
        CHECK.due("by chart 0", x.may(1, 2, 0, 20, 18, 0), 1);
        x.depth(6, 7, 1);
        CHECK.due("all twelve", x.count(5), 11);
        Check.enact(x, 0, 0, "mesh depth");
        CHECK.due("depth as told last", x.mesh(0, 0, 6, 7, 0), 1);
    }

    private static int holds(String test) {
        NetsCut x = new NetsCut();
        x.ship(0, 0, 1, 0);
        CHECK.due("if " + test, Check.enact(x, 0, 0, "may cut if " + test), 0);
        int answer = x.may(0, 2, 0, 0, 0, 0);
        CHECK.due("unless " + test, Check.enact(x, 1, 0, "may cut unless " + test), 1);
        CHECK.due("the other way round: " + test, x.may(1, 2, 0, 0, 0, 0), 1 - answer);
        return answer;
    }

    private static void conditions() {
        CHECK.due("<", holds("1 < 2"), 1);
        CHECK.due("<", holds("2 < 2"), 0);
        CHECK.due("<=", holds("2 <= 2"), 1);
        CHECK.due("<=", holds("3 <= 2"), 0);
        CHECK.due("=", holds("2 = 2"), 1);
        CHECK.due("=", holds("1 = 2"), 0);
        CHECK.due(">=", holds("2 >= 2"), 1);
        CHECK.due(">=", holds("1 >= 2"), 0);
        CHECK.due(">", holds("2 > 1"), 1);
        CHECK.due(">", holds("2 > 2"), 0);
        CHECK.due("below 0", holds("0 - 1 < 0"), 1);
        CHECK.due("and ahead of or", holds("1=1 or 1=1 and 1=2"), 1);
        CHECK.due("and ahead of or", holds("1=2 and 1=1 or 1=1"), 1);
        CHECK.due("brackets", holds("[1=1 or 1=1] and 1=2"), 0);
        CHECK.due("no binds one fact", holds("no 1=1 or 1=1"), 1);
        CHECK.due("no binds one fact", holds("no 1=2 and 1=2"), 0);
        CHECK.due("no of brackets", holds("no [1=1 or 1=1]"), 0);
        CHECK.due("no no", holds("no no 1=1"), 1);
        CHECK.due("no of a comparison", holds("no 5 = 6"), 1);
    }

    private static void meshIs(String sum, long want) {
        NetsCut x = new NetsCut();
        x.ship(0, 0, 1, 0);
        CHECK.due(sum, Check.enact(x, 0, 0, "mesh " + sum), 0);
        CHECK.due("mesh " + sum, x.mesh(0, 0, 0, 0, 0), want);
    }

    private static void sums() {
        meshIs("2 + 3 * 4", 14);
        meshIs("(2 + 3) * 4", 20);
        meshIs("10 - 3 - 2", 5);
        meshIs("10 - (3 - 2)", 9);
        meshIs("2 * 3 - 4 * 5", -14);
        meshIs("99999 * 99999 * 99999", 99999L * 99999L * 99999L);
        meshIs("99999 * 99999 * 99999 * 99999", 99999L * 99999L * 99999L * 99999L);
        meshIs("007", 7);
    }

    private static void wrongInputs() {
        NetsCut x = new NetsCut();
        x.ship(0, 0, 1, 0);
        Check.enact(x, 0, 0, "reach 1;may cut;mesh 5");
        Check.enact(x, 0, 0, "strike 0;may cut;mesh 5");
        int[][] wrong = {
            {3, 2, 0, 0, 0, 0}, {-1, 2, 0, 0, 0, 0}, {0, 5, 0, 0, 0, 0}, {0, 6, 0, 0, 0, 0}, {0, 7, 0, 0, 0, 0}, {0, -1, 0, 0, 0, 0},
            {0, 2, 1, 0, 0, 0}, {0, 2, -1, 0, 0, 0}, {0, 2, 0, 24, 0, 0}, {0, 2, 0, -1, 0, 0},
            {0, 2, 0, 0, 24, 0}, {0, 2, 0, 0, -1, 0}, {0, 2, 0, 0, 0, 9000}, {0, 2, 0, 0, 0, -1}};
        for (int[] w : wrong) {
            CHECK.due("may", x.may(w[0], w[1], w[2], w[3], w[4], w[5]), -1);
            CHECK.due("by", x.by(w[0], w[1], w[2], w[3], w[4], w[5]), -1);
            if (w[1] == 2) {
                CHECK.due("mesh", x.mesh(w[0], w[2], w[3], w[4], w[5]), 0);
            }
        }
        CHECK.due("may", x.may(0, 2, 0, 23, 23, 8999), 1);
        CHECK.due("mesh", x.mesh(0, 0, 23, 23, 8999), 5);
    }
}
