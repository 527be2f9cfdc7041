import java.util.List;
import java.util.Random;
import java.util.Set;

/** The sentences of the document's part III, one by one, at their edges. */
public final class LawEdgeTest {
    private static final Check CHECK = new Check("LawEdgeTest");
    private static final String HEADS = "reach mesh may not strike";
    private static final String WHATS = "fish stop cut lean land";
    private static final String WORDS = "minute x y depth side kind net speed inside";
    private static final List<String> ALL_WORDS = List.of((HEADS + " " + WHATS + " " + WORDS + " if unless or and no "
            + "reac reaches strikes mes fis fishes i ifs o ors an ands n nos minut minutes xx xy yy insides in z").split(" "));
    private static final String DIGITS = "0123456789";

    public static void main(String[] args) {
        tapesHaveTheHighestByteFirst();
        tapesAreEmptyThen();
        textsOf400Bytes();
        bytesThatCanStand();
        wordsThatCanStand();
        numbersOfFiveDigits();
        struckOnesWereTold();
        tenDeep();
        asDeepBehindASign();
        eightyValues();
        twelveClauses();
        firstAlongTheText();
        faultsLeaveNothing();
        faultsLeaveNothingForTheNext();
        manyFaultsTakeNoRoom();
        fromAMinuteOn();
        struckFromAMinuteOn();
        latestGoesAhead();
        clausesInOrder();
        wordsAtTheirEnds();
        insideOfWhom();
        sumsGoRound();
        keptInItsMinute();
        keptWithItsMesh();
        CHECK.end();
    }

    private static String many(int n, String text) {
        return text.repeat(n);
    }

    /** What a text gets as statute 2 of author 1, who has told statute 1; statute 0 is author 0's. */
    private static int told(String text) {
        NetsCut x = new NetsCut();
        Check.enact(x, 0, 0, "may cut");
        Check.enact(x, 1, 0, "may cut");
        int answer = Check.enact(x, 1, 0, text);
        CHECK.due("statutes behind '" + text + "'", x.count(5), answer == 2 ? 3 : 2);
        CHECK.due("the tape behind '" + text + "'", x.count(11), 0);
        return answer;
    }

    private static void fine(String text) {
        CHECK.due("'" + text + "'", told(text), 2);
    }

    private static void fault(String text, int place, int kind) {
        CHECK.due("'" + text + "'", told(text), Check.fault(place, kind));
    }

    // ---- the tape

    private static void tapesHaveTheHighestByteFirst() {
        NetsCut x = new NetsCut();
        CHECK.due("'mesh 12345+x*y'", x.feed(0x6d657368, 0x20313233, 0x34352b78, 0x2a792020, 0x20202020), 20);
        CHECK.due("statute", x.statute(0, 0), 0);
        x.ship(0, 0, 1, 0);
        CHECK.due("12345 + x * y", x.mesh(0, 0, 2, 3, 0), 12351);
        // a byte above 127 is a byte like any other, and no blank
        x.feed(0x6d657368, 0x203180a0, -1, -1, -1);
        x.end(8);
        CHECK.due("the byte 128", x.statute(0, 0), Check.fault(6, 0));
        x.feed(0x6d657368, 0x2031ffff, -1, -1, -1);
        CHECK.due("the byte 255", x.statute(0, 0), Check.fault(6, 0));
    }

    private static void tapesAreEmptyThen() {
        NetsCut x = new NetsCut();
        Check.type(x, "may cut");
        CHECK.due("a wrong author", x.statute(3, 0), -1);
        CHECK.due("the tape stays", x.count(11), 7);
        CHECK.due("a statute", x.statute(2, 0), 0);
        CHECK.due("the tape is empty", x.count(11), 0);
        CHECK.due("nothing more is on it", x.end(1), -1);
        CHECK.due("an empty text", x.statute(2, 0), Check.fault(0, 0));
        Check.type(x, "may cut");
        CHECK.due("cut off", x.end(6), 6);
        CHECK.due("a fault", x.statute(2, 0), Check.fault(4, 0));
        CHECK.due("the tape is empty", x.count(11), 0);
        // what is cut off is gone, even if the tape grows again
        Check.type(x, "may cut;may land");
        x.end(7);
        x.feed(0x3b6e6f74, 0x20637574, 0x20202020, 0x20202020, 0x20202020);
        CHECK.due("bytes", x.count(11), 27);
        CHECK.due("may cut;not cut", x.statute(0, 0), 1);
    }

    private static void textsOf400Bytes() {
        fine("reach 7" + many(393, " "));
        fine(many(393, " ") + "reach 7");
        fault("reach 7" + many(392, " ") + ";", 400, 0);
        fault("reach 7" + many(392, " ") + "~", 399, 0);
        fault("reach" + many(395, " "), 400, 0);
        fault(many(400, " "), 400, 0);
        fault(many(400, "a"), 0, 0);
        fault("reach " + many(394, "0"), 6, 1);
        fine("may cut;reach" + many(387 - 79 * 4 - 1, " ") + "1" + many(79, " + 1"));
    }

    // ---- what can stand where

    /** A byte behind a text is the last that is missing, or one with which the text goes on, or can't stand. */
    private static void byteBehind(String text, String last, String goingOn) {
        for (int b = 0; b < 256; b++) {
            String longer = text + (char) b;
            if (last.indexOf(b) >= 0) {
                fine(longer);
            } else if (goingOn.indexOf(b) >= 0) {
                fault(longer, longer.length(), 0);
            } else {
                fault(longer, text.length(), 0);
            }
        }
    }

    private static void bytesThatCanStand() {
        byteBehind("", "", " ");
        byteBehind("may ", "", " ");
        byteBehind("may cut ", " ", ";");
        byteBehind("may cut; ", "", " ");
        byteBehind("mesh ", DIGITS + "xy", " (");
        byteBehind("mesh 1 ", " ", ";+-*");
        byteBehind("mesh 1", DIGITS + " ", ";+-*");
        byteBehind("mesh 1 + ", DIGITS + "xy", " (");
        byteBehind("mesh 1 * ", DIGITS + "xy", " (");
        byteBehind("mesh (1 ", ")", " +-*");
        byteBehind("mesh (", "", DIGITS + "xy (");
        byteBehind("mesh (1) ", " ", ";+-*");
        byteBehind("may cut if ", "", DIGITS + "xy ([");
        byteBehind("may cut if 1 ", "", " +-*<=>");
        byteBehind("may cut if 1 < ", DIGITS + "xy", " (");
        byteBehind("may cut if 1 <", DIGITS + "xy", " (=");
        byteBehind("may cut if 1 >", DIGITS + "xy", " (=");
        byteBehind("may cut if 1 =", DIGITS + "xy", " (");
        byteBehind("may cut if 1 <=", DIGITS + "xy", " (");
        byteBehind("may cut if 1 >=", DIGITS + "xy", " (");
        byteBehind("may cut if 1 = 1 ", " ", ";+-*");
        byteBehind("may cut if [1 = 1 ", "]", " +-*");
        byteBehind("may cut if [1 = 1] ", " ", ";");
        byteBehind("may cut if [", "", DIGITS + "xy ([");
        byteBehind("may cut if no ", "", DIGITS + "xy ([");
        byteBehind("may cut if no [1 = 1] ", " ", ";");
        byteBehind("may cut if (1 ", "", " +-*)");
        byteBehind("strike 1 ", " ", ";");
        for (int b = 0; b < 256; b++) {
            String text = "strike " + (char) b;
            if (b == ' ') {
                fault(text, 8, 0);
            } else if (b != '1') {
                fault(text, 7, DIGITS.indexOf(b) >= 0 ? 1 : 0);
            }
        }
    }

    /** A word behind a text is the last that is missing, or one with which the text goes on, or can't stand. */
    private static void wordBehind(String text, String last, String goingOn) {
        for (String word : ALL_WORDS) {
            String longer = text + word;
            if (Set.of(last.split(" ")).contains(word)) {
                fine(longer);
            } else if (Set.of(goingOn.split(" ")).contains(word)) {
                fault(longer, longer.length(), 0);
            } else {
                fault(longer, text.length(), 0);
            }
        }
    }

    private static void wordsThatCanStand() {
        wordBehind("", "", HEADS);
        wordBehind("may cut;", "", HEADS);
        wordBehind("may ", WHATS, "");
        wordBehind("not ", WHATS, "");
        wordBehind("may cut ", "", "if unless");
        wordBehind("not cut ", "", "if unless");
        wordBehind("mesh ", WORDS, "");
        wordBehind("reach ", WORDS, "");
        wordBehind("reach x * ", WORDS, "");
        wordBehind("reach x ", "", "if unless");
        wordBehind("mesh 1", "", "if unless");
        wordBehind("mesh (1", "", "");
        wordBehind("mesh (", "", WORDS);
        wordBehind("mesh (1)", "", "if unless");
        wordBehind("may cut if ", "", WORDS + " no");
        wordBehind("may cut unless ", "", WORDS + " no");
        wordBehind("may cut if x ", "", "");
        wordBehind("may cut if x<", WORDS, "");
        wordBehind("may cut if x<1", "", "and or");
        wordBehind("may cut if x<1 and ", "", WORDS + " no");
        wordBehind("may cut if x<1 or ", "", WORDS + " no");
        wordBehind("may cut if no ", "", WORDS + " no");
        wordBehind("may cut if [", "", WORDS + " no");
        wordBehind("may cut if [x<1", "", "and or");
        wordBehind("may cut if [x<1]", "", "and or");
        wordBehind("may cut if (", "", WORDS);
        wordBehind("strike ", "", "");
        wordBehind("strike 1", "", "");
    }

    // ---- faults 1 to 4

    private static void numbersOfFiveDigits() {
        for (int digits = 1; digits <= 20; digits++) {
            for (String digit : new String[] {"0", "9"}) {
                String number = many(digits, digit);
                if (digits <= 5) {
                    fine("mesh " + number);
                    fine("may cut if 1+" + number + "=" + number);
                } else {
                    fault("mesh " + number, 5, 1);
                    fault("may cut if 1+" + number + "=" + number, 13, 1);
                    fault("may cut if 1=" + number, 13, 1);
                }
            }
        }
        fault("mesh 1 100000", 7, 0);
        fault("100000", 0, 0);
        fault("strike 100000", 7, 1);
        fault("strike 000001", 7, 1);
        fine("strike 00001");
    }

    private static void struckOnesWereTold() {
        fine("strike 1");
        fine("strike 1;strike 1");
        fault("strike 0", 7, 1);
        fault("strike 2", 7, 1);
        fault("strike 12", 7, 1);
        fault("strike 99999", 7, 1);
        fault("strike 1;strike  2", 17, 1);
        fault("strike -1", 7, 0);
        fault("strike (1)", 7, 0);
        fault("strike 1+0", 8, 0);
        fault("strike 1 if 1=1", 9, 0);
        NetsCut x = new NetsCut();
        CHECK.due("none was told", Check.enact(x, 2, 0, "strike 0"), Check.fault(7, 1));
        CHECK.due("what had a fault was not told", Check.enact(x, 2, 0, "strike 0"), Check.fault(7, 1));
        CHECK.due("one is told", Check.enact(x, 2, 0, "may cut"), 0);
        CHECK.due("a side can't strike the court's", Check.enact(x, 0, 0, "strike 0"), Check.fault(7, 1));
        CHECK.due("the court can", Check.enact(x, 2, 0, "strike 0"), 1);
        CHECK.due("what is struck already, too", Check.enact(x, 2, 0, "strike 0;strike 1"), 2);
        CHECK.due("what comes into force later, too", Check.enact(x, 2, 8999, "may lean"), 3);
        CHECK.due("by one from earlier on", Check.enact(x, 2, 0, "strike 3"), 4);
        CHECK.due("it never comes into force", x.inForce(3, 8999), 0);
    }

    /** Openers at random, each within the one before: the tenth is the last that may be. */
    private static void tenDeep() {
        Random random = new Random(19);
        for (int run = 0; run < 300; run++) {
            int facts = random.nextInt(11);
            StringBuilder head = new StringBuilder("may cut if ");
            StringBuilder closing = new StringBuilder();
            for (int i = 0; i < facts; i++) {
                boolean bracket = random.nextBoolean();
                head.append(bracket ? "[" : "no ");
                closing.append(bracket ? "]" : "");
            }
            head.append(many(10 - facts, "("));
            String tail = many(10 - facts, ")") + "=1" + closing;
            fine(head + "1" + tail);
            fault(head + "(1)" + tail, head.length(), 2);
            fault(head + "(", head.length(), 2);
            fault(head + "[1=1]" + closing, head.length(), facts == 10 ? 2 : 0);
            fault(head + "no 1=1" + closing, head.length(), facts == 10 ? 2 : 0);
        }
        // what lies beside one another does not add up
        fine("mesh " + many(9, "(") + "(1)*(1)+(1)" + many(9, ")") + "+" + many(10, "(") + "1" + many(10, ")"));
        fine("may cut if " + many(9, "[") + "no 1=1 and [1=1] or (1)=(1)" + many(9, "]") + "and " + many(10, "no ") + "1=1");
        fine("mesh " + many(10, "(") + "1" + many(10, ")") + " if " + many(10, "[") + "1=1" + many(10, "]"));
        String nine = "may cut if no " + many(9, "[");
        fault(nine + "1=1 or no 1=1" + many(9, "]"), nine.length() + 7, 2);
        fault(nine + "1=(1)" + many(9, "]"), nine.length() + 2, 2);
        fault("mesh 1;mesh " + many(11, "("), 12 + 10, 2);
    }

    /** What a sign or a word joins is as deep on its right as on its left, however many there were. */
    private static void asDeepBehindASign() {
        for (String sign : new String[] {"+", "-", "*"}) {
            String ten = "mesh " + many(10, "(") + "1" + sign;
            fault(ten + "(1)" + many(10, ")"), ten.length(), 2);
            fine(ten + "1" + many(10, ")"));
            fine("mesh " + many(9, "(") + "1" + sign + "(1)" + many(9, ")"));
            fine("mesh 1" + many(12, sign + "1") + sign + many(10, "(") + "1" + many(10, ")"));
        }
        for (String sign : new String[] {"<", "<=", "=", ">=", ">"}) {
            String ten = "may cut if " + many(10, "[") + "1" + sign;
            fault(ten + "(1)" + many(10, "]"), ten.length(), 2);
            fine(ten + "1" + many(10, "]"));
            fine("may cut if " + many(9, "[") + "1" + sign + "(1)" + many(9, "]"));
            fine("may cut if 1" + sign + many(10, "(") + "1" + many(10, ")"));
        }
        for (String word : new String[] {" and ", " or "}) {
            for (String opener : new String[] {"[", "no ", "("}) {
                String ten = "may cut if " + many(10, "[") + "1=1" + word;
                fault(ten + opener, ten.length(), 2);
                fine(ten + "1=1" + many(10, "]"));
            }
            fine("may cut if " + many(9, "[") + "1=1" + word + "[1=1]" + word + "no 1=1" + word + "(1)=1" + many(9, "]"));
            fine("may cut if 1=1" + many(12, word + "1=1") + word + many(10, "[") + "1=1" + many(10, "]"));
        }
    }

    private static void eightyValues() {
        // numbers, words, and brackets round a sum are values, each of them one
        fine("mesh x" + many(79, "+y"));
        fault("mesh x" + many(80, "+y"), 6 + 79 * 2 + 1, 3);
        fine("mesh (x)" + many(39, "+(y)"));
        fault("mesh (x)" + many(40, "+(y)"), 8 + 39 * 4 + 1, 3);
        fault("mesh x" + many(40, "+(y)"), 6 + 39 * 4 + 2, 3);
        // so is a fact made of a sign, while no and [ ] are none
        fine("may cut if no [x+x+x<=1" + many(25, "or x<=1") + "]");
        int[] backFromTheEnd = {1, 3, 4, 8, 10};
        for (int i = 0; i < backFromTheEnd.length; i++) {
            String text = "may cut if x" + many(3 + i, "+x") + "<=1" + many(25, "or x<=1");
            fault(text, text.length() - backFromTheEnd[i], 3);
        }
        // together, over all clauses; what is struck is none
        fine("strike 1;mesh x" + many(38, "+x") + ";may cut if x<1;reach 1" + many(37, "+1"));
        String together = "strike 1;mesh x" + many(39, "+x") + ";may cut if x<1;reach 1" + many(37, "+1");
        fault(together, together.length() - 1, 3);
        // the text before counts no more
        NetsCut x = new NetsCut();
        CHECK.due("eighty", Check.enact(x, 0, 0, "mesh x" + many(79, "+y")), 0);
        CHECK.due("eighty again", Check.enact(x, 0, 0, "mesh x" + many(79, "+y")), 1);
        CHECK.due("one too many", Check.enact(x, 0, 0, "mesh x" + many(80, "+y")), Check.fault(165, 3));
        CHECK.due("eighty behind a fault", Check.enact(x, 0, 0, "mesh x" + many(79, "+y")), 2);
    }

    private static void twelveClauses() {
        String[] clauses = {"may cut", "not cut", "reach 1", "mesh 1", "strike 1", "may cut if 1=1", "mesh 1 unless 1=1"};
        for (String clause : clauses) {
            fine(clause + many(11, ";" + clause));
            for (String other : clauses) {
                String eleven = clause + many(11, ";" + clause);
                fault(eleven + ";" + other, eleven.length() + 1, 4);
                fault(eleven + " ;  " + other, eleven.length() + 4, 4);
            }
        }
        String twelve = "may cut" + many(11, ";may cut");
        fault(twelve + ";", twelve.length() + 1, 0);
        fault(twelve + ";~", twelve.length() + 1, 0);
        fault(twelve + ";cut", twelve.length() + 1, 0);
        fault(twelve + ";mays", twelve.length() + 1, 0);
        fault(twelve + ";;", twelve.length() + 1, 0);
        fault(twelve + ";strike 9", twelve.length() + 1, 4);
        fault(twelve + ";mesh 123456", twelve.length() + 1, 4);
        fault(twelve + many(13, ";may cut"), twelve.length() + 1, 4);
    }

    private static void firstAlongTheText() {
        fault("mesh 123456~", 5, 1);
        fault("strike 9~", 7, 1);
        fault("mesh " + many(11, "(") + "~", 15, 2);
        fault("mesh x" + many(80, "+y") + "~", 165, 3);
        fault("may cut" + many(12, ";may cut") + "~", 96, 4);
        fault("~mesh 123456", 0, 0);
        fault("mesh (1;strike 9", 7, 0);
        // of one place the least
        String eighty = "mesh x" + many(79, "+y") + "+";
        fault(eighty, eighty.length(), 0);
        fault(eighty + "fish", eighty.length(), 0);
        fault(eighty + "123456", eighty.length(), 1);
        fault(eighty + "12345", eighty.length(), 3);
        fault(eighty + "(", eighty.length(), 3);
        String deep = "mesh " + many(10, "(") + "1" + many(69, "+1") + "+";
        fault(deep + "(1", deep.length(), 2);
        fault(deep + "1", deep.length(), 3);
        fault(deep + "]", deep.length(), 0);
        String facts = "may cut if x+x" + many(75, "+1") + "<1 or ";
        fine(facts.substring(0, facts.length() - 4));
        fault(facts + "x<1", facts.length() + 1, 3);
        fault(facts + "x~1", facts.length() + 1, 0);
        fault(facts + "x+1", facts.length() + 2, 3);
        fault(facts + "no ", facts.length() + 3, 0);
    }

    private static final String[] FAULTY = {"", "~", "may land;may cut;reach", "reach 20;mesh 123456", "strike 0;strike 9",
        "mesh 7;may land;strike 0;~", "reach " + many(11, "("), "reach 9;mesh x" + many(80, "+y"),
        "not fish" + many(12, ";not fish"), "not fish if 1=2;mesh 9 unless 1=1;not stop if 1=1 or", "reach 9 unless 1=1;",
        "may fish if no no no", "mesh 5 if 1=2;reach 6 if 1=2;may cut if 1=2;not land unless 1=1;strike 0;mesh 1 2"};

    private static void faultsLeaveNothing() {
        for (String text : FAULTY) {
            NetsCut x = Ready.sea();
            NetsCut twin = Ready.sea();
            x.end(0);
            twin.end(0);
            CHECK.due("'" + text + "'", Check.enact(x, 1, Ready.NOW, text) <= -3, true);
            CHECK.due("nothing is left of '" + text + "'", Ready.picture(x).equals(Ready.picture(twin)), true);
        }
    }

    /** What is told behind a fault, or behind many, is as if the faults had never been on the tape. */
    private static void faultsLeaveNothingForTheNext() {
        String[] next = {"reach 7", "may cut", "mesh 8;not fish;may stop", "not land;mesh 8;reach 7;may lean;may cut;mesh 3",
            "mesh 8 if 1=1;not fish unless 1=2;may stop if 1=1"};
        for (String text : next) {
            for (String faulty : FAULTY) {
                NetsCut x = Ready.sea();
                NetsCut twin = Ready.sea();
                x.end(0);
                twin.end(0);
                Check.enact(x, 0, Ready.NOW, faulty);
                Check.type(x, text);
                Check.type(twin, text);
                CHECK.due("'" + text + "' behind '" + faulty + "'", Ready.picture(x).equals(Ready.picture(twin)), true);
            }
        }
    }

    /** However many faults there were, the next text has all the room that the document gives it. */
    private static void manyFaultsTakeNoRoom() {
        NetsCut x = new NetsCut();
        x.ship(0, 0, 1, 0);
        for (int s = 0; s < 12; s++) {
            for (int i = 0; i < 2; i++) {
                CHECK.due("a long text with a fault at its end", Check.enact(x, 0, 0, "mesh 1" + many(79, "*1") + "~"),
                        Check.fault(6 + 79 * 2, 0));
            }
            CHECK.due("eighty values", Check.enact(x, 0, 0, "mesh " + s + many(79, "+x")), s);
            CHECK.due("statute " + s, x.mesh(0, 0, 2, 0, 0), s + 79 * 2);
        }
    }

    // ---- what statutes tell

    private static void fromAMinuteOn() {
        NetsCut x = new NetsCut();
        x.ship(0, 0, 1, 0);
        x.clock(10);
        Check.type(x, "may cut;mesh 5;reach 6");
        CHECK.due("ahead of now", x.statute(0, 9), -1);
        CHECK.due("now", x.statute(0, 10), 0);
        CHECK.due("the last minute", Check.enact(x, 1, 8999, "may cut;mesh 5;reach 6"), 1);
        Check.type(x, "may cut");
        CHECK.due("behind it", x.statute(0, 9000), -1);
        int[][] minutes = {{9, 10}, {8998, 8999}};
        for (int author = 0; author < 2; author++) {
            for (int on = 0; on < 2; on++) {
                int minute = minutes[author][on];
                CHECK.due("in force", x.inForce(author, minute), on);
                CHECK.due("may", x.may(author, 2, 0, 0, 0, minute), on);
                CHECK.due("by", x.by(author, 2, 0, 0, 0, minute), on == 1 ? 16 * author : -1);
                CHECK.due("mesh", x.mesh(author, 0, 0, 0, minute), 5 * on);
                CHECK.due("reach", x.reach(author, minute), on == 1 ? 6 : 3);
            }
        }
        CHECK.due("ahead of all", x.inForce(0, 0), 0);
        CHECK.due("for good", x.inForce(0, 8999), 1);
    }

    private static void struckFromAMinuteOn() {
        NetsCut x = new NetsCut();
        x.ship(0, 0, 1, 0);
        Check.enact(x, 0, 5, "may cut;mesh 5;reach 6");
        Check.enact(x, 0, 30, "strike 0");
        Check.enact(x, 0, 20, "may land;strike 0");
        Check.enact(x, 0, 20, "strike 2");
        int[] want = {0, 0, 1, 1, 0, 0, 0, 0};
        int[] minutes = {0, 4, 5, 19, 20, 21, 30, 8999};
        for (int i = 0; i < minutes.length; i++) {
            CHECK.due("in force in " + minutes[i], x.inForce(0, minutes[i]), want[i]);
            CHECK.due("may in " + minutes[i], x.may(0, 2, 0, 0, 0, minutes[i]), want[i]);
            CHECK.due("mesh in " + minutes[i], x.mesh(0, 0, 0, 0, minutes[i]), 5 * want[i]);
            CHECK.due("reach in " + minutes[i], x.reach(0, minutes[i]), 3 + 3 * want[i]);
        }
        CHECK.due("one that is struck at once", x.inForce(2, 20), 0);
        CHECK.due("and strikes all the same", x.inForce(0, 20), 0);
        CHECK.due("a striker", x.inForce(3, 20), 1);
        CHECK.due("a striker ahead of its minute", x.inForce(1, 29), 0);
        CHECK.due("a striker in its minute", x.inForce(1, 30), 1);
    }

    private static void latestGoesAhead() {
        NetsCut x = new NetsCut();
        x.ship(0, 0, 1, 0);
        // told in this order: from 7, from 9, from 8, from 9 again, from 8999
        int[] from = {7, 9, 8, 9, 8999};
        for (int s = 0; s < from.length; s++) {
            Check.enact(x, 1, from[s], (s % 2 == 0 ? "may" : "not") + " cut;mesh " + (s + 1) + ";reach " + (10 + s));
        }
        int[] minutes = {6, 7, 8, 9, 8998, 8999};
        int[] by = {-1, 0, 2, 3, 3, 4};
        for (int i = 0; i < minutes.length; i++) {
            CHECK.due("by in " + minutes[i], x.by(1, 2, 0, 0, 0, minutes[i]), by[i] < 0 ? -1 : 16 * by[i]);
            CHECK.due("may in " + minutes[i], x.may(1, 2, 0, 0, 0, minutes[i]), by[i] >= 0 && by[i] % 2 == 0 ? 1 : 0);
            CHECK.due("mesh in " + minutes[i], x.mesh(1, 0, 0, 0, minutes[i]), by[i] + 1);
            CHECK.due("reach in " + minutes[i], x.reach(1, minutes[i]), by[i] < 0 ? 3 : 10 + by[i]);
        }
    }

    private static void clausesInOrder() {
        NetsCut x = new NetsCut();
        x.ship(0, 0, 1, 0);
        for (int s = 0; s < 11; s++) {
            Check.enact(x, 0, 0, "not stop if x=1");
        }
        Check.enact(x, 0, 0, "may stop if x=1;not stop unless x<=2;mesh 8 if y=1;not cut;not lean;not fish;not land;mesh 9;"
                + "reach 4 if y=1;reach 5;may cut;may stop if x=2");
        CHECK.due("the first whose condition holds", x.by(0, 1, 0, 1, 0, 0), 16 * 11);
        CHECK.due("it may", x.may(0, 1, 0, 1, 0, 0), 1);
        CHECK.due("the last clause of the last statute", x.by(0, 1, 0, 2, 0, 0), 16 * 11 + 11);
        CHECK.due("it may", x.may(0, 1, 0, 2, 0, 0), 1);
        CHECK.due("unless", x.by(0, 1, 0, 3, 0, 0), 16 * 11 + 1);
        CHECK.due("it may not", x.may(0, 1, 0, 3, 0, 0), 0);
        CHECK.due("none holds", x.by(0, 1, 0, 0, 0, 0), -1);
        CHECK.due("as without", x.may(0, 1, 0, 0, 0, 0), 0);
        CHECK.due("without a condition", x.by(0, 2, 0, 0, 0, 0), 16 * 11 + 3);
        CHECK.due("not, though without it may", x.may(0, 0, 0, 0, 0, 0), 0);
        CHECK.due("not, though without it may", x.may(0, 4, 0, 0, 0, 0), 0);
        CHECK.due("mesh with its condition", x.mesh(0, 0, 0, 1, 0), 8);
        CHECK.due("mesh without", x.mesh(0, 0, 0, 0, 0), 9);
        CHECK.due("for reach y is 0", x.reach(0, 0), 5);
        CHECK.due("another author's", x.by(1, 2, 0, 0, 0, 0), -1);
        NetsCut y = new NetsCut();
        y.ship(0, 0, 1, 0);
        Check.enact(y, 0, 0, "may stop;mesh 3");
        Check.enact(y, 0, 0, "not stop if 1=2;mesh 4 if 1=2");
        CHECK.due("an earlier one's, if none of the later one's holds", y.by(0, 1, 0, 0, 0, 0), 0);
        CHECK.due("mesh", y.mesh(0, 0, 0, 0, 0), 3);
    }

    private static long mesh(String sum, int... shipAndCell) {
        NetsCut x = new NetsCut();
        x.ship(shipAndCell[0], shipAndCell[1], shipAndCell[2], shipAndCell[3]);
        x.depth(shipAndCell[4], shipAndCell[5], shipAndCell[6]);
        x.point(0, shipAndCell[4], shipAndCell[5]);
        CHECK.due(sum, Check.enact(x, 0, 0, "mesh " + sum + " if " + sum + "=" + sum), 0);
        return x.mesh(0, 0, shipAndCell[4], shipAndCell[5], shipAndCell[7]);
    }

    private static void wordsAtTheirEnds() {
        String[] words = WORDS.split(" ");
        int[] least = {0, 0, 1, 0, 0, 0, 0, 0};
        int[] most = {1, 2, 3, 199, 23, 23, 999, 8999};
        long[] leastWords = {0, 0, 0, 0, 0, 0, 0, 1, 0};
        long[] mostWords = {8999, 23, 23, 999, 1, 2, 199, 3, 0};
        for (int i = 0; i < words.length; i++) {
            CHECK.due("the least " + words[i], mesh(words[i], least), leastWords[i]);
            CHECK.due("the most " + words[i], mesh(words[i], most), mostWords[i]);
            NetsCut x = new NetsCut();
            x.ship(1, 2, 3, 199);
            x.depth(0, 0, 999);
            x.point(1, 0, 0);
            Check.enact(x, 1, 0, "reach 20+" + words[i] + " if " + words[i] + "=0;reach 30");
            CHECK.due("for reach " + words[i] + " is 0", x.reach(1, 0), 20);
            CHECK.due("but for minute", x.reach(1, 8), i == 0 ? 30 : 20);
            Check.enact(x, 1, 0, "may cut if " + words[i] + "=" + (words[i].equals("inside") ? 1 : leastWords[i] + 1));
            boolean holds = words[i].equals("side") || words[i].equals("inside");
            CHECK.due("for may " + words[i], x.may(1, 2, 0, 0, 0, 0), holds ? 1 : 0);
        }
        CHECK.due("x and y are two", mesh("x*100+y", 0, 0, 1, 0, 7, 9, 0, 0), 709);
    }

    private static void insideOfWhom() {
        NetsCut x = new NetsCut();
        x.ship(0, 0, 1, 0);
        x.point(0, 2, 2);
        x.point(1, 20, 20);
        Check.enact(x, 0, 0, "may cut if inside=1;not cut if inside=0;mesh 1+inside");
        Check.enact(x, 1, 0, "may cut if inside=1;not cut if inside=0;mesh 1+inside");
        Check.enact(x, 2, 0, "may cut if inside=1;not cut if inside=0;mesh 1+inside;reach 40");
        Check.enact(x, 0, 50, "reach 4");
        x.chart(3, 3);
        int[] want0 = {1, 0, 1};
        for (int author = 0; author < 3; author++) {
            CHECK.due("in side 0's line", x.may(author, 2, 0, 5, 2, 0), want0[author]);
            CHECK.due("in side 1's line", x.may(author, 2, 0, 20, 17, 0), 1 - want0[author]);
            CHECK.due("in none", x.by(author, 2, 0, 6, 2, 0), 16 * author + 1);
            CHECK.due("a minute ahead of the new line", x.may(author, 2, 0, 6, 2, 49), 0);
            CHECK.due("in its minute", x.may(author, 2, 0, 6, 2, 50), want0[author]);
            CHECK.due("for mesh inside is 0", x.mesh(author, 0, author == 1 ? 20 : 2, author == 1 ? 20 : 2, 0), 1);
        }
    }

    private static int holds(String test) {
        NetsCut x = new NetsCut();
        x.ship(0, 0, 1, 0);
        CHECK.due(test, Check.enact(x, 0, 0, "may cut if " + test), 0);
        return x.may(0, 2, 0, 0, 0, 0);
    }

    private static void sumsGoRound() {
        int[] ship = {0, 0, 1, 0, 0, 0, 0, 0};
        String top = "65536*65536*65536*32768";
        CHECK.due("2^63 - 1", mesh(top + "-1", ship), Long.MAX_VALUE);
        CHECK.due("2^63", mesh(top, ship), Long.MIN_VALUE);
        CHECK.due("2^63 by adding", mesh(top + "-1+1", ship), Long.MIN_VALUE);
        CHECK.due("-2^63 + -2^63", mesh(top + "+" + top, ship), 0);
        CHECK.due("-2^63 - 1", mesh("0-" + top + "-1", ship), Long.MAX_VALUE);
        CHECK.due("2^64", mesh("65536*65536*65536*65536", ship), 0);
        CHECK.due("99999^13", mesh("99999" + many(12, "*99999"), ship), power(99999, 13));
        CHECK.due("2^31", mesh("65536*32768", ship), 1L << 31);
        CHECK.due("2^32", mesh("65536*65536", ship), 1L << 32);
        CHECK.due("2^63 is below 0", holds(top + "<0"), 1);
        CHECK.due("2^63 - 1 is above 0", holds(top + "-1>0"), 1);
        CHECK.due("2^32 is not 0", holds("65536*65536=0"), 0);
        CHECK.due("2^64 is 0", holds("65536*65536*65536*65536=0"), 1);
        CHECK.due("no difference is taken", holds(top + "<" + top + "-1"), 1);
        CHECK.due("from the left", mesh("1-2-3*4-5", ship), -18);
        CHECK.due("to the right in brackets", mesh("1-(2-(3*4-5))", ship), 6);
    }

    private static long power(long base, int times) {
        long product = 1;
        for (int i = 0; i < times; i++) {
            product *= base;
        }
        return product;
    }

    // ---- acts

    private static void keptInItsMinute() {
        NetsCut x = new NetsCut();
        x.ship(0, 0, 1, 0);
        x.clock(20);
        CHECK.due("now", x.act(0, 2, 3, 4, 20), 0);
        CHECK.due("behind now", x.act(0, 2, 3, 4, 21), -1);
        CHECK.due("a minute ahead", x.act(0, 2, 3, 4, 19), 1);
        Check.enact(x, 2, 20, "may cut if x=3 and y=4 and depth=0");
        CHECK.due("in the statute's minute", x.kept(0, 2), 1);
        CHECK.due("ahead of it", x.kept(1, 2), 0);
        CHECK.due("not kept", x.broken(0, 2), 1);
        x.clock(8999);
        CHECK.due("as it was", x.kept(0, 2), 1);
        CHECK.due("the last minute", x.act(0, 2, 3, 4, 8999), 2);
        CHECK.due("kept", x.kept(2, 2), 1);
        x.depth(3, 4, 1);
        CHECK.due("by the depth as told last", x.kept(2, 2), 0);
        CHECK.due("not kept", x.broken(0, 2), 3);
        CHECK.due("of side 1 there is none", x.broken(1, 2), 0);
        CHECK.due("an act too many", x.kept(3, 2), -1);
    }

    private static void keptWithItsMesh() {
        NetsCut x = new NetsCut();
        x.ship(0, 0, 1, 59);
        x.ship(0, 0, 1, 60);
        x.ship(0, 0, 1, 199);
        Check.enact(x, 0, 0, "mesh 60");
        Check.enact(x, 1, 0, "mesh 200");
        Check.enact(x, 2, 0, "mesh 65536*65536;may stop");
        for (int ship = 0; ship < 3; ship++) {
            x.act(ship, 0, 0, 0, 0);
            x.act(ship, 4, 0, 0, 0);
            CHECK.due("below 60, 60, above", x.kept(2 * ship, 0), ship == 0 ? 0 : 1);
            CHECK.due("below 200", x.kept(2 * ship, 1), 0);
            CHECK.due("below 2^32", x.kept(2 * ship, 2), 0);
            for (int author = 0; author < 3; author++) {
                CHECK.due("land needs no mesh", x.kept(2 * ship + 1, author), 1);
            }
        }
        CHECK.due("one of three", x.broken(0, 0), 1);
        CHECK.due("all three", x.broken(0, 1), 3);
        Check.enact(x, 0, 0, "mesh 0-1;not fish");
        CHECK.due("with its mesh, but it may not", x.kept(2, 0), 0);
    }
}
