import java.util.ArrayDeque;
import java.util.ArrayList;
import java.util.Deque;
import java.util.HashMap;
import java.util.List;
import java.util.Map;
import java.util.Random;
import java.util.regex.Matcher;
import java.util.regex.Pattern;

/**
 * Promises 11 and 17 to 21 once more, on texts made at random: faults are looked for by an automaton
 * with a stack, what statutes tell is reckoned from their texts each time anew.
 */
public final class LawTest {
    private static final Check CHECK = new Check("LawTest");
    private static final Pattern TOKEN = Pattern.compile("[a-z]+|[0-9]+|[<>]=|.", Pattern.DOTALL);
    private static final String[] WHATS = {"fish", "stop", "cut", "lean", "land"};
    private static final List<String> WORDS =
            List.of("minute", "x", "y", "depth", "side", "kind", "net", "speed", "inside");
    private static final List<String> SIGNS = List.of("<", "<=", "=", ">=", ">");

    private final Random random = new Random(77);
    private int limit;

    public static void main(String[] args) {
        new LawTest().faults();
        new LawTest().tellings();
        CHECK.end();
    }

    // ---- texts at random

    private String pick(String... some) {
        return some[random.nextInt(some.length)];
    }

    private String blank() {
        return " ".repeat(random.nextInt(3) == 0 ? random.nextInt(3) : 1);
    }

    private String value(int deep) {
        int kind = random.nextInt(deep > limit ? 6 : 8);
        if (kind < 3) {
            return "" + random.nextInt(kind == 0 ? 100000 : 12);
        }
        return kind < 6 ? WORDS.get(random.nextInt(9)) : "(" + blank() + sum(deep + 1) + ")";
    }

    private String sum(int deep) {
        StringBuilder s = new StringBuilder(value(deep));
        for (int i = 0; random.nextInt(3) == 0 && i < 5; i++) {
            s.append(blank()).append(pick("+", "-", "*")).append(blank()).append(value(deep));
        }
        return s.toString();
    }

    private String fact(int deep) {
        int kind = random.nextInt(deep > limit ? 3 : 6);
        if (kind < 3) {
            return sum(deep) + blank() + SIGNS.get(random.nextInt(5)) + blank() + sum(deep);
        }
        return kind == 3 ? "[" + blank() + test(deep + 1) + "]" : "no " + fact(deep + 1);
    }

    private String test(int deep) {
        StringBuilder s = new StringBuilder(fact(deep));
        for (int i = 0; random.nextInt(2) == 0 && i < 4; i++) {
            s.append(" ").append(pick("and", "or")).append(" ").append(fact(deep));
        }
        return s.toString();
    }

    private String clause() {
        int kind = random.nextInt(9);
        if (kind == 0) {
            return "strike" + blank() + random.nextInt(6);
        }
        String head = kind < 3 ? "reach " + sum(0) : kind < 5 ? "mesh " + sum(0) : pick("may ", "not ") + pick(WHATS);
        return random.nextInt(3) == 0 ? head : head + pick(" if ", " unless ") + test(0);
    }

    /** Texts about as deep, as full or as long as the document allows. */
    private String brimfulText() {
        limit = 0;
        int n = random.nextInt(4);
        StringBuilder s = new StringBuilder();
        switch (random.nextInt(3)) {
            case 0:
                s.append("may lean if ").append("[".repeat(n)).append("no ".repeat(3)).append(n == 2 ? "no[" : "no ");
                s.append("(".repeat(5)).append(sum(2)).append(")".repeat(5)).append("<=").append("(".repeat(4 + n));
                s.append(sum(2)).append(")".repeat(4 + n)).append(n == 2 ? "]" : "").append("]".repeat(n));
                return s.toString();
            case 1:
                s.append("mesh (x)").append("*2+1".repeat(24 + random.nextInt(3))).append(" unless ").append(fact(0));
                s.append(" and 1=1or 2<x".repeat(2 + random.nextInt(4)));
                return s.toString();
            default:
                s.append("may cut");
                for (int i = 0; i < 9 + n; i++) {
                    s.append(blank()).append(";").append(blank()).append(pick("not land", "may cut", "mesh x"));
                }
                return s.append(";").append(random.nextBoolean() ? clause() : pick("fish", "", "123456", "mesh")).toString();
        }
    }

    private String text() {
        if (random.nextInt(8) == 0) {
            String full = brimfulText();
            return full.length() > 400 ? full.substring(0, 400) : full;
        }
        limit = random.nextInt(5);
        int clauses = random.nextInt(8) == 0 ? 1 + random.nextInt(15) : 1 + random.nextInt(4);
        StringBuilder s = new StringBuilder(clause());
        for (int i = 1; i < clauses; i++) {
            s.append(blank()).append(";").append(blank()).append(clause());
        }
        return s.length() > 400 ? s.substring(0, 400) : s.toString();
    }

    private String spoiled(String text) {
        StringBuilder s = new StringBuilder(text);
        for (int i = 1 + random.nextInt(3); i > 0; i--) {
            int at = random.nextInt(s.length() + 1);
            String piece = pick("(", ")", "[", "]", "no ", " no no ", ";", "+", "=", "<", ">=", "if ", " or ", " and ",
                    "0", "123456", "x", " y", "fish", "strike 0", "((((((", "[[[[[[", "no no no no no ", "~", "\0",
                    "\u00ff", "A", ";may cut;may cut;may cut;may cut", "+1+1+1+1+1+1+1+1+1+1+1+1+1+1+1+1+1+1+1+1");
            int kind = random.nextInt(3);
            if (kind == 0 && at < s.length()) {
                s.delete(at, Math.min(s.length(), at + 1 + random.nextInt(4)));
            } else {
                s.insert(at, piece);
            }
        }
        return s.length() > 400 ? s.substring(0, 400) : s.toString();
    }

    // ---- faults

    private void faults() {
        int[] seen = new int[6];
        for (int run = 0; run < 60000; run++) {
            NetsCut x = new NetsCut();
            int[] authors = {random.nextInt(3), random.nextInt(3), random.nextInt(3)};
            for (int a : authors) {
                Check.enact(x, a, 0, "may cut");
            }
            int author = random.nextInt(3);
            String text = random.nextInt(3) == 0 ? text() : spoiled(text());
            int fault = new Automaton(text, author, authors).run();
            seen[fault == 0 ? 5 : (fault - 1) % 8]++;
            CHECK.due("'" + text + "'", Check.enact(x, author, 0, text), fault == 0 ? 3 : -2 - fault);
        }
        for (int kind = 0; kind < 6; kind++) {
            CHECK.due("texts of kind " + kind + ": " + seen[kind], seen[kind] > 100, true);
        }
    }

    private static final class Automaton {
        private final List<String> tokens = new ArrayList<>();
        private final List<Integer> places = new ArrayList<>();
        private final int author;
        private final int[] authors;
        /** What is open: ( [ or n for no. */
        private final Deque<Character> open = new ArrayDeque<>();
        private String state = "clause";
        private boolean inCond;
        private boolean signed;
        private int clauses;
        private int values;

        Automaton(String text, int author, int[] authors) {
            this.author = author;
            this.authors = authors;
            Matcher m = TOKEN.matcher(text);
            while (m.find()) {
                if (!m.group().equals(" ")) {
                    tokens.add(m.group());
                    places.add(m.start());
                }
            }
            tokens.add("");
            places.add(text.length());
        }

        int run() {
            for (int i = 0; i < tokens.size(); i++) {
                int kind = step(tokens.get(i));
                if (kind >= 0) {
                    return 1 + 8 * places.get(i) + kind;
                }
            }
            return 0;
        }

        private int to(String next) {
            state = next;
            return -1;
        }

        private int step(String t) {
            switch (state) {
                case "clause":
                    return clause(t);
                case "what":
                    return List.of(WHATS).contains(t) ? to("headed") : 0;
                case "struck":
                    return struck(t);
                case "headed":
                    return headed(t);
                case "closed":
                    return closed(t);
                case "fact":
                    if (t.equals("no") || t.equals("[")) {
                        open.push(t.equals("no") ? 'n' : '[');
                        return open.size() > 10 ? 2 : -1;
                    }
                    signed = false;
                    return value(t);
                case "value":
                    return value(t);
                case "valued":
                    return valued(t);
                default:
                    return factEnded(t);
            }
        }

        private int clause(String t) {
            if (!List.of("reach", "mesh", "may", "not", "strike").contains(t)) {
                return 0;
            }
            clauses++;
            inCond = false;
            if (clauses > 12) {
                return 4;
            }
            return to(t.equals("strike") ? "struck" : t.equals("may") || t.equals("not") ? "what" : "value");
        }

        private int struck(String t) {
            if (t.isEmpty() || !Character.isDigit(t.charAt(0))) {
                return 0;
            }
            boolean told = t.length() <= 5 && Integer.parseInt(t) < authors.length
                    && authors[Integer.parseInt(t)] == author;
            return told ? to("closed") : 1;
        }

        private int headed(String t) {
            if (t.equals("if") || t.equals("unless")) {
                inCond = true;
                return to("fact");
            }
            return closed(t);
        }

        private int closed(String t) {
            return t.equals(";") ? to("clause") : t.isEmpty() ? -1 : 0;
        }

        private int value(String t) {
            boolean number = t.matches("[0-9]+");
            if (!number && !t.equals("(") && !WORDS.contains(t)) {
                return 0;
            }
            if (number && t.length() > 5) {
                return 1;
            }
            if (t.equals("(")) {
                open.push('(');
                if (open.size() > 10) {
                    return 2;
                }
            }
            values++;
            state = t.equals("(") ? "value" : "valued";
            return values > 80 ? 3 : -1;
        }

        private int valued(String t) {
            if (t.equals("+") || t.equals("-") || t.equals("*")) {
                return to("value");
            }
            if (!open.isEmpty() && open.peek() == '(') {
                if (t.equals(")")) {
                    open.pop();
                    return -1;
                }
                return 0;
            }
            if (!inCond) {
                return headed(t);
            }
            if (!signed) {
                signed = true;
                values += SIGNS.contains(t) ? 1 : 0;
                state = "value";
                return !SIGNS.contains(t) ? 0 : values > 80 ? 3 : -1;
            }
            return factEnded(t);
        }

        private int factEnded(String t) {
            while (!open.isEmpty() && open.peek() == 'n') {
                open.pop();
            }
            state = "ended";
            if (t.equals("and") || t.equals("or")) {
                return to("fact");
            }
            if (t.equals("]") && !open.isEmpty()) {
                open.pop();
                return -1;
            }
            return open.isEmpty() ? closed(t) : 0;
        }
    }

    // ---- what statutes tell

    private static final class Told {
        final int author;
        final int from;
        final List<String> clauses;

        Told(int author, int from, String text) {
            this.author = author;
            this.from = from;
            this.clauses = List.of(text.split(";"));
        }
    }

    private final List<Told> told = new ArrayList<>();
    private final List<int[]> ships = new ArrayList<>();
    private final int[][] points = new int[2][2];
    private final int[][] depths = new int[24][24];

    private void tellings() {
        for (int run = 0; run < 1500; run++) {
            NetsCut x = new NetsCut();
            settle(x);
            int now = 0;
            for (int i = 0; i < 60; i++) {
                now += random.nextInt(4) == 0 ? 1 : 0;
                x.clock(now);
                if (random.nextInt(5) == 0) {
                    tell(x, now);
                } else {
                    ask(x);
                }
            }
        }
    }

    private void settle(NetsCut x) {
        told.clear();
        ships.clear();
        for (int i = 0; i < 3; i++) {
            int[] s = {random.nextInt(2), random.nextInt(3), 1 + random.nextInt(3), random.nextInt(200)};
            x.ship(s[0], s[1], s[2], s[3]);
            ships.add(s);
        }
        for (int side = 0; side < 2; side++) {
            points[side] = new int[] {random.nextInt(24), random.nextInt(24)};
            x.point(side, points[side][0], points[side][1]);
        }
        x.chart(2, 2);
        for (int[] row : depths) {
            java.util.Arrays.fill(row, 0);
        }
        for (int i = 0; i < 5; i++) {
            int cx = random.nextInt(24);
            int cy = random.nextInt(24);
            depths[cy][cx] = random.nextInt(1000);
            x.depth(cx, cy, depths[cy][cx]);
        }
    }

    private void tell(NetsCut x, int now) {
        int author = random.nextInt(3);
        int from = now + random.nextInt(4);
        String text = text();
        int[] authors = new int[told.size()];
        for (int i = 0; i < authors.length; i++) {
            authors[i] = told.get(i).author;
        }
        if (told.size() < 12 && new Automaton(text, author, authors).run() == 0) {
            CHECK.due("'" + text + "'", Check.enact(x, author, from, text), told.size());
            told.add(new Told(author, from, text));
        }
    }

    private void ask(NetsCut x) {
        int author = random.nextInt(3);
        int what = random.nextInt(5);
        int ship = random.nextInt(3);
        int side = random.nextInt(2);
        int cx = Math.min(23, Math.max(0, points[side][0] + random.nextInt(9) - 4));
        int cy = Math.min(23, Math.max(0, points[side][1] + random.nextInt(9) - 4));
        int minute = random.nextInt(20);
        Map<String, Long> words = wordsFor(ship, cx, cy, minute);
        long mesh = sumAt(find(author, "mesh", "mesh", minute, words), 0, words);
        CHECK.due("mesh", x.mesh(author, ship, cx, cy, minute), mesh);
        int lined = author == 2 ? 0 : author;
        int reach = reach(lined, minute);
        CHECK.due("reach", x.reach(lined, minute), reach);
        long dx = cx - points[lined][0];
        long dy = cy - points[lined][1];
        words.put("inside", dx * dx + dy * dy <= (long) reach * reach ? 1L : 0L);
        int by = find(author, "may " + WHATS[what], "not " + WHATS[what], minute, words);
        CHECK.due("by", x.by(author, what, ship, cx, cy, minute), by);
        int may = by < 0 ? (what == 0 || what == 4 ? 1 : 0)
                : clauseOf(by).startsWith("may") ? 1 : 0;
        CHECK.due("may", x.may(author, what, ship, cx, cy, minute), may);
        for (int s = 0; s < told.size(); s++) {
            CHECK.due("in force", x.inForce(s, minute), stands(s, minute) ? 1 : 0);
        }
    }

    private Map<String, Long> wordsFor(int ship, int cx, int cy, int minute) {
        int[] s = ships.get(ship);
        long[] values = {minute, cx, cy, depths[cy][cx], s[0], s[1], s[3], s[2], 0};
        Map<String, Long> words = new HashMap<>();
        for (int i = 0; i < 9; i++) {
            words.put(WORDS.get(i), values[i]);
        }
        return words;
    }

    private int reach(int side, int minute) {
        Map<String, Long> words = new HashMap<>();
        for (String word : WORDS) {
            words.put(word, 0L);
        }
        words.put("minute", (long) minute);
        int by = find(side, "reach", "reach", minute, words);
        return by < 0 ? 3 : (int) Math.max(0, Math.min(40, sumAt(by, 3, words)));
    }

    private boolean stands(int s, int minute) {
        boolean struck = false;
        for (Told t : told) {
            for (String c : t.clauses) {
                String n = c.replace(" ", "");
                struck |= t.from <= minute && n.startsWith("strike") && Integer.parseInt(n.substring(6)) == s;
            }
        }
        return told.get(s).from <= minute && !struck;
    }

    private String clauseOf(int by) {
        return told.get(by / 16).clauses.get(by % 16).trim().replaceAll(" +", " ");
    }

    /** The clause that begins in one of two ways and holds, of the statute that goes ahead. */
    private int find(int author, String one, String other, int minute, Map<String, Long> words) {
        int best = -1;
        for (int s = 0; s < told.size(); s++) {
            if (told.get(s).author != author || !stands(s, minute)
                    || best >= 0 && told.get(best / 16).from > told.get(s).from) {
                continue;
            }
            for (int c = 0; c < told.get(s).clauses.size(); c++) {
                String clause = clauseOf(16 * s + c);
                if ((clause.startsWith(one) || clause.startsWith(other)) && holds(clause, words)) {
                    best = 16 * s + c;
                    break;
                }
            }
        }
        return best;
    }

    private List<String> left;
    private Map<String, Long> meaning;

    private static List<String> split(String text) {
        List<String> tokens = new ArrayList<>();
        Matcher m = TOKEN.matcher(text);
        while (m.find()) {
            if (!m.group().equals(" ")) {
                tokens.add(m.group());
            }
        }
        return tokens;
    }

    private boolean holds(String clause, Map<String, Long> words) {
        List<String> tokens = split(clause);
        boolean unless = tokens.contains("unless");
        int at = unless ? tokens.indexOf("unless") : tokens.indexOf("if");
        if (at < 0) {
            return true;
        }
        left = new ArrayList<>(tokens.subList(at + 1, tokens.size()));
        meaning = words;
        return testIs() != unless;
    }

    private long sumAt(int by, int without, Map<String, Long> words) {
        if (by < 0) {
            return without;
        }
        List<String> tokens = split(clauseOf(by));
        left = new ArrayList<>(tokens.subList(1, tokens.size()));
        meaning = words;
        return sumIs();
    }

    private boolean next(String token) {
        if (!left.isEmpty() && left.get(0).equals(token)) {
            left.remove(0);
            return true;
        }
        return false;
    }

    private boolean testIs() {
        boolean is = false;
        do {
            boolean part = true;
            do {
                part &= factIs();
            } while (next("and"));
            is |= part;
        } while (next("or"));
        return is;
    }

    private boolean factIs() {
        if (next("no")) {
            return !factIs();
        }
        if (next("[")) {
            boolean is = testIs();
            next("]");
            return is;
        }
        long a = sumIs();
        String sign = left.remove(0);
        long b = sumIs();
        return sign.startsWith("<") && a < b || sign.startsWith(">") && a > b || sign.endsWith("=") && a == b;
    }

    private long sumIs() {
        long sum = productIs();
        while (true) {
            if (next("+")) {
                sum += productIs();
            } else if (next("-")) {
                sum -= productIs();
            } else {
                return sum;
            }
        }
    }

    private long productIs() {
        long product = 1;
        do {
            String t = left.remove(0);
            if (t.equals("(")) {
                product *= sumIs();
                next(")");
            } else {
                product *= meaning.containsKey(t) ? meaning.get(t) : Long.parseLong(t);
            }
        } while (next("*"));
        return product;
    }
}
