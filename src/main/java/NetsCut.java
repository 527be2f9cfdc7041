import java.util.Arrays;

/** A sea between an island and a friend: lines, statutes, reports, games and reckonings (../shared/DOC.md). */
public final class NetsCut {
    public static final int NONE = -1;

    /** What calls answer when something is lawful to ask but is not to be found. */
    private static final int NEVER = -2;
    private static final int LAST_MINUTE = 8999;
    private static final int SIDES = 2;
    private static final int AUTHORS = 3;
    private static final int COURT = 2;
    private static final int WHATS = 5;
    private static final int FISH = 0;
    private static final int ACTS = 150;
    private static final int GREATEST_REACH = 40;
    private static final int REACH_WITHOUT_STATUTES = 3;

    private int now;
    private final Sea sea;
    private final Ships ships;
    private final Reports reports;
    private final Law law;
    private final Reader reader;
    /** What the WORDS of a statute mean for the SHIP and CELL that are asked about. */
    private final long[] words;
    /** The same for reach, kept apart because a reach is asked while the other words stand. */
    private final long[] reachWords;
    /** ACTS, five numbers each: SHIP, WHAT, x, y, MINUTE. */
    private final int[] acts;
    private int actsTold;
    private final Hook game;
    private final Stocks stocks;
    private final Towns towns;
    private final Note note;
    private final Boxes boxes;

    public NetsCut() {
        now = 0;
        sea = new Sea();
        ships = new Ships();
        reports = new Reports();
        law = new Law();
        reader = new Reader(law);
        words = new long[Law.WORDS];
        reachWords = new long[Law.WORDS];
        acts = new int[ACTS * 5];
        actsTold = 0;
        game = new Hook();
        stocks = new Stocks();
        towns = new Towns();
        note = new Note();
        boxes = new Boxes();
    }

    private static boolean lies(int value, int least, int most) {
        return value >= least && value <= most;
    }

    private static boolean isMinute(int minute) {
        return lies(minute, 0, LAST_MINUTE);
    }

    private static boolean isSide(int side) {
        return lies(side, 0, SIDES - 1);
    }

    private static boolean isAuthor(int author) {
        return lies(author, 0, AUTHORS - 1);
    }

    // ---- I. The sea, its ships and their reports

    public boolean clock(int minute) {
        if (!lies(minute, now, LAST_MINUTE)) {
            return false;
        }
        now = minute;
        return true;
    }

    public int depth(int x, int y, int depth) {
        if (!Sea.isCell(x, y) || !lies(depth, 0, 999)) {
            return NONE;
        }
        return sea.changeDepth(x, y, depth);
    }

    public int ship(int side, int kind, int speed, int mesh) {
        if (!isSide(side) || !lies(kind, 0, 2) || !lies(speed, 1, 3) || !lies(mesh, 0, 199)) {
            return NONE;
        }
        return ships.add(side, kind, speed, mesh);
    }

    public int report(int by, int of, int minute, int x, int y) {
        if (!ships.has(by) || !ships.has(of) || !lies(minute, 0, now) || !Sea.isCell(x, y)) {
            return NONE;
        }
        return reports.add(by, of, minute, x, y, now);
    }

    public int where(int ship, int minute, int known) {
        if (!ships.has(ship) || !isMinute(minute) || !isMinute(known)) {
            return NONE;
        }
        return reports.cellOf(ship, minute, known);
    }

    public int chain(int ship, int known) {
        if (!ships.has(ship) || !isMinute(known)) {
            return NONE;
        }
        return reports.findChain(ship, ships.speedOf[ship], known);
    }

    public int chained(int k) {
        return reports.inChain(k);
    }

    // ---- II. Lines

    public int point(int side, int x, int y) {
        if (!isSide(side) || !Sea.isCell(x, y)) {
            return NONE;
        }
        return sea.addPoint(side, x, y);
    }

    public boolean chart(int ox, int oy) {
        if (!lies(ox, -3, 3) || !lies(oy, -3, 3)) {
            return false;
        }
        sea.movedX = ox;
        sea.movedY = oy;
        return true;
    }

    public int reach(int side, int minute) {
        if (!isSide(side) || !isMinute(minute)) {
            return NONE;
        }
        return reachOf(side, minute);
    }

    private int reachOf(int side, int minute) {
        Arrays.fill(reachWords, 0L);
        reachWords[Law.MINUTE] = minute;
        int clause = law.findClause(side, Law.REACH, minute, reachWords);
        if (clause == NONE) {
            return REACH_WITHOUT_STATUTES;
        }
        long told = law.sumOf(clause, reachWords);
        return (int) Math.max(0L, Math.min((long) GREATEST_REACH, told));
    }

    public int within(int side, int chart, int x, int y, int minute) {
        if (!isSide(side) || !lies(chart, 0, 1) || !Sea.isCell(x, y) || !isMinute(minute)) {
            return NONE;
        }
        return sea.isNear(side, chart, x, y, reachOf(side, minute)) ? 1 : 0;
    }

    public long inside(int side, int chart, int minute, int known) {
        if (!isSide(side) || !lies(chart, 0, 1) || !isMinute(minute) || !isMinute(known)) {
            return NONE;
        }
        int reach = reachOf(side, minute);
        long found = 0L;
        for (int s = 0; s < ships.size; s++) {
            if (ships.sideOf[s] == side) {
                continue;
            }
            int cell = reports.cellOf(s, minute, known);
            if (cell != NONE && sea.isNear(side, chart, Sea.xOf(cell), Sea.yOf(cell), reach)) {
                found |= 1L << s;
            }
        }
        return found;
    }

    public int beside(int side, int reach) {
        if (!isSide(side) || !lies(reach, 0, GREATEST_REACH)) {
            return NONE;
        }
        int found = 0;
        for (int r = 0; r < reports.size; r++) {
            int teller = reports.tellerOf[r];
            if (teller == reports.shipOf[r] && ships.has(teller) && ships.sideOf[teller] != side
                    && sea.isNear(side, 0, reports.xOf[r], reports.yOf[r], reach)) {
                found++;
            }
        }
        return found;
    }

    // ---- III. Statutes and acts

    public int feed(int a, int b, int c, int d, int e) {
        if (!reader.hasRoomFor(20)) {
            return NONE;
        }
        reader.take(a);
        reader.take(b);
        reader.take(c);
        reader.take(d);
        reader.take(e);
        return reader.length;
    }

    public int end(int n) {
        if (!lies(n, 0, reader.length)) {
            return NONE;
        }
        reader.length = n;
        return n;
    }

    public int statute(int author, int minute) {
        if (!isAuthor(author) || !lies(minute, now, LAST_MINUTE) || law.isFull()) {
            return NONE;
        }
        int fault = reader.read(author);
        reader.length = 0;
        return fault == 0 ? law.enact(author, minute) : -2 - fault;
    }

    public int inForce(int statute, int minute) {
        if (!law.has(statute) || !isMinute(minute)) {
            return NONE;
        }
        return law.stands(statute, minute) ? 1 : 0;
    }

    private boolean canAsk(int author, int ship, int x, int y, int minute) {
        return isAuthor(author) && ships.has(ship) && Sea.isCell(x, y) && isMinute(minute);
    }

    private void askOf(int ship, int x, int y, int minute) {
        Arrays.fill(words, 0L);
        words[Law.MINUTE] = minute;
        words[Law.X] = x;
        words[Law.Y] = y;
        words[Law.DEPTH] = sea.depthAt(x, y);
        if (ships.has(ship)) {
            words[Law.SIDE] = ships.sideOf[ship];
            words[Law.KIND] = ships.kindOf[ship];
            words[Law.NET] = ships.meshOf[ship];
            words[Law.SPEED] = ships.speedOf[ship];
        }
    }

    private int findMay(int author, int what, int ship, int x, int y, int minute) {
        askOf(ship, x, y, minute);
        int side = author == COURT ? 0 : author;
        words[Law.INSIDE] = sea.isNear(side, 0, x, y, reachOf(side, minute)) ? 1L : 0L;
        return law.findClause(author, what, minute, words);
    }

    private long meshFor(int author, int ship, int x, int y, int minute) {
        askOf(ship, x, y, minute);
        return law.sumOf(law.findClause(author, Law.MESH, minute, words), words);
    }

    public int may(int author, int what, int ship, int x, int y, int minute) {
        if (!canAsk(author, ship, x, y, minute) || !lies(what, 0, WHATS - 1)) {
            return NONE;
        }
        return law.allows(findMay(author, what, ship, x, y, minute), what) ? 1 : 0;
    }

    public long mesh(int author, int ship, int x, int y, int minute) {
        if (!canAsk(author, ship, x, y, minute)) {
            return 0L;
        }
        return meshFor(author, ship, x, y, minute);
    }

    public int by(int author, int what, int ship, int x, int y, int minute) {
        if (!canAsk(author, ship, x, y, minute) || !lies(what, 0, WHATS - 1)) {
            return NONE;
        }
        return findMay(author, what, ship, x, y, minute);
    }

    public int act(int ship, int what, int x, int y, int minute) {
        if (actsTold >= ACTS || !ships.has(ship) || !lies(what, 0, WHATS - 1)
                || !Sea.isCell(x, y) || !lies(minute, 0, now)) {
            return NONE;
        }
        int at = actsTold * 5;
        acts[at] = ship;
        acts[at + 1] = what;
        acts[at + 2] = x;
        acts[at + 3] = y;
        acts[at + 4] = minute;
        actsTold++;
        return actsTold - 1;
    }

    private boolean isKept(int act, int author) {
        int at = act * 5;
        if (!lies(at, 0, acts.length - 5)) {
            return false;
        }
        int ship = acts[at];
        int what = acts[at + 1];
        int x = acts[at + 2];
        int y = acts[at + 3];
        int minute = acts[at + 4];
        if (!ships.has(ship) || !law.allows(findMay(author, what, ship, x, y, minute), what)) {
            return false;
        }
        return what != FISH || ships.meshOf[ship] >= meshFor(author, ship, x, y, minute);
    }

    public int kept(int act, int author) {
        if (!lies(act, 0, actsTold - 1) || !isAuthor(author)) {
            return NONE;
        }
        return isKept(act, author) ? 1 : 0;
    }

    public int broken(int side, int author) {
        if (!isSide(side) || !isAuthor(author)) {
            return NONE;
        }
        int found = 0;
        for (int i = 0; i < actsTold; i++) {
            int ship = acts[i * 5];
            if (ships.has(ship) && ships.sideOf[ship] == side && !isKept(i, author)) {
                found++;
            }
        }
        return found;
    }

    // ---- IV. The hook

    public int hook(int w, int h, int trawler, int warder, int frigate, int n) {
        if (!lies(w, 1, Hook.LONGEST) || !lies(h, 1, Hook.LONGEST) || !lies(n, 0, 8)) {
            return NONE;
        }
        int last = w * h - 1;
        if (!lies(trawler, 0, last) || !lies(warder, 0, last) || !lies(frigate, NONE, last)
                || warder == frigate) {
            return NONE;
        }
        game.lay(w, h, frigate != NONE);
        return game.play(trawler, warder, frigate, n);
    }

    public int hooks() {
        return game.firstMove;
    }

    // ---- V. Giving way

    public int way(int a, int b, int minute, int known) {
        if (!ships.has(a) || !ships.has(b) || a == b || !lies(minute, 1, LAST_MINUTE)
                || !isMinute(known)) {
            return NONE;
        }
        int aWas = reports.cellOf(a, minute - 1, known);
        int aIs = reports.cellOf(a, minute, known);
        int bWas = reports.cellOf(b, minute - 1, known);
        int bIs = reports.cellOf(b, minute, known);
        if (aWas == NONE || aIs == NONE || bWas == NONE || bIs == NONE) {
            return NEVER;
        }
        boolean aOvertakes = overtakes(aWas, aIs, bWas, bIs);
        boolean bOvertakes = overtakes(bWas, bIs, aWas, aIs);
        boolean aHasTo = !bOvertakes && (aOvertakes || isToTheRight(aWas, aIs, bWas));
        boolean bHasTo = !aOvertakes && (bOvertakes || isToTheRight(bWas, bIs, aWas));
        return (aHasTo ? 1 : 0) + (bHasTo ? 2 : 0);
    }

    private static boolean overtakes(int was, int is, int otherWas, int otherIs) {
        int u = Sea.xOf(is) - Sea.xOf(was);
        int v = Sea.yOf(is) - Sea.yOf(was);
        int otherU = Sea.xOf(otherIs) - Sea.xOf(otherWas);
        int otherV = Sea.yOf(otherIs) - Sea.yOf(otherWas);
        int p = Sea.xOf(was) - Sea.xOf(otherWas);
        int q = Sea.yOf(was) - Sea.yOf(otherWas);
        return u * otherU + v * otherV > 0 && p * otherU + q * otherV < 0;
    }

    /** A ship that lies still has nothing to its right: its course makes the product 0. */
    private static boolean isToTheRight(int was, int is, int otherWas) {
        int u = Sea.xOf(is) - Sea.xOf(was);
        int v = Sea.yOf(is) - Sea.yOf(was);
        int p = Sea.xOf(otherWas) - Sea.xOf(was);
        int q = Sea.yOf(otherWas) - Sea.yOf(was);
        return u * q - v * p > 0;
    }

    // ---- VI. Stocks and meshes

    public boolean office(int office, int begin, int loss) {
        if (!lies(office, 0, 1) || !lies(begin, 0, 99999999) || !lies(loss, 0, 1000)) {
            return false;
        }
        stocks.beginOf[office] = begin;
        stocks.lossOf[office] = loss;
        return true;
    }

    public int year(int office, int year, int n) {
        if (!lies(office, 0, 2) || !Stocks.isYear(year) || !lies(n, 0, 9999999)) {
            return NONE;
        }
        return stocks.changeYear(office, year, n);
    }

    public long stock(int office, int year) {
        if (!lies(office, 0, 1) || !Stocks.isYear(year)) {
            return NONE;
        }
        return stocks.stockWith(office, year, stocks.lossOf[office]);
    }

    public int fails(int office) {
        if (!lies(office, 0, 1)) {
            return NONE;
        }
        return stocks.failsIn(office);
    }

    public int agree(int office, int year) {
        if (!lies(office, 0, 1) || !Stocks.isYear(year)) {
            return NONE;
        }
        long other = stocks.stockWith(1 - office, year, stocks.lossOf[1 - office]);
        return stocks.nearestLoss(office, year, other);
    }

    public boolean age(int age, int many, int length, int worth) {
        if (!lies(age, 0, Stocks.AGES - 1) || !lies(many, 0, 999999) || !lies(length, 0, 199)
                || !lies(worth, 0, 999)) {
            return false;
        }
        stocks.manyOf[age] = many;
        stocks.lengthOf[age] = length;
        stocks.worthOf[age] = worth;
        return true;
    }

    private static boolean canFish(int mesh, int effort, int loss, int newcomers) {
        return lies(mesh, 0, 199) && lies(effort, 0, 1000) && lies(loss, 0, 1000)
                && lies(newcomers, 0, 999999);
    }

    public long landed(int years, int mesh, int effort, int loss, int newcomers) {
        if (!lies(years, 1, Stocks.FISHED_YEARS) || !canFish(mesh, effort, loss, newcomers)) {
            return NONE;
        }
        return stocks.landedBy(years, mesh, effort, loss, newcomers);
    }

    public int pays(int a, int b, int effort, int loss, int newcomers) {
        if (!canFish(a, effort, loss, newcomers) || !canFish(b, effort, loss, newcomers)) {
            return NONE;
        }
        return stocks.paysFrom(a, b, effort, loss, newcomers);
    }

    // ---- VII. Towns and notes

    public int town(int side, int votes, int patience, int coins) {
        if (!isSide(side) || !lies(votes, 0, 9999) || !lies(patience, 0, 9999999)
                || !lies(coins, 0, 99999)) {
            return NONE;
        }
        return towns.add(side, votes, patience, coins);
    }

    public int bar(int town, int a, int b) {
        if (!towns.has(town) || !Towns.isWeek(a) || !Towns.isWeek(b) || a > b) {
            return NONE;
        }
        return towns.addBar(town, a, b);
    }

    public int lost(int town, int week) {
        if (!towns.has(town) || !Towns.isWeek(week)) {
            return NONE;
        }
        return towns.lostBy(town, week);
    }

    public int yields(int town) {
        return towns.has(town) ? towns.weekOf(town) : NONE;
    }

    public int sideYields(int side) {
        return isSide(side) ? towns.weekOfSide(side) : NONE;
    }

    public int term(int a, int b) {
        if (!lies(a, -9999, 9999) || !lies(b, -9999, 9999)) {
            return NONE;
        }
        return note.add(a, b);
    }

    public int sign(int a, int b) {
        if (!lies(a, -99999, 99999) || !lies(b, -99999, 99999)) {
            return NONE;
        }
        return note.bestSet(a, b);
    }

    // ---- VIII. Boxes

    public int box(int fish, int crowd, int risk) {
        if (!lies(fish, 0, 9999) || !lies(crowd, 0, 999) || !lies(risk, 0, 99)) {
            return NONE;
        }
        return boxes.add(fish, crowd, risk);
    }

    public int escort(int trawlers, int frigates) {
        if (!lies(trawlers, 0, Boxes.TRAWLERS) || !lies(frigates, 0, Boxes.FRIGATES)) {
            return NONE;
        }
        if (boxes.size == 0 && (trawlers > 0 || frigates > 0)) {
            return NEVER;
        }
        return boxes.give(trawlers, frigates);
    }

    public int escorts(int what) {
        return boxes.given(what);
    }

    public int count(int what) {
        switch (what) {
            case 0: return now;
            case 1: return ships.size;
            case 2: return reports.size;
            case 3: return sea.pointsOf[0];
            case 4: return sea.pointsOf[1];
            case 5: return law.size;
            case 6: return actsTold;
            case 7: return towns.size;
            case 8: return towns.bars;
            case 9: return note.size;
            case 10: return boxes.size;
            case 11: return reader.length;
            default: return NONE;
        }
    }

    /** CELLS with their DEPTHS, and the POINTS that the lines are drawn from. */
    private static final class Sea {
        static final int WIDTH = 24;
        static final int POINTS = 16;

        final int[] depths = new int[WIDTH * WIDTH];
        /** POINTS of both SIDES, those of SIDE 1 behind the room for those of SIDE 0. */
        final int[] pointX = new int[SIDES * POINTS];
        final int[] pointY = new int[SIDES * POINTS];
        final int[] pointsOf = new int[SIDES];
        int movedX;
        int movedY;

        static boolean isCell(int x, int y) {
            return lies(x, 0, WIDTH - 1) && lies(y, 0, WIDTH - 1);
        }

        static int xOf(int cell) {
            return cell % WIDTH;
        }

        static int yOf(int cell) {
            return cell / WIDTH;
        }

        int depthAt(int x, int y) {
            return isCell(x, y) ? depths[WIDTH * y + x] : 0;
        }

        int changeDepth(int x, int y, int depth) {
            if (!isCell(x, y)) {
                return NONE;
            }
            int was = depths[WIDTH * y + x];
            depths[WIDTH * y + x] = depth;
            return was;
        }

        int addPoint(int side, int x, int y) {
            if (!isSide(side) || pointsOf[side] >= POINTS) {
                return NONE;
            }
            int number = pointsOf[side];
            pointX[side * POINTS + number] = x;
            pointY[side * POINTS + number] = y;
            pointsOf[side] = number + 1;
            return number;
        }

        boolean isNear(int side, int chart, int x, int y, int reach) {
            if (!isSide(side)) {
                return false;
            }
            int first = side * POINTS;
            for (int i = first; i < first + pointsOf[side]; i++) {
                int dx = x - pointX[i] - (chart == 1 ? movedX : 0);
                int dy = y - pointY[i] - (chart == 1 ? movedY : 0);
                if (dx * dx + dy * dy <= reach * reach) {
                    return true;
                }
            }
            return false;
        }
    }

    private static final class Ships {
        static final int MOST = 40;

        final int[] sideOf = new int[MOST];
        final int[] kindOf = new int[MOST];
        final int[] speedOf = new int[MOST];
        final int[] meshOf = new int[MOST];
        int size;

        boolean has(int ship) {
            return ship >= 0 && ship < size;
        }

        int add(int side, int kind, int speed, int mesh) {
            if (size >= MOST) {
                return NONE;
            }
            sideOf[size] = side;
            kindOf[size] = kind;
            speedOf[size] = speed;
            meshOf[size] = mesh;
            size++;
            return size - 1;
        }
    }

    /** REPORTS, and THE CHAIN that was found last. */
    private static final class Reports {
        static final int MOST = 300;

        final int[] tellerOf = new int[MOST];
        final int[] shipOf = new int[MOST];
        final int[] minuteOf = new int[MOST];
        final int[] xOf = new int[MOST];
        final int[] yOf = new int[MOST];
        final int[] knownFrom = new int[MOST];
        /** All REPORTS by MINUTES, those of one MINUTE by numbers. */
        final int[] order = new int[MOST];
        int size;
        /** While a chain is sought: the REPORTS of its SHIP in order, and how many can follow from each. */
        final int[] picked = new int[MOST];
        final int[] longest = new int[MOST];
        final int[] links = new int[MOST];
        int linked;

        int add(int by, int of, int minute, int x, int y, int now) {
            if (size >= MOST) {
                return NONE;
            }
            tellerOf[size] = by;
            shipOf[size] = of;
            minuteOf[size] = minute;
            xOf[size] = x;
            yOf[size] = y;
            knownFrom[size] = now;
            putInOrder(size, minute);
            size++;
            return size - 1;
        }

        private void putInOrder(int number, int minute) {
            int place = number;
            while (place > 0 && minuteAt(place - 1) > minute) {
                order[place] = order[place - 1];
                place--;
            }
            order[place] = number;
        }

        private int minuteAt(int place) {
            int r = order[place];
            return lies(r, 0, MOST - 1) ? minuteOf[r] : 0;
        }

        int cellOf(int ship, int minute, int known) {
            for (int i = size - 1; i >= 0; i--) {
                int r = order[i];
                if (lies(r, 0, size - 1) && shipOf[r] == ship && tellerOf[r] == ship
                        && minuteOf[r] <= minute && knownFrom[r] <= known) {
                    return Sea.WIDTH * yOf[r] + xOf[r];
                }
            }
            return NONE;
        }

        int findChain(int ship, int speed, int known) {
            int n = pick(ship, known);
            int most = measure(n, speed);
            follow(n, speed, most);
            return linked;
        }

        private int pick(int ship, int known) {
            int n = 0;
            for (int i = 0; i < size; i++) {
                int r = order[i];
                if (lies(r, 0, size - 1) && shipOf[r] == ship && knownFrom[r] <= known) {
                    picked[n] = r;
                    n++;
                }
            }
            return n;
        }

        /**
         * Ways add up, so in order REPORTS can all be if each CAN BOTH BE with the next one:
         * the longest run from each on, told from the last one back, is enough.
         */
        private int measure(int n, int speed) {
            int most = 0;
            for (int i = n - 1; i >= 0; i--) {
                int behind = 0;
                for (int j = i + 1; j < n; j++) {
                    if (longest[j] > behind && canBothBe(picked[i], picked[j], speed)) {
                        behind = longest[j];
                    }
                }
                longest[i] = behind + 1;
                most = Math.max(most, longest[i]);
            }
            return most;
        }

        private void follow(int n, int speed, int most) {
            linked = 0;
            for (int i = 0; i < n && linked < most; i++) {
                if (longest[i] == most - linked
                        && (linked == 0 || canBothBe(links[linked - 1], picked[i], speed))) {
                    links[linked] = picked[i];
                    linked++;
                }
            }
        }

        private boolean canBothBe(int a, int b, int speed) {
            if (!lies(a, 0, size - 1) || !lies(b, 0, size - 1)) {
                return false;
            }
            int way = Math.max(Math.abs(xOf[a] - xOf[b]), Math.abs(yOf[a] - yOf[b]));
            return way <= speed * Math.abs(minuteOf[a] - minuteOf[b]);
        }

        int inChain(int k) {
            return k >= 0 && k < linked ? links[k] : NONE;
        }
    }

    /**
     * STATUTES as the Reader found them: CLAUSES, and their SUMS and TESTS as code in which
     * operations stand behind what they work on. A statute that is being read stands behind the
     * others and counts only when it is enacted.
     */
    private static final class Law {
        static final int MOST = 12;
        static final int CLAUSES = 12;
        static final int BYTES = 400;

        /** THINGS: 0 to 4 are the WHATS. */
        static final int REACH = 5;
        static final int MESH = 6;
        static final int STRIKE = 7;

        static final int WORDS = 9;
        static final int MINUTE = 0;
        static final int X = 1;
        static final int Y = 2;
        static final int DEPTH = 3;
        static final int SIDE = 4;
        static final int KIND = 5;
        static final int NET = 6;
        static final int SPEED = 7;
        static final int INSIDE = 8;

        /** Code: NUMBERS as they are, WORD w as -1 - w, operations below all of these. */
        static final int NOT = -10;
        static final int AND = -11;
        static final int OR = -12;
        static final int ADD = -13;
        static final int LESSEN = -14;
        static final int TIMES = -15;
        static final int LESS = -16;
        static final int AT_MOST = -17;
        static final int EQUAL = -18;
        static final int AT_LEAST = -19;
        static final int MORE = -20;

        static final int ALWAYS = 0;
        static final int IF = 1;
        static final int UNLESS = 2;

        /** At most 80 values stand in a statute, so no more can wait at once. */
        static final int WAITING = 96;

        int size;
        final int[] authorOf = new int[MOST];
        final int[] from = new int[MOST];
        /** The first MINUTE in which a STATUTE is struck. */
        final int[] struckFrom = new int[MOST];
        /** STATUTES from the latest MINUTE on, of one MINUTE the one told last ahead. */
        final int[] order = new int[MOST];
        final int[] clausesOf = new int[MOST];
        /** Grows with the statutes, since few objects ever hold twelve long ones. */
        int[] code = new int[BYTES];
        int codeKept;
        int codeRead;
        /** CLAUSES, twelve places for each STATUTE. */
        final int[] thingOf = new int[MOST * CLAUSES];
        final int[] saysOf = new int[MOST * CLAUSES];
        final int[] condOf = new int[MOST * CLAUSES];
        final int[] sumAt = new int[MOST * CLAUSES];
        final int[] condAt = new int[MOST * CLAUSES];
        final int[] endAt = new int[MOST * CLAUSES];
        final long[] waiting = new long[WAITING];

        boolean has(int statute) {
            return statute >= 0 && statute < size;
        }

        boolean isFull() {
            return size >= MOST;
        }

        boolean isOf(int statute, int author) {
            return has(statute) && authorOf[statute] == author;
        }

        /** Each part of the code stands for a byte of its own, so this room is enough. */
        void beginReading() {
            codeRead = codeKept;
            if (code.length < codeKept + BYTES) {
                code = Arrays.copyOf(code, Math.max(0, codeKept) + BYTES);
            }
            if (size < MOST) {
                clausesOf[size] = 0;
            }
        }

        int clausesRead() {
            return size < MOST ? clausesOf[size] : CLAUSES;
        }

        private int clauseBeingRead() {
            return size * CLAUSES + clausesRead();
        }

        void beginClause(int thing, int says) {
            if (clausesRead() < CLAUSES) {
                int c = clauseBeingRead();
                thingOf[c] = thing;
                saysOf[c] = says;
                condOf[c] = ALWAYS;
                sumAt[c] = codeRead;
            }
        }

        void beginCond() {
            if (clausesRead() < CLAUSES) {
                condAt[clauseBeingRead()] = codeRead;
            }
        }

        void setCond(int cond) {
            if (clausesRead() < CLAUSES) {
                condOf[clauseBeingRead()] = cond;
            }
        }

        void endClause() {
            if (clausesRead() < CLAUSES) {
                endAt[clauseBeingRead()] = codeRead;
                clausesOf[size]++;
            }
        }

        void emit(int operation) {
            if (codeRead < code.length) {
                code[codeRead] = operation;
                codeRead++;
            }
        }

        int enact(int author, int minute) {
            if (size >= MOST) {
                return NONE;
            }
            authorOf[size] = author;
            from[size] = minute;
            struckFrom[size] = LAST_MINUTE + 1;
            codeKept = codeRead;
            putInOrder(minute);
            strikeOthers(minute);
            size++;
            return size - 1;
        }

        private void putInOrder(int minute) {
            int place = size;
            while (place > 0 && minuteAt(place - 1) <= minute) {
                order[place] = order[place - 1];
                place--;
            }
            order[place] = size;
        }

        private int minuteAt(int place) {
            int s = order[place];
            return lies(s, 0, MOST - 1) ? from[s] : 0;
        }

        private void strikeOthers(int minute) {
            int first = size * CLAUSES;
            for (int c = first; c < first + clausesOf[size]; c++) {
                if (thingOf[c] == STRIKE && has(saysOf[c])) {
                    int s = saysOf[c];
                    struckFrom[s] = Math.min(struckFrom[s], minute);
                }
            }
        }

        boolean stands(int statute, int minute) {
            return has(statute) && from[statute] <= minute && minute < struckFrom[statute];
        }

        /** 16 * STATUTE + the place of the CLAUSE by which an AUTHOR tells a THING; NONE. */
        int findClause(int author, int thing, int minute, long[] words) {
            for (int i = 0; i < size; i++) {
                int s = order[i];
                if (!isOf(s, author) || !stands(s, minute)) {
                    continue;
                }
                for (int c = 0; c < clausesOf[s]; c++) {
                    if (thingOf[s * CLAUSES + c] == thing && holds(s * CLAUSES + c, words)) {
                        return 16 * s + c;
                    }
                }
            }
            return NONE;
        }

        private boolean holds(int c, long[] words) {
            if (condOf[c] == ALWAYS) {
                return true;
            }
            boolean is = valueOf(condAt[c], endAt[c], words) != 0L;
            return is == (condOf[c] == IF);
        }

        /** Whether a WHAT is allowed by the CLAUSE that was found for it, or without one. */
        boolean allows(int clause, int what) {
            int s = clause / 16;
            int c = clause % 16;
            if (clause < 0 || !has(s) || c >= CLAUSES) {
                return what == 0 || what == 4;
            }
            return saysOf[s * CLAUSES + c] == 1;
        }

        /** The SUM of a CLAUSE that was found; 0 if none was. */
        long sumOf(int clause, long[] words) {
            int s = clause / 16;
            int c = clause % 16;
            if (clause < 0 || !has(s) || c >= CLAUSES) {
                return 0L;
            }
            return valueOf(sumAt[s * CLAUSES + c], condAt[s * CLAUSES + c], words);
        }

        private long valueOf(int begin, int end, long[] words) {
            int top = 0;
            for (int i = Math.max(0, begin); i < end && i < code.length; i++) {
                int operation = code[i];
                if (operation > NOT) {
                    if (top >= WAITING) {
                        return 0L;
                    }
                    waiting[top] = operation >= 0 ? operation : wordOf(operation, words);
                    top++;
                } else if (operation == NOT) {
                    if (top < 1) {
                        return 0L;
                    }
                    waiting[top - 1] = waiting[top - 1] == 0L ? 1L : 0L;
                } else {
                    if (top < 2) {
                        return 0L;
                    }
                    top--;
                    waiting[top - 1] = join(operation, waiting[top - 1], waiting[top]);
                }
            }
            return top == 1 ? waiting[0] : 0L;
        }

        private static long wordOf(int operation, long[] words) {
            int word = -1 - operation;
            return word >= 0 && word < words.length ? words[word] : 0L;
        }

        private static long join(int operation, long a, long b) {
            switch (operation) {
                case ADD: return a + b;
                case LESSEN: return a - b;
                case TIMES: return a * b;
                case AND: return a & b;
                case OR: return a | b;
                case LESS: return a < b ? 1L : 0L;
                case AT_MOST: return a <= b ? 1L : 0L;
                case EQUAL: return a == b ? 1L : 0L;
                case AT_LEAST: return a >= b ? 1L : 0L;
                case MORE: return a > b ? 1L : 0L;
                default: return 0L;
            }
        }
    }

    /** The TAPE, and how a text on it becomes a STATUTE: each method reads what the grammar names so. */
    private static final class Reader {
        static final int DEEPEST = 10;
        static final int VALUES = 80;
        static final int DIGITS = 5;

        /** Tokens: the byte itself for a sign, or one of these. */
        static final int END = -1;
        static final int WORD = -2;
        static final int NUMBER = -3;
        /** What < and > become with an = at once behind them. */
        static final int WITH_EQUAL = 256;

        static final int BAD = 0;
        static final int NO_SUCH = 1;
        static final int DEEP = 2;
        static final int MANY = 3;
        static final int THIRTEENTH = 4;

        final Law law;
        final int[] tape = new int[Law.BYTES];
        int length;
        int at;
        int token;
        int tokenAt;
        int number;
        int digits;
        int values;
        int fault;

        Reader(Law law) {
            this.law = law;
        }

        boolean hasRoomFor(int bytes) {
            return length + bytes <= tape.length;
        }

        void take(int four) {
            for (int shift = 24; shift >= 0; shift -= 8) {
                if (length < tape.length) {
                    tape[length] = (four >>> shift) & 255;
                    length++;
                }
            }
        }

        /** Reads the TAPE as a STATUTE of an AUTHOR into the law: its FAULT, or 0. */
        int read(int author) {
            at = 0;
            values = 0;
            fault = 0;
            law.beginReading();
            advance();
            readClause(author);
            for (int i = 0; i < Law.CLAUSES && fault == 0 && token == ';'; i++) {
                advance();
                readClause(author);
            }
            if (token != END) {
                fail(BAD);
            }
            return fault;
        }

        /** Only the first fault counts: behind it nothing is read any more. */
        private void fail(int kind) {
            if (fault == 0) {
                fault = 1 + 8 * tokenAt + kind;
            }
        }

        private void readClause(int author) {
            int thing = isWord("reach") ? Law.REACH : isWord("mesh") ? Law.MESH
                    : isWord("strike") ? Law.STRIKE : NONE;
            int says = isWord("may") ? 1 : 0;
            if (thing == NONE && says == 0 && !isWord("not")) {
                fail(BAD);
                return;
            }
            if (law.clausesRead() >= Law.CLAUSES) {
                fail(THIRTEENTH);
                return;
            }
            advance();
            if (thing == Law.STRIKE) {
                readStruck(author);
            } else if (thing == NONE) {
                readWhat(says);
            } else {
                law.beginClause(thing, 0);
                readSum(0);
            }
            law.beginCond();
            if (thing != Law.STRIKE) {
                readCond();
            }
            law.endClause();
        }

        private void readStruck(int author) {
            if (token != NUMBER) {
                fail(BAD);
            } else if (digits > DIGITS || !law.isOf(number, author)) {
                fail(NO_SUCH);
            } else {
                law.beginClause(Law.STRIKE, number);
                advance();
            }
        }

        private void readWhat(int says) {
            int what = isWord("fish") ? 0 : isWord("stop") ? 1 : isWord("cut") ? 2
                    : isWord("lean") ? 3 : isWord("land") ? 4 : NONE;
            if (what == NONE) {
                fail(BAD);
                return;
            }
            law.beginClause(what, says);
            advance();
        }

        private void readCond() {
            int cond = isWord("if") ? Law.IF : isWord("unless") ? Law.UNLESS : Law.ALWAYS;
            if (fault != 0 || cond == Law.ALWAYS) {
                return;
            }
            law.setCond(cond);
            advance();
            readTest(0);
        }

        private void readTest(int deep) {
            readPart(deep);
            for (int i = 0; i < Law.BYTES && fault == 0 && isWord("or"); i++) {
                advance();
                readPart(deep);
                law.emit(Law.OR);
            }
        }

        private void readPart(int deep) {
            readFact(deep);
            for (int i = 0; i < Law.BYTES && fault == 0 && isWord("and"); i++) {
                advance();
                readFact(deep);
                law.emit(Law.AND);
            }
        }

        private void readFact(int deep) {
            if (isWord("no")) {
                if (goesDeeper(deep)) {
                    advance();
                    readFact(deep + 1);
                    law.emit(Law.NOT);
                }
            } else if (token == '[') {
                if (goesDeeper(deep)) {
                    advance();
                    readTest(deep + 1);
                    readClosing(']');
                }
            } else {
                readComparison(deep);
            }
        }

        private void readComparison(int deep) {
            readSum(deep);
            int comparison = comparisonOf(token);
            if (fault != 0) {
                return;
            }
            if (comparison == NONE) {
                fail(BAD);
            } else if (countsOneMore()) {
                advance();
                readSum(deep);
                law.emit(comparison);
            }
        }

        private static int comparisonOf(int token) {
            switch (token) {
                case '<': return Law.LESS;
                case '<' + WITH_EQUAL: return Law.AT_MOST;
                case '=': return Law.EQUAL;
                case '>' + WITH_EQUAL: return Law.AT_LEAST;
                case '>': return Law.MORE;
                default: return NONE;
            }
        }

        private void readSum(int deep) {
            readProduct(deep);
            for (int i = 0; i < Law.BYTES && fault == 0 && (token == '+' || token == '-'); i++) {
                int operation = token == '+' ? Law.ADD : Law.LESSEN;
                advance();
                readProduct(deep);
                law.emit(operation);
            }
        }

        private void readProduct(int deep) {
            readValue(deep);
            for (int i = 0; i < Law.BYTES && fault == 0 && token == '*'; i++) {
                advance();
                readValue(deep);
                law.emit(Law.TIMES);
            }
        }

        /** The tests stand by the kinds of fault, so that of one place the least is told. */
        private void readValue(int deep) {
            int word = wordNumber();
            if (fault != 0) {
                return;
            }
            if (token != NUMBER && token != '(' && word == NONE) {
                fail(BAD);
            } else if (token == NUMBER && digits > DIGITS) {
                fail(NO_SUCH);
            } else if (token == '(') {
                if (goesDeeper(deep) && countsOneMore()) {
                    advance();
                    readSum(deep + 1);
                    readClosing(')');
                }
            } else if (countsOneMore()) {
                law.emit(token == NUMBER ? number : -1 - word);
                advance();
            }
        }

        private boolean goesDeeper(int deep) {
            if (fault == 0 && deep >= DEEPEST) {
                fail(DEEP);
            }
            return fault == 0;
        }

        private boolean countsOneMore() {
            if (fault == 0 && values >= VALUES) {
                fail(MANY);
            }
            values++;
            return fault == 0;
        }

        private void readClosing(int sign) {
            if (fault != 0) {
                return;
            }
            if (token == sign) {
                advance();
            } else {
                fail(BAD);
            }
        }

        private int wordNumber() {
            if (token != WORD) {
                return NONE;
            }
            return isWord("minute") ? Law.MINUTE : isWord("x") ? Law.X : isWord("y") ? Law.Y
                    : isWord("depth") ? Law.DEPTH : isWord("side") ? Law.SIDE
                    : isWord("kind") ? Law.KIND : isWord("net") ? Law.NET
                    : isWord("speed") ? Law.SPEED : isWord("inside") ? Law.INSIDE : NONE;
        }

        private boolean isWord(String word) {
            if (token != WORD || at - tokenAt != word.length()) {
                return false;
            }
            for (int i = 0; i < word.length(); i++) {
                if (byteAt(tokenAt + i) != word.charAt(i)) {
                    return false;
                }
            }
            return true;
        }

        private int byteAt(int place) {
            return place >= 0 && place < length && place < tape.length ? tape[place] : END;
        }

        private void advance() {
            while (at < length && byteAt(at) == ' ') {
                at++;
            }
            tokenAt = at;
            int first = byteAt(at);
            if (lies(first, 'a', 'z')) {
                token = WORD;
                while (at < length && lies(byteAt(at), 'a', 'z')) {
                    at++;
                }
            } else if (lies(first, '0', '9')) {
                token = NUMBER;
                number = 0;
                digits = 0;
                while (at < length && lies(byteAt(at), '0', '9')) {
                    number = digits < DIGITS ? number * 10 + byteAt(at) - '0' : number;
                    digits++;
                    at++;
                }
            } else if (first == END) {
                token = END;
            } else {
                at++;
                token = first;
                if ((first == '<' || first == '>') && byteAt(at) == '=') {
                    at++;
                    token = first + WITH_EQUAL;
                }
            }
        }
    }

    /**
     * THE HOOK, told for all places of warder and frigate at once: a row has for each pair of
     * them the CELLS (as bits) in which a trawler is hooked in time.
     */
    private static final class Hook {
        static final int LONGEST = 5;
        static final int CELLS = LONGEST * LONGEST;
        /** Where a frigate is that is not there. */
        static final int AWAY = CELLS;
        /** Up, left, none, right, down: so a CELL's neighbours come by their numbers. */
        static final int WAYS = 5;

        int width;
        int cells;
        int firstFrigate;
        int lastFrigate;
        int all;
        /** All CELLS but those of the first, and of the last column. */
        int notFirst;
        int notLast;
        final int[] neighbours = new int[(CELLS + 1) * WAYS];
        /** Hooked with the warder to go, with the frigate to go, with the trawler to go. */
        final int[] atWarder = new int[(CELLS + 1) * CELLS];
        final int[] atFrigate = new int[(CELLS + 1) * CELLS];
        final int[] atTrawler = new int[(CELLS + 1) * CELLS];
        int firstMove = NONE;

        void lay(int w, int h, boolean withFrigate) {
            width = w;
            cells = Math.min(w * h, CELLS);
            all = (1 << cells) - 1;
            notFirst = 0;
            notLast = 0;
            firstFrigate = withFrigate ? 0 : AWAY;
            lastFrigate = withFrigate ? cells - 1 : AWAY;
            Arrays.fill(neighbours, NONE);
            neighbours[AWAY * WAYS + 2] = AWAY;
            for (int y = 0; y < h; y++) {
                for (int x = 0; x < w; x++) {
                    layCell(x, y, h);
                }
            }
        }

        private void layCell(int x, int y, int h) {
            int cell = width * y + x;
            if (!lies(cell, 0, CELLS - 1)) {
                return;
            }
            notFirst |= x > 0 ? 1 << cell : 0;
            notLast |= x < width - 1 ? 1 << cell : 0;
            neighbours[cell * WAYS] = y > 0 ? cell - width : NONE;
            neighbours[cell * WAYS + 1] = x > 0 ? cell - 1 : NONE;
            neighbours[cell * WAYS + 2] = cell;
            neighbours[cell * WAYS + 3] = x < width - 1 ? cell + 1 : NONE;
            neighbours[cell * WAYS + 4] = y < h - 1 ? cell + width : NONE;
        }

        int play(int trawler, int warder, int frigate, int n) {
            if (trawler == warder) {
                return 0;
            }
            int f = frigate == NONE ? AWAY : frigate;
            beginRows();
            for (int minute = 1; minute <= n; minute++) {
                moveTrawler();
                moveFrigate();
                moveWarder();
                if (has(atWarder, warder, f, trawler)) {
                    firstMove = leastMove(trawler, warder, f);
                    return minute;
                }
            }
            return NEVER;
        }

        private void beginRows() {
            for (int f = firstFrigate; f <= lastFrigate; f++) {
                for (int w = 0; w < cells; w++) {
                    atWarder[f * CELLS + w] = 1 << w;
                }
            }
        }

        /** The trawler is lost only if it is so wherever it goes: it goes to what is free, if it can. */
        private void moveTrawler() {
            for (int f = firstFrigate; f <= lastFrigate; f++) {
                for (int w = 0; w < cells; w++) {
                    int free = all & ~atWarder[f * CELLS + w];
                    int canGetFree = free | free << width | free >>> width
                            | (free & notLast) << 1 | (free & notFirst) >>> 1;
                    atTrawler[f * CELLS + w] = all & ~canGetFree;
                }
            }
        }

        private void moveFrigate() {
            for (int f = firstFrigate; f <= lastFrigate; f++) {
                for (int w = 0; w < cells; w++) {
                    int hooked = all;
                    for (int i = 0; i < WAYS; i++) {
                        int to = neighbours[f * WAYS + i];
                        if (to != w && lies(to, firstFrigate, lastFrigate)) {
                            hooked &= atTrawler[to * CELLS + w];
                        }
                    }
                    atFrigate[f * CELLS + w] = hooked | 1 << w;
                }
            }
        }

        private void moveWarder() {
            for (int f = firstFrigate; f <= lastFrigate; f++) {
                for (int w = 0; w < cells; w++) {
                    int hooked = 1 << w;
                    for (int i = 0; i < WAYS; i++) {
                        int to = neighbours[w * WAYS + i];
                        if (to != f && lies(to, 0, cells - 1)) {
                            hooked |= atFrigate[f * CELLS + to];
                        }
                    }
                    atWarder[f * CELLS + w] = hooked;
                }
            }
        }

        private static boolean has(int[] row, int warder, int frigate, int trawler) {
            int place = frigate * CELLS + warder;
            return lies(place, 0, row.length - 1) && (row[place] >>> trawler & 1) == 1;
        }

        private int leastMove(int trawler, int warder, int frigate) {
            for (int i = 0; i < WAYS; i++) {
                int place = warder * WAYS + i;
                int to = lies(place, 0, neighbours.length - 1) ? neighbours[place] : NONE;
                if (to != NONE && to != frigate && has(atFrigate, to, frigate, trawler)) {
                    return to;
                }
            }
            return NONE;
        }
    }

    /** The stock as two OFFICES reckon it, and the AGES of fish that a MESH lets through. */
    private static final class Stocks {
        static final int YEARS = 40;
        static final int CATCHES = 2;
        static final int AGES = 8;
        static final int FISHED_YEARS = 30;
        static final int MOST_LOSS = 1000;

        final int[] beginOf = new int[2];
        final int[] lossOf = new int[2];
        /** RECRUITS by OFFICE 0, by OFFICE 1, then CATCHES, a row of YEARS each. */
        final int[] told = new int[3 * YEARS];
        final int[] manyOf = new int[AGES];
        final int[] lengthOf = new int[AGES];
        final int[] worthOf = new int[AGES];
        /** The fish of each AGE while YEARS go by, for one MESH and for another. */
        final long[] fish = new long[AGES];
        final long[] otherFish = new long[AGES];

        static boolean isYear(int year) {
            return lies(year, 0, YEARS - 1);
        }

        int changeYear(int row, int year, int n) {
            if (!lies(row, 0, CATCHES) || !isYear(year)) {
                return NONE;
            }
            int was = told[row * YEARS + year];
            told[row * YEARS + year] = n;
            return was;
        }

        private int toldOf(int row, int year) {
            return lies(row, 0, CATCHES) && isYear(year) ? told[row * YEARS + year] : 0;
        }

        private long nextStock(int office, int year, int loss, long stock) {
            long left = Math.max(0L, stock - toldOf(CATCHES, year));
            return left * (1000 - loss) / 1000 + toldOf(office, year);
        }

        long stockWith(int office, int year, int loss) {
            if (!lies(office, 0, 1)) {
                return NONE;
            }
            long stock = beginOf[office];
            for (int y = 0; y < year; y++) {
                stock = nextStock(office, y, loss, stock);
            }
            return stock;
        }

        int failsIn(int office) {
            if (!lies(office, 0, 1)) {
                return NONE;
            }
            long stock = beginOf[office];
            for (int y = 0; y < YEARS; y++) {
                if (toldOf(CATCHES, y) > stock) {
                    return y;
                }
                stock = nextStock(office, y, lossOf[office], stock);
            }
            return NEVER;
        }

        /** With a greater LOSS a STOCK is never greater, so only the two next to the aim count. */
        int nearestLoss(int office, int year, long aim) {
            int below = leastLoss(office, year, aim);
            if (below == 0) {
                return 0;
            }
            long more = stockWith(office, year, below - 1);
            long less = stockWith(office, year, Math.min(below, MOST_LOSS));
            if (below <= MOST_LOSS && aim - less < more - aim) {
                return below;
            }
            return leastLoss(office, year, more);
        }

        /** The least LOSS with which a STOCK is not above a limit; one above all of them if none is. */
        private int leastLoss(int office, int year, long limit) {
            int low = 0;
            int high = MOST_LOSS + 1;
            for (int i = 0; i < 12 && low < high; i++) {
                int middle = (low + high) / 2;
                if (stockWith(office, year, middle) <= limit) {
                    high = middle;
                } else {
                    low = middle + 1;
                }
            }
            return low;
        }

        private void beginFish(long[] shoal) {
            for (int a = 0; a < AGES && a < shoal.length; a++) {
                shoal[a] = manyOf[a];
            }
        }

        /** One YEAR goes over a shoal: what is landed. From the oldest down, so each moves once. */
        private long landedInYear(long[] shoal, int mesh, int effort, int loss, int newcomers) {
            long coins = 0L;
            long older = 0L;
            for (int a = AGES - 1; a >= 0 && a < shoal.length; a--) {
                long caught = lengthOf[a] >= mesh ? shoal[a] * effort / 1000 : 0L;
                long left = (shoal[a] - caught) * (1000 - loss) / 1000;
                coins += caught * worthOf[a];
                if (a == AGES - 1) {
                    older = left;
                } else {
                    shoal[a + 1] = left + older;
                    older = 0L;
                }
            }
            if (shoal.length > 0) {
                shoal[0] = newcomers;
            }
            return coins;
        }

        long landedBy(int years, int mesh, int effort, int loss, int newcomers) {
            beginFish(fish);
            long coins = 0L;
            for (int y = 0; y < years; y++) {
                coins += landedInYear(fish, mesh, effort, loss, newcomers);
            }
            return coins;
        }

        int paysFrom(int a, int b, int effort, int loss, int newcomers) {
            beginFish(fish);
            beginFish(otherFish);
            long ahead = 0L;
            for (int y = 1; y <= FISHED_YEARS; y++) {
                ahead += landedInYear(otherFish, b, effort, loss, newcomers);
                ahead -= landedInYear(fish, a, effort, loss, newcomers);
                if (ahead >= 0L) {
                    return y;
                }
            }
            return NEVER;
        }
    }

    private static final class Towns {
        static final int MOST = 8;
        static final int MOST_BARS = 20;
        static final int WEEKS = 100;

        final int[] sideOf = new int[MOST];
        final int[] votesOf = new int[MOST];
        final int[] patienceOf = new int[MOST];
        final int[] coinsOf = new int[MOST];
        int size;
        /** Which TOWN is barred in which WEEK: bars that overlap count once. */
        final boolean[] barred = new boolean[MOST * WEEKS];
        int bars;

        static boolean isWeek(int week) {
            return lies(week, 0, WEEKS - 1);
        }

        boolean has(int town) {
            return town >= 0 && town < size;
        }

        int add(int side, int votes, int patience, int coins) {
            if (size >= MOST) {
                return NONE;
            }
            sideOf[size] = side;
            votesOf[size] = votes;
            patienceOf[size] = patience;
            coinsOf[size] = coins;
            size++;
            return size - 1;
        }

        int addBar(int town, int a, int b) {
            if (bars >= MOST_BARS || !has(town) || !isWeek(a) || !isWeek(b)) {
                return NONE;
            }
            for (int week = a; week <= b; week++) {
                barred[town * WEEKS + week] = true;
            }
            bars++;
            return bars;
        }

        int lostBy(int town, int week) {
            if (!has(town)) {
                return NONE;
            }
            int coins = 0;
            for (int w = 0; w <= week && w < WEEKS; w++) {
                coins += barred[town * WEEKS + w] ? coinsOf[town] : 0;
            }
            return coins;
        }

        int weekOf(int town) {
            if (!has(town)) {
                return NONE;
            }
            int coins = 0;
            for (int w = 0; w < WEEKS; w++) {
                coins += barred[town * WEEKS + w] ? coinsOf[town] : 0;
                if (coins > 0 && coins >= patienceOf[town]) {
                    return w;
                }
            }
            return NEVER;
        }

        /** The answer is a WEEK in which one of its TOWNS gives way: the first that is enough. */
        int weekOfSide(int side) {
            int first = NEVER;
            for (int t = 0; t < size; t++) {
                int week = sideOf[t] == side ? weekOf(t) : NEVER;
                if (week >= 0 && (first == NEVER || week < first) && isEnough(side, week)) {
                    first = week;
                }
            }
            return first;
        }

        private boolean isEnough(int side, int week) {
            int all = 0;
            int given = 0;
            for (int t = 0; t < size; t++) {
                if (sideOf[t] == side) {
                    int gives = weekOf(t);
                    all += votesOf[t];
                    given += gives >= 0 && gives <= week ? votesOf[t] : 0;
                }
            }
            return 2 * given > all;
        }
    }

    /** TERMS of a NOTE. */
    private static final class Note {
        static final int MOST = 9;
        /** Above every difference, so that one TERM more weighs more than any of them. */
        static final int TERM_WEIGHT = 1000000;

        final int[] worthTo0 = new int[MOST];
        final int[] worthTo1 = new int[MOST];
        int size;

        int add(int a, int b) {
            if (size >= MOST) {
                return NONE;
            }
            worthTo0[size] = a;
            worthTo1[size] = b;
            size++;
            return size - 1;
        }

        int bestSet(int a, int b) {
            int best = NEVER;
            int bestWeight = 0;
            for (int set = 0; set < 1 << size; set++) {
                int to0 = worthOf(worthTo0, set);
                int to1 = worthOf(worthTo1, set);
                int weight = Integer.bitCount(set) * TERM_WEIGHT + Math.abs(to0 - to1);
                if (to0 >= a && to1 >= b && (best == NEVER || weight < bestWeight)) {
                    best = set;
                    bestWeight = weight;
                }
            }
            return best;
        }

        private int worthOf(int[] worths, int set) {
            int worth = 0;
            for (int i = 0; i < size && i < worths.length; i++) {
                worth += (set >>> i & 1) == 1 ? worths[i] : 0;
            }
            return worth;
        }
    }

    private static final class Boxes {
        static final int MOST = 6;
        static final int TRAWLERS = 12;
        static final int FRIGATES = 6;
        static final int NOT_TOLD = -1000000000;
        /** Above every difference in CAUGHT, so that one CUT more weighs more than any of them. */
        static final long CUT_WEIGHT = 1000000L;
        static final long IMPOSSIBLE = 1000000000000L;

        final int[] fishOf = new int[MOST];
        final int[] crowdOf = new int[MOST];
        final int[] riskOf = new int[MOST];
        int size;
        /** The least weight with which BOXES from one on take so many trawlers and frigates. */
        final long[] least = new long[(MOST + 1) * (TRAWLERS + 1) * (FRIGATES + 1)];
        final int[] trawlersIn = new int[MOST];
        final int[] frigatesIn = new int[MOST];
        int caught = NOT_TOLD;
        int boxesThen;

        int add(int fish, int crowd, int risk) {
            if (size >= MOST) {
                return NONE;
            }
            fishOf[size] = fish;
            crowdOf[size] = crowd;
            riskOf[size] = risk;
            size++;
            return size - 1;
        }

        private int cutOf(int b, int t, int f) {
            return lies(b, 0, size - 1) ? Math.max(0, t * riskOf[b] - 10 * f) : 0;
        }

        private int caughtOf(int b, int t) {
            return lies(b, 0, size - 1) ? t * fishOf[b] - t * (t - 1) * crowdOf[b] : 0;
        }

        private long weightOf(int b, int t, int f) {
            return cutOf(b, t, f) * CUT_WEIGHT - caughtOf(b, t);
        }

        private static int placeOf(int b, int t, int f) {
            return (b * (TRAWLERS + 1) + t) * (FRIGATES + 1) + f;
        }

        private long leastFrom(int b, int t, int f) {
            int place = placeOf(b, t, f);
            return lies(place, 0, least.length - 1) ? least[place] : IMPOSSIBLE;
        }

        int give(int trawlers, int frigates) {
            Arrays.fill(least, IMPOSSIBLE);
            least[placeOf(size, 0, 0)] = 0L;
            for (int b = size - 1; b >= 0; b--) {
                weighFrom(b, trawlers, frigates);
            }
            return takeFirst(trawlers, frigates);
        }

        private void weighFrom(int b, int trawlers, int frigates) {
            for (int t = 0; t <= trawlers && t <= TRAWLERS; t++) {
                for (int f = 0; f <= frigates && f <= FRIGATES; f++) {
                    least[placeOf(b, t, f)] = weigh(b, t, f);
                }
            }
        }

        private long weigh(int b, int trawlers, int frigates) {
            long best = IMPOSSIBLE;
            for (int t = 0; t <= trawlers; t++) {
                for (int f = 0; f <= frigates; f++) {
                    long rest = leastFrom(b + 1, trawlers - t, frigates - f);
                    if (rest < IMPOSSIBLE) {
                        best = Math.min(best, rest + weightOf(b, t, f));
                    }
                }
            }
            return best;
        }

        /** Takes for each BOX in turn the fewest with which the best is still reached. */
        private int takeFirst(int trawlers, int frigates) {
            int trawlersLeft = trawlers;
            int frigatesLeft = frigates;
            int cut = 0;
            caught = 0;
            boxesThen = size;
            for (int b = 0; b < size; b++) {
                takeIn(b, trawlersLeft, frigatesLeft);
                trawlersLeft -= trawlersIn[b];
                frigatesLeft -= frigatesIn[b];
                cut += cutOf(b, trawlersIn[b], frigatesIn[b]);
                caught += caughtOf(b, trawlersIn[b]);
            }
            return cut;
        }

        private void takeIn(int b, int trawlers, int frigates) {
            long aim = leastFrom(b, trawlers, frigates);
            for (int t = 0; t <= trawlers; t++) {
                for (int f = 0; f <= frigates; f++) {
                    long rest = leastFrom(b + 1, trawlers - t, frigates - f);
                    if (rest < IMPOSSIBLE && rest + weightOf(b, t, f) == aim) {
                        trawlersIn[b] = t;
                        frigatesIn[b] = f;
                        return;
                    }
                }
            }
        }

        int given(int what) {
            if (what == 0) {
                return caught;
            }
            if (lies(what, 100, 99 + boxesThen)) {
                return trawlersIn[what - 100];
            }
            if (lies(what, 200, 199 + boxesThen)) {
                return frigatesIn[what - 200];
            }
            return NOT_TOLD;
        }
    }
}
