import java.util.ArrayList;

/** An arcade route of pinball tables; the promises that it keeps are told in ../shared/DOC.md. */
public final class TiltRoute {
    public static final int NONE = -1;
    public static final int SWITCHES = 0, COILS = 1;

    private static final int KINDS = 2;
    private static final int MOST_TABLES = 6;
    private static final int MOST_BUMPERS = 8;
    private static final int MOST_MODES = 4;
    private static final int MOST_STACKED = 3;
    private static final int MOST_GAMES = 40;
    private static final int MOST_STICKINGS = 60;
    private static final int MOST_PARTS = 20;
    private static final int MOST_ORDERS = 720;
    private static final int BALLS = 3;
    private static final int LAST_STEP = 300;
    private static final int STICKING_STEPS = 10;
    private static final int LAST_X = 159;
    private static final int LAST_Y = 239;
    private static final int MOST_SPEED = 30;
    private static final int FALL = 2;
    private static final int BROKEN_WEAR = 40;
    private static final int FULL_BOX = 20;
    /* A step closes at most two switches by bumps, and every tenth one at most all eight that stick. */
    private static final int MOST_ENTRIES = BALLS * (LAST_STEP * 2 + LAST_STEP / STICKING_STEPS * MOST_BUMPERS);

    private final ArrayList<Table> tables = new ArrayList<>();
    private final ArrayList<Game> games = new ArrayList<>();
    private final Van firstVan = new Van();
    private final Van secondVan = new Van();
    private final boolean[] mended = new boolean[MOST_STICKINGS];
    private final Play replay = new Play();
    private final Plan plan = new Plan();
    private final int[] validScores = new int[MOST_GAMES];
    private int stickings = 0;

    public TiltRoute() {
    }

    // ---- tables

    public int addTable(int site, int price) throws IllegalArgumentException, IllegalStateException {
        demandRange(site, 0, 100);
        demandRange(price, 1, 9);
        if (tables.size() >= MOST_TABLES) {
            throw new IllegalStateException("there are 6 tables");
        }
        tables.add(new Table(site, price));
        return tables.size() - 1;
    }

    public int addBumper(int table, int left, int top, int size, int kick)
            throws IndexOutOfBoundsException, IllegalArgumentException, IllegalStateException {
        Table place = demandTable(table);
        demandRange(left, 0, LAST_X);
        demandRange(top, 0, LAST_Y);
        demandRange(size / 100, 1, 60);
        demandRange(size % 100, 1, 60);
        demandRange(kick, 0, 20);
        demandNoGame(place);
        if (place.bumpers.size() >= MOST_BUMPERS) {
            throw new IllegalStateException("the table has 8 bumpers");
        }
        place.bumpers.add(new Bumper(left, top, size / 100, size % 100, kick));
        return place.bumpers.size() - 1;
    }

    public int setPoints(int table, int number, int points)
            throws IndexOutOfBoundsException, IllegalArgumentException, IllegalStateException {
        Table place = demandTable(table);
        demandBumper(place, number);
        demandRange(points, 0, 1000);
        demandNoGame(place);
        int before = place.rules.pointsOf(number);
        place.rules.changePoints(number, points);
        return before;
    }

    public boolean setMode(int table, int mode, int switches, int limit, int bonus)
            throws IndexOutOfBoundsException, IllegalArgumentException, IllegalStateException {
        Table place = demandTable(table);
        demandIndex(mode, MOST_MODES);
        if (switches >= 0) {
            demandBumper(place, switches / 10);
            demandBumper(place, switches % 10);
        }
        demandLeast(switches, NONE);
        demandRange(limit / 100, 1, 20);
        demandRange(limit % 100, 2, 9);
        demandRange(bonus, 0, 5000);
        demandNoGame(place);
        boolean before = place.rules.modeOf(mode) != null;
        place.rules.changeMode(mode, switches == NONE ? null
                : new Mode(switches / 10, switches % 10, limit / 100, limit % 100, bonus));
        return before;
    }

    public int tables() {
        return tables.size();
    }

    public int stick(int table, int number) throws IndexOutOfBoundsException, IllegalStateException {
        Bumper bumper = demandBumper(demandTable(table), number);
        if (bumper.sticking != NONE) {
            throw new IllegalStateException("the switch sticks");
        }
        if (stickings >= MOST_STICKINGS) {
            throw new IllegalStateException("there were 60 stickings");
        }
        bumper.sticking = stickings;
        stickings++;
        return bumper.sticking;
    }

    public boolean sticks(int table, int number) throws IndexOutOfBoundsException {
        return demandBumper(demandTable(table), number).sticking != NONE;
    }

    public int wear(int table, int number) throws IndexOutOfBoundsException {
        return demandBumper(demandTable(table), number).wear;
    }

    // ---- games

    public int coin(int table) throws IndexOutOfBoundsException, IllegalStateException {
        Table place = demandTable(table);
        demandNoGame(place);
        if (games.size() >= MOST_GAMES) {
            throw new IllegalStateException("there were 40 games");
        }
        games.add(new Game(table, place.rules.copied()));
        place.game = games.size() - 1;
        place.box += place.price;
        place.brought += place.price;
        return place.game;
    }

    public int shoot(int table, int x, int right, int down)
            throws IndexOutOfBoundsException, IllegalArgumentException, IllegalStateException {
        Table place = demandTable(table);
        demandRange(x, 0, LAST_X);
        demandRange(right, -MOST_SPEED, MOST_SPEED);
        demandRange(down, -MOST_SPEED, MOST_SPEED);
        if (place.game < 0 || place.game >= games.size()) {
            throw new IllegalStateException("no game is on at the table");
        }
        Game game = games.get(place.game);
        int before = game.play.score;
        runBall(place, game, new Ball(x, right, down));
        game.ballsShot++;
        if (game.isOver()) {
            place.game = NONE;
        }
        return game.play.score - before;
    }

    public int gameAt(int table) throws IndexOutOfBoundsException {
        return demandTable(table).game;
    }

    public int games() {
        return games.size();
    }

    public int ballsLeft(int game) throws IndexOutOfBoundsException {
        return BALLS - demandGame(game).ballsShot;
    }

    public int stack(int game) throws IndexOutOfBoundsException {
        return demandGame(game).play.stackedModes();
    }

    public int score(int game) throws IndexOutOfBoundsException {
        return demandGame(game).play.score;
    }

    public int scoreByLog(int game) throws IndexOutOfBoundsException {
        return replayedScore(demandGame(game), false);
    }

    public int valid(int game) throws IndexOutOfBoundsException {
        return replayedScore(demandGame(game), true);
    }

    public int logged(int game) throws IndexOutOfBoundsException {
        return demandGame(game).logged;
    }

    public long entryAt(int game, int entry) throws IndexOutOfBoundsException {
        Game found = demandGame(game);
        demandIndex(entry, found.logged);
        return found.entryOf(entry);
    }

    public int twin(int game) throws IndexOutOfBoundsException {
        Game one = demandGame(game);
        if (!one.isOver() || one.logged == 0) {
            return NONE;
        }
        for (int i = 0; i < games.size(); i++) {
            Game other = games.get(i);
            if (i != game && other.isOver() && one.hasLogOf(other)) {
                return i;
            }
        }
        return NONE;
    }

    public int high(int table, int place) throws IndexOutOfBoundsException, IllegalArgumentException {
        demandTable(table);
        demandLeast(place, 0);
        for (int i = 0; i < games.size() && i < validScores.length; i++) {
            validScores[i] = ranksAt(i, table) ? replayedScore(games.get(i), true) : NONE;
        }
        for (int i = 0; i < games.size(); i++) {
            if (ranksAt(i, table) && countAhead(i) == place) {
                return i;
            }
        }
        return NONE;
    }

    // ---- boxes and vans

    public int rob(int table, int coins)
            throws IndexOutOfBoundsException, IllegalArgumentException, IllegalStateException {
        Table place = demandTable(table);
        demandRange(coins, 1, 100);
        if (place.box < coins) {
            throw new IllegalStateException("there are fewer coins in the box");
        }
        place.box -= coins;
        return place.box;
    }

    public int box(int table) throws IndexOutOfBoundsException {
        return demandTable(table).box;
    }

    public int missing(int table) throws IndexOutOfBoundsException {
        return demandTable(table).missing;
    }

    public int load(int van, int kind, int count)
            throws IndexOutOfBoundsException, IllegalArgumentException, IllegalStateException {
        Van loaded = demandVan(van);
        demandRange(kind, 0, KINDS - 1);
        demandRange(count, 1, MOST_PARTS);
        if (loaded.spareOf(kind) + count > MOST_PARTS) {
            throw new IllegalStateException("the van would have more than 20");
        }
        loaded.addSpare(kind, count);
        return loaded.spareOf(kind);
    }

    public int parts(int van, int kind) throws IndexOutOfBoundsException, IllegalArgumentException {
        Van asked = demandVan(van);
        demandRange(kind, 0, KINDS - 1);
        return asked.spareOf(kind);
    }

    public int wanted(int kind) throws IllegalArgumentException {
        demandRange(kind, 0, KINDS - 1);
        int faults = 0;
        for (int i = 0; i < tables.size(); i++) {
            faults += tables.get(i).countFaults(kind);
        }
        return Math.max(0, faults - firstVan.spareOf(kind) - secondVan.spareOf(kind));
    }

    public int way(int van) throws IndexOutOfBoundsException {
        plan.search(tables, demandVan(van).site);
        return plan.length;
    }

    public int planned(int van, int place) throws IndexOutOfBoundsException {
        plan.search(tables, demandVan(van).site);
        demandIndex(place, plan.count);
        return plan.tableOf(place);
    }

    public int go(int van) throws IndexOutOfBoundsException, IllegalStateException {
        Van going = demandVan(van);
        plan.search(tables, going.site);
        if (plan.count == 0) {
            throw new IllegalStateException("no table needs service");
        }
        int taken = 0;
        for (int i = 0; i < plan.count; i++) {
            Table served = demandTable(plan.tableOf(i));
            taken += served.emptyBox();
            mendSwitches(served, going);
            mendCoils(served, going);
            going.site = served.site;
        }
        return taken;
    }

    public int vanAt(int van) throws IndexOutOfBoundsException {
        return demandVan(van).site;
    }

    // ---- what the calls demand

    private Table demandTable(int table) throws IndexOutOfBoundsException {
        if (table < 0 || table >= tables.size()) {
            throw new IndexOutOfBoundsException("there is no such table");
        }
        return tables.get(table);
    }

    private static Bumper demandBumper(Table table, int number) throws IndexOutOfBoundsException {
        if (number < 0 || number >= table.bumpers.size()) {
            throw new IndexOutOfBoundsException("there is no such switch");
        }
        return table.bumpers.get(number);
    }

    private Game demandGame(int game) throws IndexOutOfBoundsException {
        if (game < 0 || game >= games.size()) {
            throw new IndexOutOfBoundsException("there is no such game");
        }
        return games.get(game);
    }

    private Van demandVan(int van) throws IndexOutOfBoundsException {
        if (van != 0 && van != 1) {
            throw new IndexOutOfBoundsException("there is no such van");
        }
        return van == 0 ? firstVan : secondVan;
    }

    private static void demandIndex(int index, int count) throws IndexOutOfBoundsException {
        if (index < 0 || index >= count) {
            throw new IndexOutOfBoundsException("there is no such one");
        }
    }

    private static void demandRange(int value, int least, int most) throws IllegalArgumentException {
        if (value < least || value > most) {
            throw new IllegalArgumentException("an argument is out of its range");
        }
    }

    private static void demandLeast(int value, int least) throws IllegalArgumentException {
        if (value < least) {
            throw new IllegalArgumentException("an argument is too low");
        }
    }

    private static void demandNoGame(Table table) throws IllegalStateException {
        if (table.game != NONE) {
            throw new IllegalStateException("a game is on at the table");
        }
    }

    // ---- balls and scores

    private static void runBall(Table table, Game game, Ball ball) {
        for (int step = 1; step <= LAST_STEP && !ball.isOut(); step++) {
            ball.fall();
            // Both bumps come ahead of both hits, as a bumper that the first hit breaks still kicks in this step.
            int across = ball.moveAcross(table);
            int downwards = ball.moveDownwards(table);
            hitBumper(table, game, across, step);
            hitBumper(table, game, downwards, step);
            if (step % STICKING_STEPS == 0) {
                closeSticking(table, game, step);
            }
        }
    }

    private static void hitBumper(Table table, Game game, int number, int step) {
        if (number < 0 || number >= table.bumpers.size()) {
            return;
        }
        Bumper bumper = table.bumpers.get(number);
        bumper.wear++;
        if (bumper.sticking == NONE) {
            game.closeSwitch(number, step, NONE);
        }
    }

    private static void closeSticking(Table table, Game game, int step) {
        for (int i = 0; i < table.bumpers.size(); i++) {
            int sticking = table.bumpers.get(i).sticking;
            if (sticking != NONE) {
                game.closeSwitch(i, step, sticking);
            }
        }
    }

    private int replayedScore(Game game, boolean withoutMended) {
        replay.restart();
        for (int i = 0; i < game.logged; i++) {
            long entry = game.entryOf(i);
            if (!withoutMended || !isMended(Game.stickingIn(entry))) {
                replay.takeSwitch(game.rules, Game.switchIn(entry));
            }
        }
        return replay.score;
    }

    private boolean isMended(int sticking) {
        return sticking >= 0 && sticking < mended.length && mended[sticking];
    }

    private boolean ranksAt(int game, int table) {
        return game >= 0 && game < games.size() && games.get(game).table == table && games.get(game).isOver();
    }

    /* Games that are not ranked have the valid score NONE here, which is ahead of nobody. */
    private int countAhead(int game) {
        if (game < 0 || game >= validScores.length) {
            return NONE;
        }
        int ahead = 0;
        for (int i = 0; i < games.size() && i < validScores.length; i++) {
            if (validScores[i] > validScores[game] || validScores[i] == validScores[game] && i < game) {
                ahead++;
            }
        }
        return ahead;
    }

    // ---- service

    private void mendSwitches(Table table, Van van) {
        for (int i = 0; i < table.bumpers.size(); i++) {
            Bumper bumper = table.bumpers.get(i);
            int sticking = bumper.sticking;
            if (sticking >= 0 && sticking < mended.length && van.takeSpare(SWITCHES)) {
                mended[sticking] = true;
                bumper.sticking = NONE;
            }
        }
    }

    private static void mendCoils(Table table, Van van) {
        for (int i = 0; i < table.bumpers.size(); i++) {
            Bumper bumper = table.bumpers.get(i);
            if (bumper.isBroken() && van.takeSpare(COILS)) {
                bumper.wear = 0;
            }
        }
    }

    /** A table: its site, its bumpers, its box, and the game that is on at it. */
    private static final class Table {
        final int site;
        final int price;
        final ArrayList<Bumper> bumpers = new ArrayList<>();
        final Rules rules = new Rules();
        int game = NONE;
        int box = 0;
        int brought = 0;
        int missing = 0;

        Table(int site, int price) {
            this.site = site;
            this.price = price;
        }

        /** Returns the lowest bumper in whose box the part is, or NONE. */
        int bumperOver(int x, int y) {
            for (int i = 0; i < bumpers.size(); i++) {
                if (bumpers.get(i).holdsPart(x, y)) {
                    return i;
                }
            }
            return NONE;
        }

        int countFaults(int kind) {
            int faults = 0;
            for (int i = 0; i < bumpers.size(); i++) {
                Bumper bumper = bumpers.get(i);
                if (kind == SWITCHES ? bumper.sticking != NONE : bumper.isBroken()) {
                    faults++;
                }
            }
            return faults;
        }

        boolean needsService() {
            return game == NONE && (box >= FULL_BOX || countFaults(SWITCHES) > 0 || countFaults(COILS) > 0);
        }

        int emptyBox() {
            int taken = box;
            missing += brought - box;
            brought = 0;
            box = 0;
            return taken;
        }
    }

    /** A bumper with its switch; its sticking is the number of the one that goes on, or NONE. */
    private static final class Bumper {
        final int left;
        final int top;
        final int width;
        final int height;
        final int kick;
        int wear = 0;
        int sticking = NONE;

        Bumper(int left, int top, int width, int height, int kick) {
            this.left = left;
            this.top = top;
            this.width = width;
            this.height = height;
            this.kick = kick;
        }

        boolean isBroken() {
            return wear >= BROKEN_WEAR;
        }

        boolean holdsPart(int x, int y) {
            return x >= left && x < left + width && y >= top && y < top + height;
        }

        /** Returns the speed that a ball has behind its bump against this bumper. */
        int speedBehindBump(int speed) {
            if (speed == 0 || isBroken()) {
                return -speed;
            }
            int grown = Math.min(MOST_SPEED, Math.abs(speed) + kick);
            return speed > 0 ? -grown : grown;
        }
    }

    /** A mode as it is defined; it never changes, so that tables and games may share it. */
    private static final class Mode {
        final int begins;
        final int ends;
        final int limit;
        final int times;
        final int bonus;

        Mode(int begins, int ends, int limit, int times, int bonus) {
            this.begins = begins;
            this.ends = ends;
            this.limit = limit;
            this.times = times;
            this.bonus = bonus;
        }
    }

    /** The points and modes by which switches score; a mode that is not defined is null. */
    private static final class Rules {
        private final int[] points = new int[MOST_BUMPERS];
        private final Mode[] modes = new Mode[MOST_MODES];

        Rules copied() {
            Rules copy = new Rules();
            for (int i = 0; i < points.length; i++) {
                copy.changePoints(i, points[i]);
            }
            for (int i = 0; i < modes.length; i++) {
                copy.changeMode(i, modes[i]);
            }
            return copy;
        }

        int pointsOf(int number) {
            return number >= 0 && number < points.length ? points[number] : 0;
        }

        void changePoints(int number, int value) {
            if (number >= 0 && number < points.length) {
                points[number] = value;
            }
        }

        Mode modeOf(int mode) {
            return mode >= 0 && mode < modes.length ? modes[mode] : null;
        }

        void changeMode(int mode, Mode definition) {
            if (mode >= 0 && mode < modes.length) {
                modes[mode] = definition;
            }
        }
    }

    /** A score with its stack of modes, as it grows from switch to switch. */
    private static final class Play {
        private final int[] stacked = new int[MOST_STACKED];
        private final int[] hits = new int[MOST_STACKED];
        private int depth = 0;
        int score = 0;

        void restart() {
            depth = 0;
            score = 0;
        }

        void takeSwitch(Rules rules, int number) {
            int top = depth - 1;
            Mode mode = top >= 0 && top < stacked.length ? rules.modeOf(stacked[top]) : null;
            score += rules.pointsOf(number) * (mode == null ? 1 : mode.times);
            if (mode != null && top < hits.length) {
                hits[top]++;
                if (number == mode.ends || hits[top] == mode.limit) {
                    depth = top;
                    score += mode.bonus;
                    return;
                }
            }
            beginMode(rules, number);
        }

        private void beginMode(Rules rules, int number) {
            if (depth < 0 || depth >= stacked.length || depth >= hits.length) {
                return;
            }
            for (int i = 0; i < MOST_MODES; i++) {
                Mode mode = rules.modeOf(i);
                if (mode != null && mode.begins == number && !isStacked(i)) {
                    stacked[depth] = i;
                    hits[depth] = 0;
                    depth++;
                    return;
                }
            }
        }

        private boolean isStacked(int mode) {
            for (int i = 0; i < depth && i < stacked.length; i++) {
                if (stacked[i] == mode) {
                    return true;
                }
            }
            return false;
        }

        int stackedModes() {
            int told = 0;
            for (int i = 0; i < depth && i < stacked.length; i++) {
                told = told * 10 + stacked[i] + 1;
            }
            return told;
        }
    }

    /** A game with its own copy of the rules, its score, and its log. */
    private static final class Game {
        final int table;
        final Rules rules;
        final Play play = new Play();
        private final long[] log = new long[MOST_ENTRIES];
        int logged = 0;
        int ballsShot = 0;

        Game(int table, Rules rules) {
            this.table = table;
            this.rules = rules;
        }

        static int switchIn(long entry) {
            return (int) (entry & 15);
        }

        static int stickingIn(long entry) {
            return (int) (entry >> 20 & 4095) - 1;
        }

        boolean isOver() {
            return ballsShot >= BALLS;
        }

        /** Closes a switch; the sticking is NONE if the switch was closed by a hit. */
        void closeSwitch(int number, int step, int sticking) {
            if (logged < 0 || logged >= log.length) {
                return;
            }
            log[logged] = number | (long) ballsShot << 4 | (long) step << 8 | (long) (sticking + 1) << 20;
            logged++;
            play.takeSwitch(rules, number);
        }

        long entryOf(int entry) {
            return entry >= 0 && entry < log.length ? log[entry] : 0;
        }

        boolean hasLogOf(Game other) {
            if (logged != other.logged) {
                return false;
            }
            for (int i = 0; i < logged; i++) {
                if (entryOf(i) != other.entryOf(i)) {
                    return false;
                }
            }
            return true;
        }
    }

    /** A ball on its way through the field. */
    private static final class Ball {
        private int x;
        private int y = 0;
        private int right;
        private int down;

        Ball(int x, int right, int down) {
            this.x = x;
            this.right = right;
            this.down = down;
        }

        boolean isOut() {
            return y > LAST_Y;
        }

        void fall() {
            down = Math.min(MOST_SPEED, down + FALL);
        }

        /** Moves to the right, and returns the bumper that it bumps against, or NONE. */
        int moveAcross(Table table) {
            int before = x;
            x += right;
            if (x < 0 || x > LAST_X) {
                x = x < 0 ? -x : 2 * LAST_X - x;
                right = -right;
            }
            int number = table.bumperOver(x, y);
            if (number >= 0 && number < table.bumpers.size()) {
                x = before;
                right = table.bumpers.get(number).speedBehindBump(right);
            }
            return number;
        }

        /** Moves downwards, and returns the bumper that it bumps against, or NONE. */
        int moveDownwards(Table table) {
            int before = y;
            y += down;
            if (isOut()) {
                return NONE;
            }
            if (y < 0) {
                y = -y;
                down = -down;
            }
            int number = table.bumperOver(x, y);
            if (number >= 0 && number < table.bumpers.size()) {
                y = before;
                down = table.bumpers.get(number).speedBehindBump(down);
            }
            return number;
        }
    }

    /** A van: where it is, and its spare parts by kind. */
    private static final class Van {
        private final int[] spare = new int[KINDS];
        int site = 0;

        int spareOf(int kind) {
            return kind >= 0 && kind < spare.length ? spare[kind] : 0;
        }

        void addSpare(int kind, int count) {
            if (kind >= 0 && kind < spare.length) {
                spare[kind] += count;
            }
        }

        boolean takeSpare(int kind) {
            if (spareOf(kind) == 0) {
                return false;
            }
            addSpare(kind, -1);
            return true;
        }
    }

    /** The shortest way to all tables that need service; its rows are used again by each search. */
    private static final class Plan {
        private final int[] sites = new int[MOST_TABLES];
        private final int[] order = new int[MOST_TABLES];
        private final int[] best = new int[MOST_TABLES];
        int count = 0;
        int length = 0;

        /* The orders come by rising tables, so that the first one of the shortest is the one to keep. */
        void search(ArrayList<Table> tables, int from) {
            gather(tables);
            length = measureOrder(from);
            keepOrder();
            for (int i = 1; i < MOST_ORDERS && nextOrder(); i++) {
                int measured = measureOrder(from);
                if (measured < length) {
                    length = measured;
                    keepOrder();
                }
            }
        }

        int tableOf(int place) {
            return place >= 0 && place < count && place < best.length ? best[place] : NONE;
        }

        private void gather(ArrayList<Table> tables) {
            count = 0;
            for (int i = 0; i < tables.size() && i < sites.length && count < order.length; i++) {
                Table table = tables.get(i);
                sites[i] = table.site;
                if (table.needsService()) {
                    order[count] = i;
                    count++;
                }
            }
        }

        private int measureOrder(int from) {
            int sum = 0;
            int at = from;
            for (int i = 0; i < count && i < order.length; i++) {
                int table = order[i];
                int site = table >= 0 && table < sites.length ? sites[table] : at;
                sum += Math.abs(site - at);
                at = site;
            }
            return sum;
        }

        private void keepOrder() {
            for (int i = 0; i < count && i < order.length && i < best.length; i++) {
                best[i] = order[i];
            }
        }

        /** Makes the next order, by rising tables, and returns whether there was one. */
        private boolean nextOrder() {
            int head = Math.min(count, order.length) - 2;
            while (head >= 0 && order[head] > order[head + 1]) {
                head--;
            }
            if (head < 0) {
                return false;
            }
            int last = Math.min(count, order.length) - 1;
            int tail = last;
            while (tail > head && order[tail] < order[head]) {
                tail--;
            }
            swapOrder(head, tail);
            int low = head + 1;
            int high = last;
            while (low < high) {
                swapOrder(low, high);
                low++;
                high--;
            }
            return true;
        }

        private void swapOrder(int one, int other) {
            if (one >= 0 && one < order.length && other >= 0 && other < order.length) {
                int kept = order[one];
                order[one] = order[other];
                order[other] = kept;
            }
        }
    }
}
