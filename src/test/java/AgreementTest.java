/** Long runs of calls, answered by TiltRoute and by PlainRoute, which have to agree. */
public final class AgreementTest {
    private static final int RUNS = 600;
    private static final int CALLS = 512;
    private static final int[] WILD = {Integer.MIN_VALUE, Integer.MAX_VALUE, -1, -2, 0, 1, 100, 1000, -100, 40, 60};

    private final TiltRoute x = new TiltRoute();
    private final PlainRoute y = new PlainRoute();
    private boolean wild = false;
    private long number;

    private AgreementTest(int run) {
        number = run * 7919L + 12345;
    }

    /** The next number of a fixed row, from least to most; a wild one now and then. */
    private int any(int least, int most) {
        number = number * 6364136223846793005L + 1442695040888963407L;
        int drawn = (int) (number >>> 33);
        if (wild && drawn % 29 == 0) {
            return WILD[drawn / 29 % WILD.length];
        }
        return least + drawn % (most - least + 1);
    }

    private static String answer(Check.Call call) {
        try {
            return String.valueOf(call.answer());
        } catch (RuntimeException e) {
            return Check.nameOf(e);
        }
    }

    private void both(String told, Check.Call first, Check.Call second) {
        Check.due(told, answer(first), answer(second));
    }

    private int anyTable() {
        return any(0, Math.max(0, x.tables() - 1));
    }

    private int anyGame() {
        return any(0, x.games());
    }

    private void addTable() {
        int site = any(0, 100) / 10 * any(1, 10);
        int price = any(1, 9);
        both("addTable", () -> x.addTable(site, price), () -> y.addTable(site, price));
    }

    private void addBumper() {
        int t = anyTable();
        int left = any(0, 159);
        int top = any(0, 239);
        int size = 100 * any(1, 60) + any(1, 60);
        int kick = any(0, 20);
        both("addBumper", () -> x.addBumper(t, left, top, size, kick), () -> y.addBumper(t, left, top, size, kick));
    }

    private void setPoints() {
        int t = anyTable();
        int s = any(0, 7);
        int points = any(0, 1000);
        both("setPoints", () -> x.setPoints(t, s, points), () -> y.setPoints(t, s, points));
    }

    private void setMode() {
        int t = anyTable();
        int mode = any(0, 3);
        int switches = any(0, 9) == 0 ? -1 : 10 * any(0, 5) + any(0, 5);
        int limit = 100 * any(1, 20) + any(2, 9);
        int bonus = any(0, 5000);
        both("setMode", () -> x.setMode(t, mode, switches, limit, bonus),
                () -> y.setMode(t, mode, switches, limit, bonus));
    }

    private void shoot() {
        int t = anyTable();
        int part = any(0, 159);
        int right = any(-30, 30);
        int down = any(-30, 30);
        both("shoot", () -> x.shoot(t, part, right, down), () -> y.shoot(t, part, right, down));
    }

    private void change() {
        int t = anyTable();
        int s = any(0, 7);
        int van = any(0, 1);
        int kind = any(0, 1);
        int count = any(1, 6);
        switch (any(0, 16)) {
            case 0 -> addTable();
            case 1, 2 -> addBumper();
            case 3 -> setPoints();
            case 4 -> setMode();
            case 5 -> both("stick", () -> x.stick(t, s), () -> y.stick(t, s));
            case 6, 7, 8 -> both("coin", () -> x.coin(t), () -> y.coin(t));
            case 9 -> both("rob", () -> x.rob(t, count), () -> y.rob(t, count));
            case 10 -> both("load", () -> x.load(van, kind, count), () -> y.load(van, kind, count));
            case 11 -> both("go", () -> x.go(van), () -> y.go(van));
            default -> shoot();
        }
    }

    private void askOfTables() {
        int t = anyTable();
        int s = any(0, 7);
        int place = any(0, 4);
        switch (any(0, 6)) {
            case 0 -> both("tables", x::tables, y::tables);
            case 1 -> both("sticks", () -> x.sticks(t, s), () -> y.sticks(t, s));
            case 2 -> both("wear", () -> x.wear(t, s), () -> y.wear(t, s));
            case 3 -> both("gameAt", () -> x.gameAt(t), () -> y.gameAt(t));
            case 4 -> both("high", () -> x.high(t, place), () -> y.high(t, place));
            case 5 -> both("box", () -> x.box(t), () -> y.box(t));
            default -> both("missing", () -> x.missing(t), () -> y.missing(t));
        }
    }

    private void askOfGames() {
        int g = anyGame();
        int entry = any(0, 20) == 0 ? any(0, 2000) : any(0, 20);
        switch (any(0, 8)) {
            case 0 -> both("games", x::games, y::games);
            case 1 -> both("ballsLeft", () -> x.ballsLeft(g), () -> y.ballsLeft(g));
            case 2 -> both("stack", () -> x.stack(g), () -> y.stack(g));
            case 3 -> both("score", () -> x.score(g), () -> y.score(g));
            case 4 -> both("scoreByLog", () -> x.scoreByLog(g), () -> y.scoreByLog(g));
            case 5 -> both("valid", () -> x.valid(g), () -> y.valid(g));
            case 6 -> both("logged", () -> x.logged(g), () -> y.logged(g));
            case 7 -> both("entryAt", () -> x.entryAt(g, entry), () -> y.entryAt(g, entry));
            default -> both("twin", () -> x.twin(g), () -> y.twin(g));
        }
    }

    private void askOfVans() {
        int van = any(0, 1);
        int kind = any(0, 1);
        int place = any(0, 5);
        switch (any(0, 4)) {
            case 0 -> both("parts", () -> x.parts(van, kind), () -> y.parts(van, kind));
            case 1 -> both("wanted", () -> x.wanted(kind), () -> y.wanted(kind));
            case 2 -> both("way", () -> x.way(van), () -> y.way(van));
            case 3 -> both("planned", () -> x.planned(van, place), () -> y.planned(van, place));
            default -> both("vanAt", () -> x.vanAt(van), () -> y.vanAt(van));
        }
    }

    private void build() {
        int tables = any(1, 6);
        for (int i = 0; i < tables; i++) {
            addTable();
        }
        for (int i = 0; i < 6 * tables; i++) {
            addBumper();
        }
        for (int i = 0; i < 4 * tables; i++) {
            setPoints();
            setMode();
        }
    }

    /** Asks all that can be asked of games, at the end of a run. */
    private void askAll() {
        for (int i = 0; i <= x.games(); i++) {
            int g = i;
            both("stack at the end", () -> x.stack(g), () -> y.stack(g));
            both("score at the end", () -> x.score(g), () -> y.score(g));
            both("scoreByLog at the end", () -> x.scoreByLog(g), () -> y.scoreByLog(g));
            both("valid at the end", () -> x.valid(g), () -> y.valid(g));
            both("twin at the end", () -> x.twin(g), () -> y.twin(g));
            both("logged at the end", () -> x.logged(g), () -> y.logged(g));
            for (int e = 0; g < x.games() && e < x.logged(g); e++) {
                Check.due("entryAt at the end", x.entryAt(g, e), y.entryAt(g, e));
            }
        }
    }

    private void play(boolean withWildNumbers) {
        build();
        wild = withWildNumbers;
        for (int i = 0; i < CALLS; i++) {
            switch (any(0, 5)) {
                case 0 -> askOfTables();
                case 1 -> askOfGames();
                case 2 -> askOfVans();
                default -> change();
            }
        }
        askAll();
    }

    public static void main(String[] args) {
        for (int run = 0; run < RUNS; run++) {
            new AgreementTest(run).play(run % 4 == 3);
        }
        Check.end();
    }
}
