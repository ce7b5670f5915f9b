/** Promises 10 and 12 to 16: games, their scores, and their stacks of modes. */
public final class GamesTest {
    private static final int LOW = Integer.MIN_VALUE;
    private static final int HIGH = Integer.MAX_VALUE;
    /** The limit 20 and twice the points. */
    private static final int TWICE = 2002;

    private GamesTest() {
    }

    /** A route with a table of 8 buttons; the points of the first ones are these. */
    private static TiltRoute withPoints(int... points) {
        TiltRoute x = new TiltRoute();
        Routes.addButtons(x, 0, 1, 8);
        for (int i = 0; i < points.length; i++) {
            x.setPoints(0, i, points[i]);
        }
        return x;
    }

    private static void promise10Coin() {
        TiltRoute x = new TiltRoute();
        Routes.addButtons(x, 0, 9, 1);
        Routes.addButtons(x, 0, 2, 1);
        for (int table : new int[] {-1, 2, LOW, HIGH}) {
            Check.raises("coin at " + table, Check.INDEX, x, () -> x.coin(table));
        }
        Check.due("the first game", x.coin(1), 0);
        Check.due("the box", x.box(1), 2);
        Check.due("the box of the other table", x.box(0), 0);
        Check.raises("coin as a game is on", Check.STATE, x, () -> x.coin(1));
        Check.due("a game at the other table", x.coin(0), 1);
        Check.due("the box for 9", x.box(0), 9);
        Routes.press(x, 1, 0);
        Routes.press(x, 1, 0);
        Check.raises("coin as the last ball is left", Check.STATE, x, () -> x.coin(1));
        Routes.press(x, 1, 0);
        Check.due("a game behind the last ball", x.coin(1), 2);
        Check.due("the box for two games", x.box(1), 4);
    }

    private static void promise10FortyGames() {
        TiltRoute x = new TiltRoute();
        Routes.addButtons(x, 0, 1, 1);
        Routes.addButtons(x, 0, 1, 1);
        for (int i = 0; i < 39; i++) {
            Check.due("a game", Routes.playEmpty(x, 0), i);
        }
        Check.due("the last game", x.coin(1), 39);
        Check.raises("a game 40", Check.STATE, x, () -> x.coin(0));
        Check.raises("a game 40 at no table", Check.INDEX, x, () -> x.coin(2));
        Check.due("the box behind it", x.box(0), 39);
        Check.due("games", x.games(), 40);
        Routes.press(x, 1, 0);
        Check.due("the log of the last game", x.logged(39), 1);
    }

    private static void promises12To14() {
        TiltRoute x = new TiltRoute();
        Routes.addButtons(x, 0, 1, 1);
        Routes.addButtons(x, 0, 1, 1);
        for (int table : new int[] {-1, 2, LOW, HIGH}) {
            Check.raises("gameAt " + table, Check.INDEX, x, () -> x.gameAt(table));
        }
        Check.raises("ballsLeft of no game", Check.INDEX, x, () -> x.ballsLeft(0));
        Check.due("gameAt at first", x.gameAt(1), TiltRoute.NONE);
        x.coin(1);
        Check.due("games", x.games(), 1);
        Check.due("gameAt of the other table", x.gameAt(0), TiltRoute.NONE);
        x.coin(0);
        Check.due("gameAt", x.gameAt(1), 0);
        Check.due("gameAt of the second game", x.gameAt(0), 1);
        Check.due("games", x.games(), 2);
        for (int game : new int[] {-1, 2, LOW, HIGH}) {
            Check.raises("ballsLeft of " + game, Check.INDEX, x, () -> x.ballsLeft(game));
        }
        for (int left = 3; left > 0; left--) {
            Check.due("ballsLeft", x.ballsLeft(0), left);
            Check.due("gameAt with balls left", x.gameAt(1), 0);
            Routes.miss(x, 1);
        }
        Check.due("ballsLeft behind the game", x.ballsLeft(0), 0);
        Check.due("gameAt behind the game", x.gameAt(1), TiltRoute.NONE);
        Check.due("ballsLeft of the other game", x.ballsLeft(1), 3);
        Check.due("gameAt of the other table", x.gameAt(0), 1);
        Check.due("games behind it", x.games(), 2);
    }

    private static void promises15And16Arguments() {
        TiltRoute x = withPoints(5);
        for (int game : new int[] {-1, 0, LOW, HIGH}) {
            Check.raises("stack of " + game, Check.INDEX, x, () -> x.stack(game));
            Check.raises("score of " + game, Check.INDEX, x, () -> x.score(game));
        }
        x.coin(0);
        Check.raises("stack of 1", Check.INDEX, x, () -> x.stack(1));
        Check.raises("score of 1", Check.INDEX, x, () -> x.score(1));
        Check.due("the stack at first", x.stack(0), 0);
        Check.due("the score at first", x.score(0), 0);
    }

    private static void pointsAndModesAsBegun() {
        TiltRoute x = withPoints(1, 10, 100, 1000);
        x.setMode(0, 0, 1, 302, 500);
        int game = Routes.playPresses(x, 0, 0, 0, 1);
        Check.due("1, twice 1, and twice 10 with the bonus", x.score(game), 523);
        Check.due("the stack behind the end", x.stack(game), 0);
        x.setPoints(0, 0, 7);
        x.setMode(0, 0, -1, 302, 500);
        Check.due("the score behind other points", x.score(game), 523);
        Check.due("the same by the log", x.scoreByLog(game), 523);
        Check.due("the valid score", x.valid(game), 523);
        game = Routes.playPresses(x, 0, 0, 0, 1);
        Check.due("7, 7 and 10", x.score(game), 24);
        Check.due("the first game again", x.scoreByLog(0), 523);
    }

    private static void scoresOfTwoTables() {
        TiltRoute x = withPoints(3);
        Routes.addButtons(x, 0, 1, 1);
        x.setPoints(1, 0, 20);
        x.setMode(1, 0, 0, TWICE, 0);
        x.coin(1);
        x.coin(0);
        Routes.press(x, 1, 0);
        Routes.press(x, 0, 0);
        Check.due("the score at the first table", x.score(1), 3);
        Check.due("the score at the second table", x.score(0), 20);
        Check.due("the stack at the first table", x.stack(1), 0);
        Check.due("the stack at the second table", x.stack(0), 1);
        Routes.miss(x, 1);
        Routes.miss(x, 1);
        Check.due("the stack of a game that is over", x.stack(0), 1);
    }

    /** Three modes are put on one another, with the times 3, 2 and 5; the fourth one has no room. */
    private static void threeModes() {
        TiltRoute x = withPoints(1, 10, 100, 1000);
        x.setMode(0, 0, 37, 2009, 1);
        x.setMode(0, 1, 27, 2005, 1);
        x.setMode(0, 2, 17, 2002, 1);
        x.setMode(0, 3, 7, 2003, 1);
        for (int i = 0; i < 4; i++) {
            x.stick(0, i);
        }
        x.coin(0);
        Check.due("a ball", Routes.wait(x, 0), 1 + 3 * 10 + 2 * 100 + 5 * 1000);
        Check.due("the stack", x.stack(0), 432);
        Check.due("a ball with the mode 1 on top", Routes.wait(x, 0), 5 * 1111);
        Check.due("the stack", x.stack(0), 432);
        Check.due("a ball that ends it, and begins it again by 2", Routes.pressAndWait(x, 0, 7),
                1 + 2 * 111 + 5 * 1000);
        Check.due("the stack", x.stack(0), 432);
        Check.due("the same by the log", x.scoreByLog(0), x.score(0));
    }

    private static void lowestModeThatIsNotInTheStack() {
        TiltRoute x = withPoints(1);
        x.setMode(0, 1, 7, 2002, 0);
        x.setMode(0, 2, 17, 2004, 0);
        x.setMode(0, 3, 7, 2003, 0);
        x.coin(0);
        Check.due("the first press", Routes.press(x, 0, 0), 1);
        Check.due("the stack", x.stack(0), 2);
        Check.due("the second press", Routes.press(x, 0, 0), 2);
        Check.due("the stack", x.stack(0), 24);
        Check.due("the third press", Routes.press(x, 0, 0), 3);
        Check.due("the stack", x.stack(0), 24);
        x.setMode(0, 0, 7, 2009, 0);
        x.coin(0);
        Routes.press(x, 0, 0);
        Check.due("the stack with the mode 0", x.stack(1), 1);
        Routes.press(x, 0, 0);
        Check.due("the stack with the modes 0 and 1", x.stack(1), 12);
        Check.due("the third press, twice", Routes.press(x, 0, 0), 2);
        Check.due("the stack with the modes 0, 1 and 3", x.stack(1), 124);
    }

    private static void limitOfHits() {
        TiltRoute x = withPoints(1, 10);
        x.setMode(0, 0, 7, 103, 500);
        int game = Routes.playPresses(x, 0, 0, 1, 1);
        Check.due("the limit 1", x.score(game), 1 + 530 + 10);
        Check.due("the stack", x.stack(game), 0);
        x.setMode(0, 0, 7, 203, 500);
        game = Routes.playPresses(x, 0, 0, 1, 1);
        Check.due("the limit 2", x.score(game), 1 + 30 + 530);
        Check.due("the stack", x.stack(game), 0);
        x.setMode(0, 0, 7, 303, 500);
        game = Routes.playPresses(x, 0, 0, 1, 1);
        Check.due("the limit 3", x.score(game), 1 + 30 + 30);
        Check.due("the stack", x.stack(game), 1);
    }

    /** The 20 hits of a limit, of a switch that sticks, one each 10 steps. */
    private static void limitOfTwenty() {
        TiltRoute x = new TiltRoute();
        x.addTable(0, 1);
        x.addBumper(0, 0, 0, 6060, 0);
        x.setPoints(0, 0, 1);
        x.addBumper(0, 100, 0, 101, 0);
        x.setMode(0, 0, 1, 2002, 5000);
        x.stick(0, 0);
        x.coin(0);
        Check.due("1, 20 with the bonus, and again 1 and 8", x.shoot(0, 30, 0, 0), 1 + 40 + 5000 + 1 + 16);
        Check.due("the stack", x.stack(0), 1);
    }

    private static void endOfAMode() {
        TiltRoute x = withPoints(1, 10);
        x.setMode(0, 0, 0, 2002, 500);
        int game = Routes.playPresses(x, 0, 0, 0, 0);
        Check.due("a mode that begins and ends by the same switch", x.score(game), 1 + 502 + 1);
        Check.due("the stack", x.stack(game), 1);
        x.setMode(0, 0, 1, 2002, 500);
        x.setMode(0, 1, 12, 2005, 0);
        game = Routes.playPresses(x, 0, 0, 1, 0);
        Check.due("that is all: no mode begins as one ends", x.score(game), 1 + 520 + 1);
        Check.due("the stack", x.stack(game), 1);
        x.setMode(0, 0, 7, 102, 500);
        game = Routes.playPresses(x, 0, 0, 1, 1);
        Check.due("nor as one has its limit", x.score(game), 1 + 520 + 10);
        Check.due("the stack", x.stack(game), 2);
    }

    /** The switch that ends the lower mode does nothing to it as long as another one is on top. */
    private static void theTopAloneEnds() {
        TiltRoute x = withPoints(1, 10, 100);
        x.setMode(0, 0, 2, 2002, 500);
        x.setMode(0, 1, 17, 2005, 7);
        int game = Routes.playPresses(x, 0, 0, 1, 2);
        Check.due("1, twice 10, and 5 times 100", x.score(game), 521);
        Check.due("the stack", x.stack(game), 12);
    }

    private static void hitsAreKeptBelow() {
        TiltRoute x = withPoints(1, 10, 100, 1000);
        x.setMode(0, 0, 7, 302, 500);
        x.setMode(0, 1, 12, 2009, 60);
        x.coin(0);
        x.stick(0, 3);
        Check.due("0 and 3", Routes.pressAndWait(x, 0, 0), 1 + 2000);
        x.stick(0, 2);
        Check.due("1, 2 and 3", Routes.pressAndWait(x, 0, 1), 20 + 960 + 2500);
        Check.due("the stack", x.stack(0), 0);
        Check.due("0, 2 and 3 again, with hits from 0 on", Routes.pressAndWait(x, 0, 0), 1 + 200 + 2000);
        Check.due("the stack", x.stack(0), 1);
        Check.due("the same by the log", x.scoreByLog(0), x.score(0));
    }

    private static void oneBallScoresTimesTimes() {
        for (int times = 2; times <= 9; times++) {
            TiltRoute x = withPoints(1, 1000);
            x.setMode(0, 2, 7, 2000 + times, 0);
            int game = Routes.playPresses(x, 0, 0, 1, 1);
            Check.due("times " + times, x.score(game), 1 + 2000 * times);
        }
    }

    public static void main(String[] args) {
        promise10Coin();
        promise10FortyGames();
        promises12To14();
        promises15And16Arguments();
        pointsAndModesAsBegun();
        scoresOfTwoTables();
        threeModes();
        lowestModeThatIsNotInTheStack();
        limitOfHits();
        limitOfTwenty();
        endOfAMode();
        theTopAloneEnds();
        hitsAreKeptBelow();
        oneBallScoresTimesTimes();
        Check.end();
    }
}
